theorem ne60 {x : Int32} (h : x = nI x.toNatClampNeg) (hn : ¬ x = 60) : x.toNatClampNeg ≠ 60 := fun e => hn (by rw [h, e]; rfl)
def sp_X7_elevons (s : Nat → Int32) (sa : Int32) (a : Int32) (b : Int32) (c_ : Int32) : Int32 := (if (sp_X7_in a 0 5) = 0 then 0 else (if (sp_X7_in b 0 5) = 0 then 0 else (if a = b then 0 else (if (sp_X7_in c_ 1 150) = 0 then 0 else (if (s 26) ≤ 8 then ((sp_X7_adds_s (sp_X7_adds_s (sp_X7_adds_s (sp_X7_adds_s (sp_X7_save_s s sa) 0 a c_ 0 0) 1 a c_ 0 0) 0 b (-c_) 0 0) 1 b c_ 0 0) 26) else 0)))))
def sp_X7_elevons_s (s : Nat → Int32) (sa : Int32) (a : Int32) (b : Int32) (c_ : Int32) : Nat → Int32 := (if (sp_X7_in a 0 5) = 0 then s else (if (sp_X7_in b 0 5) = 0 then s else (if a = b then s else (if (sp_X7_in c_ 1 150) = 0 then s else (if (s 26) ≤ 8 then (sp_X7_adds_s (sp_X7_adds_s (sp_X7_adds_s (sp_X7_adds_s (sp_X7_save_s s sa) 0 a c_ 0 0) 1 a c_ 0 0) 0 b (-c_) 0 0) 1 b c_ 0 0) else s)))))
def sp_X7_elevons_th (s : Nat → Int32) (a : Int32) (b : Int32) (c_ : Int32) : Int32 := (if (sp_X7_in a 0 5) = 0 then 1 else (if (sp_X7_in b 0 5) = 0 then 1 else (if a = b then 2 else (if (sp_X7_in c_ 1 150) = 0 then 2 else (if (s 26) ≤ 8 then 0 else 3)))))
def sp_X7_elevons_sa (s : Nat → Int32) (sa : Int32) (a : Int32) (b : Int32) (c_ : Int32) : Int32 := (if (sp_X7_in a 0 5) = 0 then sa else (if (sp_X7_in b 0 5) = 0 then sa else (if a = b then sa else (if (sp_X7_in c_ 1 150) = 0 then sa else (if (s 26) ≤ 8 then (sp_X7_save_sa sa) else sa)))))
set_option maxRecDepth 100000 in
theorem k_X7_elevons (l : Launch) (g : xGt) (am : Nat → Nat) (s fi tx dm : Nat → Int32) (th sa ln pa le sk nu : Int32) (h : Int64) (a : Int32) (b : Int32) (c_ : Int32) (hs : sa = nI (Int32.toNatClampNeg sa)) (hs6 : Int32.toNatClampNeg sa ≤ 6) (hm : rOk s 0) : xM l g.1 (xT g) yX7_elevons (ws_ yX7_elevons cX7_elevons 5 (some .int)) (xRm 2 44 0 0) 0 0 [.ref (am 0), .int a, .int b, .int c_] (wMo g am s fi tx dm th sa ln pa le sk nu h) (fun r9 w9 => r9 = some (.int (sp_X7_elevons s sa a b c_)) ∧ w9 = (wMo g am (sp_X7_elevons_s s sa a b c_) fi tx dm (sp_X7_elevons_th s a b c_) (sp_X7_elevons_sa s sa a b c_) ln pa le sk nu h)) (fun _ _ => False) := by
  refine x_start (own := RX7) (nm := "elevons") rfl rfl (by decide +kernel) rfl (nle rfl) (fun p e σ m args below meth c A C hno hr => ?_)
  refine x_lve (lv' := [(0, .ref (am 0)), (1, .int a), (2, .int b), (3, .int c_)]) rfl ?_
  refine x_iload_n C 1 rfl rfl dX7_elevons_0 ?_
  refine x_FS (w1 := ([] : va_W)) (wc := ([] : va_W)) (w2 := (wMo g am s fi tx dm th sa ln pa le sk nu h)) [.int a] [] (wMo g am s fi tx dm th sa ln pa le sk nu h) C (k_X7_isServo l g a) rfl yS_X7_isServo wML_X7_105 rfl rfl rfl (nle rfl) (nle rfl) (nle rfl) (nle rfl) (nle rfl) dX7_elevons_1 ?_
  refine x_if_eq C 18 (by decide) dX7_elevons_4 (fun h1 => ?_) (fun h1 => ?_)
  · refine x_iconst C 0 (by decide) dX7_elevons_18 ?_
    refine x_istore C [(4, .int 0), (0, .ref (am 0)), (1, .int a), (2, .int b), (3, .int c_)] rfl (by decide) dX7_elevons_19 ?_
    refine x_aload_n C 1 rfl rfl dX7_elevons_21 ?_
    refine x_iload C 0 rfl dX7_elevons_22 ?_
    refine x_if_ne C 31 (by decide) dX7_elevons_24 (fun hz => absurd (by decide) hz) (fun _ => ?_)
    refine x_iconst C 1 (by decide) dX7_elevons_27 ?_
    refine x_goto C 68 (by decide) dX7_elevons_28 ?_
    refine x_FV (w1 := ([] : va_W)) (wc := (wMo g am s fi tx dm th sa ln pa le sk nu h)) (w2 := ([] : va_W)) [.int 1] [] (wMo g am s fi tx dm 1 sa ln pa le sk nu h) C (k_X7_holds l g am s fi tx dm th sa ln pa le sk nu h 1) rfl yV_X7_holds wML_X7_99 rfl 0 rfl rfl rfl rfl (nle rfl) (nle rfl) (nle rfl) (nle rfl) (nle rfl) dX7_elevons_68 ?_
    refine x_st (st' := [.int 0]) (by rw [show (sp_X7_holds 1) = 0 from by decide]) ?_
    refine x_if_ne C 76 (by decide) dX7_elevons_71 (fun hz => absurd (by decide) hz) (fun _ => ?_)
    refine x_iconst C 0 (by decide) dX7_elevons_74 ?_
    exact x_iret C hr (nle rfl) (nle rfl) dX7_elevons_75 ⟨(by first | (simp only [sp_X7_elevons, if_pos h1]; done) | (simp only [sp_X7_elevons, if_pos h1]; rfl)), (by first | (simp only [sp_X7_elevons_s, sp_X7_elevons_th, sp_X7_elevons_sa, if_pos h1]; done) | (simp only [sp_X7_elevons_s, sp_X7_elevons_th, sp_X7_elevons_sa, if_pos h1]; rfl))⟩
  · refine x_iload_n C 2 rfl rfl dX7_elevons_7 ?_
    refine x_FS (w1 := ([] : va_W)) (wc := ([] : va_W)) (w2 := (wMo g am s fi tx dm th sa ln pa le sk nu h)) [.int b] [] (wMo g am s fi tx dm th sa ln pa le sk nu h) C (k_X7_isServo l g b) rfl yS_X7_isServo wML_X7_105 rfl rfl rfl (nle rfl) (nle rfl) (nle rfl) (nle rfl) (nle rfl) dX7_elevons_8 ?_
    refine x_if_eq C 18 (by decide) dX7_elevons_11 (fun h2 => ?_) (fun h2 => ?_)
    · refine x_iconst C 0 (by decide) dX7_elevons_18 ?_
      refine x_istore C [(4, .int 0), (0, .ref (am 0)), (1, .int a), (2, .int b), (3, .int c_)] rfl (by decide) dX7_elevons_19 ?_
      refine x_aload_n C 1 rfl rfl dX7_elevons_21 ?_
      refine x_iload C 0 rfl dX7_elevons_22 ?_
      refine x_if_ne C 31 (by decide) dX7_elevons_24 (fun hz => absurd (by decide) hz) (fun _ => ?_)
      refine x_iconst C 1 (by decide) dX7_elevons_27 ?_
      refine x_goto C 68 (by decide) dX7_elevons_28 ?_
      refine x_FV (w1 := ([] : va_W)) (wc := (wMo g am s fi tx dm th sa ln pa le sk nu h)) (w2 := ([] : va_W)) [.int 1] [] (wMo g am s fi tx dm 1 sa ln pa le sk nu h) C (k_X7_holds l g am s fi tx dm th sa ln pa le sk nu h 1) rfl yV_X7_holds wML_X7_99 rfl 0 rfl rfl rfl rfl (nle rfl) (nle rfl) (nle rfl) (nle rfl) (nle rfl) dX7_elevons_68 ?_
      refine x_st (st' := [.int 0]) (by rw [show (sp_X7_holds 1) = 0 from by decide]) ?_
      refine x_if_ne C 76 (by decide) dX7_elevons_71 (fun hz => absurd (by decide) hz) (fun _ => ?_)
      refine x_iconst C 0 (by decide) dX7_elevons_74 ?_
      exact x_iret C hr (nle rfl) (nle rfl) dX7_elevons_75 ⟨(by first | (simp only [sp_X7_elevons, if_neg h1, if_pos h2]; done) | (simp only [sp_X7_elevons, if_neg h1, if_pos h2]; rfl)), (by first | (simp only [sp_X7_elevons_s, sp_X7_elevons_th, sp_X7_elevons_sa, if_neg h1, if_pos h2]; done) | (simp only [sp_X7_elevons_s, sp_X7_elevons_th, sp_X7_elevons_sa, if_neg h1, if_pos h2]; rfl))⟩
    · refine x_iconst C 1 (by decide) dX7_elevons_14 ?_
      refine x_goto C 19 (by decide) dX7_elevons_15 ?_
      refine x_istore C [(4, .int 1), (0, .ref (am 0)), (1, .int a), (2, .int b), (3, .int c_)] rfl (by decide) dX7_elevons_19 ?_
      refine x_aload_n C 1 rfl rfl dX7_elevons_21 ?_
      refine x_iload C 0 rfl dX7_elevons_22 ?_
      refine x_if_ne C 31 (by decide) dX7_elevons_24 (fun _ => ?_) (fun hz => absurd hz (by decide))
      have h1l := in_le h1 (by decide) (show (5 : Int32) = nI 5 from rfl) (by decide)
      refine x_iload_n C 2 rfl rfl dX7_elevons_31 ?_
      have h2l := in_le h2 (by decide) (show (5 : Int32) = nI 5 from rfl) (by decide)
      refine x_iload_n C 3 rfl rfl dX7_elevons_32 ?_
      refine x_icmp_eq C 47 (by decide) dX7_elevons_33 (fun h3 => ?_) (fun h3 => ?_)
      · refine x_iconst C 2 (by decide) dX7_elevons_47 ?_
        refine x_goto C 68 (by decide) dX7_elevons_48 ?_
        refine x_FV (w1 := ([] : va_W)) (wc := (wMo g am s fi tx dm th sa ln pa le sk nu h)) (w2 := ([] : va_W)) [.int 2] [] (wMo g am s fi tx dm 2 sa ln pa le sk nu h) C (k_X7_holds l g am s fi tx dm th sa ln pa le sk nu h 2) rfl yV_X7_holds wML_X7_99 rfl 0 rfl rfl rfl rfl (nle rfl) (nle rfl) (nle rfl) (nle rfl) (nle rfl) dX7_elevons_68 ?_
        refine x_st (st' := [.int 0]) (by rw [show (sp_X7_holds 2) = 0 from by decide]) ?_
        refine x_if_ne C 76 (by decide) dX7_elevons_71 (fun hz => absurd (by decide) hz) (fun _ => ?_)
        refine x_iconst C 0 (by decide) dX7_elevons_74 ?_
        exact x_iret C hr (nle rfl) (nle rfl) dX7_elevons_75 ⟨(by first | (simp only [sp_X7_elevons, if_neg h1, if_neg h2, if_pos h3]; done) | (simp only [sp_X7_elevons, if_neg h1, if_neg h2, if_pos h3]; rfl)), (by first | (simp only [sp_X7_elevons_s, sp_X7_elevons_th, sp_X7_elevons_sa, if_neg h1, if_neg h2, if_pos h3]; done) | (simp only [sp_X7_elevons_s, sp_X7_elevons_th, sp_X7_elevons_sa, if_neg h1, if_neg h2, if_pos h3]; rfl))⟩
      · refine x_iload_n C 4 rfl rfl dX7_elevons_36 ?_
        refine x_iconst C 1 (by decide) dX7_elevons_37 ?_
        refine x_sipush C 150 (by decide) dX7_elevons_38 ?_
        refine x_FS (w1 := ([] : va_W)) (wc := ([] : va_W)) (w2 := (wMo g am s fi tx dm th sa ln pa le sk nu h)) [.int c_, .int 1, .int 150] [.ref (am 0)] (wMo g am s fi tx dm th sa ln pa le sk nu h) C (k_X7_in l g c_ 1 150) rfl yS_X7_in wML_X7_35 rfl rfl rfl (nle rfl) (nle rfl) (nle rfl) (nle rfl) (nle rfl) dX7_elevons_41 ?_
        refine x_if_ne C 51 (by decide) dX7_elevons_44 (fun h4 => ?_) (fun h4 => ?_)
        · refine x_aload_n C 1 rfl rfl dX7_elevons_51 ?_
          refine x_get C 0 7 1 rfl rfl wLy_X7 wFL_X7_7 rfl (by decide) rfl dX7_elevons_52 ?_
          refine x_bipush C 26 (by decide) dX7_elevons_55 ?_
          refine x_ialdN (f := s) C 1 0 26 rfl rfl rfl (by omega) (by decide) dX7_elevons_57 ?_
          refine x_bipush C 8 (by decide) dX7_elevons_58 ?_
          refine x_icmp_le C 67 (by decide) dX7_elevons_60 (fun h5 => ?_) (fun h5 => ?_)
          · refine x_iconst C 0 (by decide) dX7_elevons_67 ?_
            refine x_FV (w1 := ([] : va_W)) (wc := (wMo g am s fi tx dm th sa ln pa le sk nu h)) (w2 := ([] : va_W)) [.int 0] [] (wMo g am s fi tx dm 0 sa ln pa le sk nu h) C (k_X7_holds l g am s fi tx dm th sa ln pa le sk nu h 0) rfl yV_X7_holds wML_X7_99 rfl 0 rfl rfl rfl rfl (nle rfl) (nle rfl) (nle rfl) (nle rfl) (nle rfl) dX7_elevons_68 ?_
            refine x_st (st' := [.int 1]) (by rw [show (sp_X7_holds 0) = 1 from by decide]) ?_
            refine x_if_ne C 76 (by decide) dX7_elevons_71 (fun _ => ?_) (fun hz => absurd hz (by decide))
            refine x_aload_n C 1 rfl rfl dX7_elevons_76 ?_
            have h8 := le8 hm h5
            refine x_GV (w1 := ([] : va_W)) (wc := (wMo g am s fi tx dm 0 sa ln pa le sk nu h)) (w2 := ([] : va_W)) [] [] (wMo g am (sp_X7_save_s s sa) fi tx dm 0 (sp_X7_save_sa sa) ln pa le sk nu h) C (k_X7_save l g am s fi tx dm 0 sa ln pa le sk nu h hs hs6) rfl yV_X7_save wML_X7_92 rfl 0 rfl rfl rfl rfl (nle rfl) (nle rfl) (nle rfl) (nle rfl) (nle rfl) dX7_elevons_77 ?_
            refine x_aload_n C 1 rfl rfl dX7_elevons_80 ?_
            refine x_iconst C 0 (by decide) dX7_elevons_81 ?_
            have h1l := in_le h1 (by decide) (show (5 : Int32) = nI 5 from rfl) (by decide)
            refine x_iload_n C 2 rfl rfl dX7_elevons_82 ?_
            have h4l := in_le h4 (by decide) (show (150 : Int32) = nI 150 from rfl) (by decide)
            refine x_iload_n C 4 rfl rfl dX7_elevons_83 ?_
            refine x_iconst C 0 (by decide) dX7_elevons_84 ?_
            refine x_iconst C 0 (by decide) dX7_elevons_85 ?_
            refine x_GV (w1 := ([] : va_W)) (wc := (wMo g am (sp_X7_save_s s sa) fi tx dm 0 (sp_X7_save_sa sa) ln pa le sk nu h)) (w2 := ([] : va_W)) [.int 0, .int a, .int c_, .int 0, .int 0] [] (wMo g am (sp_X7_adds_s (sp_X7_save_s s sa) 0 a c_ 0 0) fi tx dm 0 (sp_X7_save_sa sa) ln pa le sk nu h) C (k_X7_adds l g am (sp_X7_save_s s sa) fi tx dm 0 (sp_X7_save_sa sa) ln pa le sk nu h 0 a c_ 0 0 (save_ok hm).1 (by rw [save_rN]; omega)) rfl yV_X7_adds wML_X7_23 rfl 0 rfl rfl rfl rfl (nle rfl) (nle rfl) (nle rfl) (nle rfl) (nle rfl) dX7_elevons_86 ?_
            have el1 := adds_26 (a1 := 0) (a2 := a) (a3 := c_) (a4 := 0) (a5 := 0) (save_ok (sa := sa) hm).1 (by rw [save_rN]; omega)
            refine x_aload_n C 1 rfl rfl dX7_elevons_89 ?_
            refine x_iconst C 1 (by decide) dX7_elevons_90 ?_
            have h1l := in_le h1 (by decide) (show (5 : Int32) = nI 5 from rfl) (by decide)
            refine x_iload_n C 2 rfl rfl dX7_elevons_91 ?_
            have h4l := in_le h4 (by decide) (show (150 : Int32) = nI 150 from rfl) (by decide)
            refine x_iload_n C 4 rfl rfl dX7_elevons_92 ?_
            refine x_iconst C 0 (by decide) dX7_elevons_93 ?_
            refine x_iconst C 0 (by decide) dX7_elevons_94 ?_
            refine x_GV (w1 := ([] : va_W)) (wc := (wMo g am (sp_X7_adds_s (sp_X7_save_s s sa) 0 a c_ 0 0) fi tx dm 0 (sp_X7_save_sa sa) ln pa le sk nu h)) (w2 := ([] : va_W)) [.int 1, .int a, .int c_, .int 0, .int 0] [] (wMo g am (sp_X7_adds_s (sp_X7_adds_s (sp_X7_save_s s sa) 0 a c_ 0 0) 1 a c_ 0 0) fi tx dm 0 (sp_X7_save_sa sa) ln pa le sk nu h) C (k_X7_adds l g am (sp_X7_adds_s (sp_X7_save_s s sa) 0 a c_ 0 0) fi tx dm 0 (sp_X7_save_sa sa) ln pa le sk nu h 1 a c_ 0 0 el1.2 (by rw [el1.1, save_rN]; omega)) rfl yV_X7_adds wML_X7_23 rfl 0 rfl rfl rfl rfl (nle rfl) (nle rfl) (nle rfl) (nle rfl) (nle rfl) dX7_elevons_95 ?_
            have el2 := adds_26 (a1 := 1) (a2 := a) (a3 := c_) (a4 := 0) (a5 := 0) el1.2 (by rw [el1.1, save_rN]; omega)
            refine x_aload_n C 1 rfl rfl dX7_elevons_98 ?_
            refine x_iconst C 0 (by decide) dX7_elevons_99 ?_
            have h2l := in_le h2 (by decide) (show (5 : Int32) = nI 5 from rfl) (by decide)
            refine x_iload_n C 3 rfl rfl dX7_elevons_100 ?_
            have h4l := in_le h4 (by decide) (show (150 : Int32) = nI 150 from rfl) (by decide)
            refine x_iload_n C 4 rfl rfl dX7_elevons_101 ?_
            refine x_ineg C dX7_elevons_102 ?_
            refine x_iconst C 0 (by decide) dX7_elevons_103 ?_
            refine x_iconst C 0 (by decide) dX7_elevons_104 ?_
            refine x_GV (w1 := ([] : va_W)) (wc := (wMo g am (sp_X7_adds_s (sp_X7_adds_s (sp_X7_save_s s sa) 0 a c_ 0 0) 1 a c_ 0 0) fi tx dm 0 (sp_X7_save_sa sa) ln pa le sk nu h)) (w2 := ([] : va_W)) [.int 0, .int b, .int (-c_), .int 0, .int 0] [] (wMo g am (sp_X7_adds_s (sp_X7_adds_s (sp_X7_adds_s (sp_X7_save_s s sa) 0 a c_ 0 0) 1 a c_ 0 0) 0 b (-c_) 0 0) fi tx dm 0 (sp_X7_save_sa sa) ln pa le sk nu h) C (k_X7_adds l g am (sp_X7_adds_s (sp_X7_adds_s (sp_X7_save_s s sa) 0 a c_ 0 0) 1 a c_ 0 0) fi tx dm 0 (sp_X7_save_sa sa) ln pa le sk nu h 0 b (-c_) 0 0 el2.2 (by rw [el2.1, el1.1, save_rN]; omega)) rfl yV_X7_adds wML_X7_23 rfl 0 rfl rfl rfl rfl (nle rfl) (nle rfl) (nle rfl) (nle rfl) (nle rfl) dX7_elevons_105 ?_
            have el3 := adds_26 (a1 := 0) (a2 := b) (a3 := (-c_)) (a4 := 0) (a5 := 0) el2.2 (by rw [el2.1, el1.1, save_rN]; omega)
            refine x_aload_n C 1 rfl rfl dX7_elevons_108 ?_
            refine x_iconst C 1 (by decide) dX7_elevons_109 ?_
            have h2l := in_le h2 (by decide) (show (5 : Int32) = nI 5 from rfl) (by decide)
            refine x_iload_n C 3 rfl rfl dX7_elevons_110 ?_
            have h4l := in_le h4 (by decide) (show (150 : Int32) = nI 150 from rfl) (by decide)
            refine x_iload_n C 4 rfl rfl dX7_elevons_111 ?_
            refine x_iconst C 0 (by decide) dX7_elevons_112 ?_
            refine x_iconst C 0 (by decide) dX7_elevons_113 ?_
            refine x_GV (w1 := ([] : va_W)) (wc := (wMo g am (sp_X7_adds_s (sp_X7_adds_s (sp_X7_adds_s (sp_X7_save_s s sa) 0 a c_ 0 0) 1 a c_ 0 0) 0 b (-c_) 0 0) fi tx dm 0 (sp_X7_save_sa sa) ln pa le sk nu h)) (w2 := ([] : va_W)) [.int 1, .int b, .int c_, .int 0, .int 0] [] (wMo g am (sp_X7_adds_s (sp_X7_adds_s (sp_X7_adds_s (sp_X7_adds_s (sp_X7_save_s s sa) 0 a c_ 0 0) 1 a c_ 0 0) 0 b (-c_) 0 0) 1 b c_ 0 0) fi tx dm 0 (sp_X7_save_sa sa) ln pa le sk nu h) C (k_X7_adds l g am (sp_X7_adds_s (sp_X7_adds_s (sp_X7_adds_s (sp_X7_save_s s sa) 0 a c_ 0 0) 1 a c_ 0 0) 0 b (-c_) 0 0) fi tx dm 0 (sp_X7_save_sa sa) ln pa le sk nu h 1 b c_ 0 0 el3.2 (by rw [el3.1, el2.1, el1.1, save_rN]; omega)) rfl yV_X7_adds wML_X7_23 rfl 0 rfl rfl rfl rfl (nle rfl) (nle rfl) (nle rfl) (nle rfl) (nle rfl) dX7_elevons_114 ?_
            refine x_aload_n C 1 rfl rfl dX7_elevons_117 ?_
            refine x_get C 0 7 1 rfl rfl wLy_X7 wFL_X7_7 rfl (by decide) rfl dX7_elevons_118 ?_
            refine x_bipush C 26 (by decide) dX7_elevons_121 ?_
            refine x_ialdN (f := (sp_X7_adds_s (sp_X7_adds_s (sp_X7_adds_s (sp_X7_adds_s (sp_X7_save_s s sa) 0 a c_ 0 0) 1 a c_ 0 0) 0 b (-c_) 0 0) 1 b c_ 0 0)) C 1 0 26 rfl rfl rfl (by omega) (by decide) dX7_elevons_123 ?_
            exact x_iret C hr (nle rfl) (nle rfl) dX7_elevons_124 ⟨(by first | (simp only [sp_X7_elevons, if_neg h1, if_neg h2, if_neg h3, if_neg h4, if_pos h5]; done) | (simp only [sp_X7_elevons, if_neg h1, if_neg h2, if_neg h3, if_neg h4, if_pos h5]; rfl)), (by first | (simp only [sp_X7_elevons_s, sp_X7_elevons_th, sp_X7_elevons_sa, if_neg h1, if_neg h2, if_neg h3, if_neg h4, if_pos h5]; done) | (simp only [sp_X7_elevons_s, sp_X7_elevons_th, sp_X7_elevons_sa, if_neg h1, if_neg h2, if_neg h3, if_neg h4, if_pos h5]; rfl))⟩
          · refine x_iconst C 3 (by decide) dX7_elevons_63 ?_
            refine x_goto C 68 (by decide) dX7_elevons_64 ?_
            refine x_FV (w1 := ([] : va_W)) (wc := (wMo g am s fi tx dm th sa ln pa le sk nu h)) (w2 := ([] : va_W)) [.int 3] [] (wMo g am s fi tx dm 3 sa ln pa le sk nu h) C (k_X7_holds l g am s fi tx dm th sa ln pa le sk nu h 3) rfl yV_X7_holds wML_X7_99 rfl 0 rfl rfl rfl rfl (nle rfl) (nle rfl) (nle rfl) (nle rfl) (nle rfl) dX7_elevons_68 ?_
            refine x_st (st' := [.int 0]) (by rw [show (sp_X7_holds 3) = 0 from by decide]) ?_
            refine x_if_ne C 76 (by decide) dX7_elevons_71 (fun hz => absurd (by decide) hz) (fun _ => ?_)
            refine x_iconst C 0 (by decide) dX7_elevons_74 ?_
            exact x_iret C hr (nle rfl) (nle rfl) dX7_elevons_75 ⟨(by first | (simp only [sp_X7_elevons, if_neg h1, if_neg h2, if_neg h3, if_neg h4, if_neg h5]; done) | (simp only [sp_X7_elevons, if_neg h1, if_neg h2, if_neg h3, if_neg h4, if_neg h5]; rfl)), (by first | (simp only [sp_X7_elevons_s, sp_X7_elevons_th, sp_X7_elevons_sa, if_neg h1, if_neg h2, if_neg h3, if_neg h4, if_neg h5]; done) | (simp only [sp_X7_elevons_s, sp_X7_elevons_th, sp_X7_elevons_sa, if_neg h1, if_neg h2, if_neg h3, if_neg h4, if_neg h5]; rfl))⟩
        · refine x_iconst C 2 (by decide) dX7_elevons_47 ?_
          refine x_goto C 68 (by decide) dX7_elevons_48 ?_
          refine x_FV (w1 := ([] : va_W)) (wc := (wMo g am s fi tx dm th sa ln pa le sk nu h)) (w2 := ([] : va_W)) [.int 2] [] (wMo g am s fi tx dm 2 sa ln pa le sk nu h) C (k_X7_holds l g am s fi tx dm th sa ln pa le sk nu h 2) rfl yV_X7_holds wML_X7_99 rfl 0 rfl rfl rfl rfl (nle rfl) (nle rfl) (nle rfl) (nle rfl) (nle rfl) dX7_elevons_68 ?_
          refine x_st (st' := [.int 0]) (by rw [show (sp_X7_holds 2) = 0 from by decide]) ?_
          refine x_if_ne C 76 (by decide) dX7_elevons_71 (fun hz => absurd (by decide) hz) (fun _ => ?_)
          refine x_iconst C 0 (by decide) dX7_elevons_74 ?_
          exact x_iret C hr (nle rfl) (nle rfl) dX7_elevons_75 ⟨(by first | (simp only [sp_X7_elevons, if_neg h1, if_neg h2, if_neg h3, if_pos h4]; done) | (simp only [sp_X7_elevons, if_neg h1, if_neg h2, if_neg h3, if_pos h4]; rfl)), (by first | (simp only [sp_X7_elevons_s, sp_X7_elevons_th, sp_X7_elevons_sa, if_neg h1, if_neg h2, if_neg h3, if_pos h4]; done) | (simp only [sp_X7_elevons_s, sp_X7_elevons_th, sp_X7_elevons_sa, if_neg h1, if_neg h2, if_neg h3, if_pos h4]; rfl))⟩
def sp_rm (mm : Nat) (a0 : (Nat → Int32)) : Nat → (Nat → Int32)
  | 0 => a0
  | i1 + 1 => (upd (sp_rm mm a0 i1) (27 + (5 * mm + i1)) ((sp_rm mm a0 i1) (27 + (5 * mm + i1) + 5)))
theorem sp_rm_26 (m : Nat) (a0 : Nat → Int32) : ∀ i, sp_rm m a0 i 26 = a0 26
  | 0 => rfl
  | i + 1 => by
    simp only [sp_rm, upd]
    rw [if_neg (by omega)]
    exact sp_rm_26 m a0 i
theorem rm_e {s : Nat → Int32} (h : s 26 = nI (rN s 0)) (hl : 1 ≤ rN s 0) : upd s 26 (s 26 - 1) 26 = nI (rN s 0 - 1) := by
  rw [up_eq, h]; exact pk_sub hl
set_option maxRecDepth 100000 in
theorem k_X7_removes (l : Launch) (g : xGt) (am : Nat → Nat) (s fi tx dm : Nat → Int32) (th sa ln pa le sk nu : Int32) (h : Int64) (x_mm : Int32) (mm : Nat) (e_mm : x_mm = nI mm) (h26 : s 26 = nI (rN s 0)) (h12 : rN s 0 ≤ 12) (hj : mm < rN s 0) : xM l g.1 (xT g) yX7_removes (ws_ yX7_removes cX7_removes 3 none) (xRm 0 0 0 0) 0 0 [.ref (am 0), .int x_mm] (wMo g am s fi tx dm th sa ln pa le sk nu h) (fun r9 w9 => r9 = none ∧ w9 = (wMo g am (sp_rm mm (upd s 26 ((s 26) - 1)) (5 * (rN s 0 - 1) - 5 * mm)) fi tx dm th sa ln pa le sk nu h)) (fun _ _ => False) := by
  subst e_mm
  refine x_start (own := RX7) (nm := "removes") rfl rfl (by decide +kernel) rfl (nle rfl) (fun p e σ m args below meth c A C hno hr => ?_)
  refine x_lve (lv' := [(0, .ref (am 0)), (1, .int (nI mm))]) rfl ?_
  refine x_aload_n C 0 rfl rfl dX7_removes_0 ?_
  refine x_get C 0 7 1 rfl rfl wLy_X7 wFL_X7_7 rfl (by decide) rfl dX7_removes_1 ?_
  refine x_bipush C 26 (by decide) dX7_removes_4 ?_
  refine x_dup2 C rfl rfl dX7_removes_6 ?_
  refine x_ialdN (f := s) C 1 0 26 rfl rfl rfl (by omega) (by decide) dX7_removes_7 ?_
  refine x_iconst C 1 (by decide) dX7_removes_8 ?_
  refine x_isub C dX7_removes_9 ?_
  refine x_iastN (f := s) C 1 0 26 (wMo g am (upd s 26 ((s 26) - 1)) fi tx dm th sa ln pa le sk nu h) rfl rfl rfl rfl (by omega) (by decide) dX7_removes_10 ?_
  refine x_iconst C 5 (by decide) dX7_removes_11 ?_
  refine x_iload_n C 1 rfl rfl dX7_removes_12 ?_
  refine x_imulN C 5 mm rfl rfl dX7_removes_13 ?_
  refine x_istore_n C [(2, .int (nI (5 * mm))), (0, .ref (am 0)), (1, .int (nI mm))] rfl rfl (by decide) dX7_removes_14 ?_
  suffices L1 : ∀ (n1 i1 : Nat), i1 + n1 = (5 * (rN s 0 - 1) - 5 * mm) → xW p l e _ σ m args below meth c g.1 A 3 0 0 _ (wMo g am (sp_rm mm (upd s 26 ((s 26) - 1)) i1) fi tx dm th sa ln pa le sk nu h) [(2, .int (nI (5 * mm + i1))), (0, .ref (am 0)), (1, .int (nI mm))] 15 [] by
    exact L1 ((5 * (rN s 0 - 1) - 5 * mm)) 0 (by omega)
  intro n1
  induction n1 with
  | zero =>
    intro i1 hn1
    obtain rfl : i1 = (5 * (rN s 0 - 1) - 5 * mm) := by omega
    refine x_iload_n C 0 rfl rfl dX7_removes_15 ?_
    refine x_iconst C 5 (by decide) dX7_removes_16 ?_
    refine x_aload_n C 1 rfl rfl dX7_removes_17 ?_
    refine x_get C 0 7 1 rfl rfl wLy_X7 wFL_X7_7 rfl (by decide) rfl dX7_removes_18 ?_
    refine x_bipush C 26 (by decide) dX7_removes_21 ?_
    refine x_ialdN (f := (sp_rm mm (upd s 26 ((s 26) - 1)) (5 * (rN s 0 - 1) - 5 * mm))) C 1 0 26 rfl rfl rfl (by omega) (by decide) dX7_removes_23 ?_
    refine x_imulN C 5 (rN s 0 - 1) rfl ((sp_rm_26 _ _ _).trans (rm_e h26 (by omega))) dX7_removes_24 ?_
    refine x_icmp_ge C 54 (by decide) dX7_removes_25 (fun _ => ?_) (fun hz => absurd (xge rfl rfl (by omega) (by omega)) hz)
    exact x_vret C hr (nle rfl) (nle rfl) dX7_removes_54 ⟨rfl, rfl⟩
  | succ n1 ih1 =>
    intro i1 hn1
    refine x_iload_n C 0 rfl rfl dX7_removes_15 ?_
    refine x_iconst C 5 (by decide) dX7_removes_16 ?_
    refine x_aload_n C 1 rfl rfl dX7_removes_17 ?_
    refine x_get C 0 7 1 rfl rfl wLy_X7 wFL_X7_7 rfl (by decide) rfl dX7_removes_18 ?_
    refine x_bipush C 26 (by decide) dX7_removes_21 ?_
    refine x_ialdN (f := (sp_rm mm (upd s 26 ((s 26) - 1)) i1)) C 1 0 26 rfl rfl rfl (by omega) (by decide) dX7_removes_23 ?_
    refine x_imulN C 5 (rN s 0 - 1) rfl ((sp_rm_26 _ _ _).trans (rm_e h26 (by omega))) dX7_removes_24 ?_
    refine x_icmp_ge C 54 (by decide) dX7_removes_25 (fun hz => absurd hz (xnge rfl rfl (by omega) (by omega))) (fun _ => ?_)
    refine x_aload_n C 1 rfl rfl dX7_removes_28 ?_
    refine x_get C 0 7 1 rfl rfl wLy_X7 wFL_X7_7 rfl (by decide) rfl dX7_removes_29 ?_
    refine x_bipush C 27 (by decide) dX7_removes_32 ?_
    refine x_iload_n C 0 rfl rfl dX7_removes_34 ?_
    refine x_iaddN C 27 (5 * mm + i1) rfl rfl dX7_removes_35 ?_
    refine x_aload_n C 1 rfl rfl dX7_removes_36 ?_
    refine x_get C 0 7 1 rfl rfl wLy_X7 wFL_X7_7 rfl (by decide) rfl dX7_removes_37 ?_
    refine x_bipush C 27 (by decide) dX7_removes_40 ?_
    refine x_iload_n C 0 rfl rfl dX7_removes_42 ?_
    refine x_iaddN C 27 (5 * mm + i1) rfl rfl dX7_removes_43 ?_
    refine x_iconst C 5 (by decide) dX7_removes_44 ?_
    refine x_iaddN C (27 + (5 * mm + i1)) 5 rfl rfl dX7_removes_45 ?_
    refine x_ialdN (f := (sp_rm mm (upd s 26 ((s 26) - 1)) i1)) C 1 0 (27 + (5 * mm + i1) + 5) rfl rfl rfl (by omega) (by decide) dX7_removes_46 ?_
    refine x_iastN (f := (sp_rm mm (upd s 26 ((s 26) - 1)) i1)) C 1 0 (27 + (5 * mm + i1)) (wMo g am (upd (sp_rm mm (upd s 26 ((s 26) - 1)) i1) (27 + (5 * mm + i1)) ((sp_rm mm (upd s 26 ((s 26) - 1)) i1) (27 + (5 * mm + i1) + 5))) fi tx dm th sa ln pa le sk nu h) rfl rfl rfl rfl (by omega) (by decide) dX7_removes_47 ?_
    refine x_iinc C 0 (nI (5 * mm + i1 + 1)) [(2, .int (nI (5 * mm + i1 + 1))), (0, .ref (am 0)), (1, .int (nI mm))] rfl (nI_add _ _) rfl (by decide) dX7_removes_48 ?_
    refine x_goto C 15 (by decide) dX7_removes_51 ?_
    exact ih1 (i1 + 1) (by omega)
theorem rm_26 {s : Nat → Int32} {m n : Nat} (h : s 26 = nI (rN s 0)) (hl : 1 ≤ rN s 0) (h12 : rN s 0 ≤ 12) : rN (sp_rm m (upd s 26 (s 26 - 1)) n) 0 = rN s 0 - 1 ∧ (sp_rm m (upd s 26 (s 26 - 1)) n) 26 = nI (rN (sp_rm m (upd s 26 (s 26 - 1)) n) 0) := by
  have e := (sp_rm_26 m (upd s 26 (s 26 - 1)) n).trans (rm_e h hl)
  have e2 : rN (sp_rm m (upd s 26 (s 26 - 1)) n) 0 = rN s 0 - 1 := by
    show ((sp_rm m (upd s 26 (s 26 - 1)) n) (0 + 26)).toNatClampNeg = _
    rw [show 0 + 26 = 26 from rfl, e, nI_clamp (by omega)]
  exact ⟨e2, by rw [e2]; exact e⟩
def sp_X7_removeMix (s : Nat → Int32) (sa : Int32) (a : Int32) : Int32 := (if (sp_X7_in a 0 ((s 26) - 1)) = 0 then 0 else ((sp_rm (Int32.toNatClampNeg a) (upd (sp_X7_save_s s sa) 26 (((sp_X7_save_s s sa) 26) - 1)) (5 * (rN (sp_X7_save_s s sa) 0 - 1) - 5 * (Int32.toNatClampNeg a))) 26))
def sp_X7_removeMix_s (s : Nat → Int32) (sa : Int32) (a : Int32) : Nat → Int32 := (if (sp_X7_in a 0 ((s 26) - 1)) = 0 then s else (sp_rm (Int32.toNatClampNeg a) (upd (sp_X7_save_s s sa) 26 (((sp_X7_save_s s sa) 26) - 1)) (5 * (rN (sp_X7_save_s s sa) 0 - 1) - 5 * (Int32.toNatClampNeg a))))
def sp_X7_removeMix_th (s : Nat → Int32) (a : Int32) : Int32 := (if (sp_X7_in a 0 ((s 26) - 1)) = 0 then 1 else 0)
def sp_X7_removeMix_sa (s : Nat → Int32) (sa : Int32) (a : Int32) : Int32 := (if (sp_X7_in a 0 ((s 26) - 1)) = 0 then sa else (sp_X7_save_sa sa))
set_option maxRecDepth 100000 in
theorem k_X7_removeMix (l : Launch) (g : xGt) (am : Nat → Nat) (s fi tx dm : Nat → Int32) (th sa ln pa le sk nu : Int32) (h : Int64) (a : Int32) (hs : sa = nI (Int32.toNatClampNeg sa)) (hs6 : Int32.toNatClampNeg sa ≤ 6) (hm : rOk s 0) : xM l g.1 (xT g) yX7_removeMix (ws_ yX7_removeMix cX7_removeMix 2 (some .int)) (xRm 2 44 0 0) 0 0 [.ref (am 0), .int a] (wMo g am s fi tx dm th sa ln pa le sk nu h) (fun r9 w9 => r9 = some (.int (sp_X7_removeMix s sa a)) ∧ w9 = (wMo g am (sp_X7_removeMix_s s sa a) fi tx dm (sp_X7_removeMix_th s a) (sp_X7_removeMix_sa s sa a) ln pa le sk nu h)) (fun _ _ => False) := by
  refine x_start (own := RX7) (nm := "removeMix") rfl rfl (by decide +kernel) rfl (nle rfl) (fun p e σ m args below meth c A C hno hr => ?_)
  refine x_lve (lv' := [(0, .ref (am 0)), (1, .int a)]) rfl ?_
  refine x_aload_n C 0 rfl rfl dX7_removeMix_0 ?_
  refine x_aload_n C 0 rfl rfl dX7_removeMix_1 ?_
  refine x_iload_n C 1 rfl rfl dX7_removeMix_2 ?_
  refine x_FV (w1 := ([] : va_W)) (wc := (wMo g am s fi tx dm th sa ln pa le sk nu h)) (w2 := ([] : va_W)) [.int a] [.ref (am 0)] (wMo g am s fi tx dm th sa ln pa le sk nu h) C (k_X7_isMix l g am s fi tx dm th sa ln pa le sk nu h a) rfl yV_X7_isMix wML_X7_108 rfl 0 rfl rfl rfl rfl (nle rfl) (nle rfl) (nle rfl) (nle rfl) (nle rfl) dX7_removeMix_3 ?_
  refine x_if_eq C 13 (by decide) dX7_removeMix_6 (fun h1 => ?_) (fun h1 => ?_)
  · refine x_iconst C 1 (by decide) dX7_removeMix_13 ?_
    refine x_FV (w1 := ([] : va_W)) (wc := (wMo g am s fi tx dm th sa ln pa le sk nu h)) (w2 := ([] : va_W)) [.int 1] [] (wMo g am s fi tx dm 1 sa ln pa le sk nu h) C (k_X7_holds l g am s fi tx dm th sa ln pa le sk nu h 1) rfl yV_X7_holds wML_X7_99 rfl 0 rfl rfl rfl rfl (nle rfl) (nle rfl) (nle rfl) (nle rfl) (nle rfl) dX7_removeMix_14 ?_
    refine x_st (st' := [.int 0]) (by rw [show (sp_X7_holds 1) = 0 from by decide]) ?_
    refine x_if_ne C 22 (by decide) dX7_removeMix_17 (fun hz => absurd (by decide) hz) (fun _ => ?_)
    refine x_iconst C 0 (by decide) dX7_removeMix_20 ?_
    exact x_iret C hr (nle rfl) (nle rfl) dX7_removeMix_21 ⟨(by first | (simp only [sp_X7_removeMix, if_pos h1]; done) | (simp only [sp_X7_removeMix, if_pos h1]; rfl)), (by first | (simp only [sp_X7_removeMix_s, sp_X7_removeMix_th, sp_X7_removeMix_sa, if_pos h1]; done) | (simp only [sp_X7_removeMix_s, sp_X7_removeMix_th, sp_X7_removeMix_sa, if_pos h1]; rfl))⟩
  · refine x_iconst C 0 (by decide) dX7_removeMix_9 ?_
    refine x_goto C 14 (by decide) dX7_removeMix_10 ?_
    refine x_FV (w1 := ([] : va_W)) (wc := (wMo g am s fi tx dm th sa ln pa le sk nu h)) (w2 := ([] : va_W)) [.int 0] [] (wMo g am s fi tx dm 0 sa ln pa le sk nu h) C (k_X7_holds l g am s fi tx dm th sa ln pa le sk nu h 0) rfl yV_X7_holds wML_X7_99 rfl 0 rfl rfl rfl rfl (nle rfl) (nle rfl) (nle rfl) (nle rfl) (nle rfl) dX7_removeMix_14 ?_
    refine x_st (st' := [.int 1]) (by rw [show (sp_X7_holds 0) = 1 from by decide]) ?_
    refine x_if_ne C 22 (by decide) dX7_removeMix_17 (fun _ => ?_) (fun hz => absurd hz (by decide))
    refine x_aload_n C 0 rfl rfl dX7_removeMix_22 ?_
    refine x_GV (w1 := ([] : va_W)) (wc := (wMo g am s fi tx dm 0 sa ln pa le sk nu h)) (w2 := ([] : va_W)) [] [] (wMo g am (sp_X7_save_s s sa) fi tx dm 0 (sp_X7_save_sa sa) ln pa le sk nu h) C (k_X7_save l g am s fi tx dm 0 sa ln pa le sk nu h hs hs6) rfl yV_X7_save wML_X7_92 rfl 0 rfl rfl rfl rfl (nle rfl) (nle rfl) (nle rfl) (nle rfl) (nle rfl) dX7_removeMix_23 ?_
    refine x_aload_n C 0 rfl rfl dX7_removeMix_26 ?_
    have h1l := in_mixL h1 hm
    refine x_iload_n C 1 rfl rfl dX7_removeMix_27 ?_
    refine x_GV (w1 := ([] : va_W)) (wc := (wMo g am (sp_X7_save_s s sa) fi tx dm 0 (sp_X7_save_sa sa) ln pa le sk nu h)) (w2 := ([] : va_W)) [.int a] [] (wMo g am (sp_rm (Int32.toNatClampNeg a) (upd (sp_X7_save_s s sa) 26 (((sp_X7_save_s s sa) 26) - 1)) (5 * (rN (sp_X7_save_s s sa) 0 - 1) - 5 * (Int32.toNatClampNeg a))) fi tx dm 0 (sp_X7_save_sa sa) ln pa le sk nu h) C (k_X7_removes l g am (sp_X7_save_s s sa) fi tx dm 0 (sp_X7_save_sa sa) ln pa le sk nu h a (Int32.toNatClampNeg a) (in_mixN h1 hm) (save_ok hm).1 (save_ok hm).2.1 (by rw [save_rN]; exact h1l)) rfl yV_X7_removes wML_X7_111 rfl 0 rfl rfl rfl rfl (nle rfl) (nle rfl) (nle rfl) (nle rfl) (nle rfl) dX7_removeMix_28 ?_
    refine x_aload_n C 0 rfl rfl dX7_removeMix_31 ?_
    refine x_get C 0 7 1 rfl rfl wLy_X7 wFL_X7_7 rfl (by decide) rfl dX7_removeMix_32 ?_
    refine x_bipush C 26 (by decide) dX7_removeMix_35 ?_
    refine x_ialdN (f := (sp_rm (Int32.toNatClampNeg a) (upd (sp_X7_save_s s sa) 26 (((sp_X7_save_s s sa) 26) - 1)) (5 * (rN (sp_X7_save_s s sa) 0 - 1) - 5 * (Int32.toNatClampNeg a)))) C 1 0 26 rfl rfl rfl (by omega) (by decide) dX7_removeMix_37 ?_
    exact x_iret C hr (nle rfl) (nle rfl) dX7_removeMix_38 ⟨(by first | (simp only [sp_X7_removeMix, if_neg h1]; done) | (simp only [sp_X7_removeMix, if_neg h1]; rfl)), (by first | (simp only [sp_X7_removeMix_s, sp_X7_removeMix_th, sp_X7_removeMix_sa, if_neg h1]; done) | (simp only [sp_X7_removeMix_s, sp_X7_removeMix_th, sp_X7_removeMix_sa, if_neg h1]; rfl))⟩
def sp_clr (s : Nat → Int32) (sa : Int32) (a : Int32) (a0 : (Nat → Int32)) : Nat → (Nat → Int32)
  | 0 => a0
  | i2 + 1 => (if ((sp_clr s sa a a0 i2) (0 + 27 + 5 * (rN (sp_X7_save_s s sa) 0 - i2 - 1) + 1)) = a then (sp_rm (rN (sp_X7_save_s s sa) 0 - i2 - 1) (upd (sp_clr s sa a a0 i2) 26 (((sp_clr s sa a a0 i2) 26) - 1)) (5 * (rN (sp_clr s sa a a0 i2) 0 - 1) - 5 * (rN (sp_X7_save_s s sa) 0 - i2 - 1))) else (sp_clr s sa a a0 i2))
theorem sp_clr_ok {s : Nat → Int32} {sa a : Int32} (h : (sp_X7_save_s s sa) 26 = nI (rN (sp_X7_save_s s sa) 0)) (h12 : rN (sp_X7_save_s s sa) 0 ≤ 12) : ∀ i, i ≤ rN (sp_X7_save_s s sa) 0 → (sp_clr s sa a (sp_X7_save_s s sa) i) 26 = nI (rN (sp_clr s sa a (sp_X7_save_s s sa) i) 0) ∧ rN (sp_clr s sa a (sp_X7_save_s s sa) i) 0 ≤ 12 ∧ rN (sp_X7_save_s s sa) 0 - i ≤ rN (sp_clr s sa a (sp_X7_save_s s sa) i) 0
  | 0, _ => ⟨h, h12, Nat.le_refl _⟩
  | i + 1, hi => by
    obtain ⟨h1, h2, h3⟩ := sp_clr_ok h h12 i (by omega)
    simp only [sp_clr]
    split
    · obtain ⟨e1, e2⟩ := rm_26 (m := rN (sp_X7_save_s s sa) 0 - i - 1) (n := 5 * (rN (sp_clr s sa a (sp_X7_save_s s sa) i) 0 - 1) - 5 * (rN (sp_X7_save_s s sa) 0 - i - 1)) h1 (by omega) h2
      exact ⟨e2, by rw [e1]; omega, by rw [e1]; omega⟩
    · exact ⟨h1, h2, by omega⟩
def sp_X7_clearMixes (s : Nat → Int32) (sa : Int32) (a : Int32) : Int32 := (if (sp_X7_in a 0 5) = 0 then 0 else (((sp_X7_save_s s sa) 26) - ((sp_clr s sa a (sp_X7_save_s s sa) (rN (sp_X7_save_s s sa) 0)) 26)))
def sp_X7_clearMixes_s (s : Nat → Int32) (sa : Int32) (a : Int32) : Nat → Int32 := (if (sp_X7_in a 0 5) = 0 then s else (sp_clr s sa a (sp_X7_save_s s sa) (rN (sp_X7_save_s s sa) 0)))
def sp_X7_clearMixes_th (a : Int32) : Int32 := (if (sp_X7_in a 0 5) = 0 then 1 else 0)
def sp_X7_clearMixes_sa (sa : Int32) (a : Int32) : Int32 := (if (sp_X7_in a 0 5) = 0 then sa else (sp_X7_save_sa sa))
set_option maxRecDepth 100000 in
theorem k_X7_clearMixes (l : Launch) (g : xGt) (am : Nat → Nat) (s fi tx dm : Nat → Int32) (th sa ln pa le sk nu : Int32) (h : Int64) (a : Int32) (hs : sa = nI (Int32.toNatClampNeg sa)) (hs6 : Int32.toNatClampNeg sa ≤ 6) (hm : rOk s 0) : xM l g.1 (xT g) yX7_clearMixes (ws_ yX7_clearMixes cX7_clearMixes 4 (some .int)) (xRm 2 44 0 0) 0 0 [.ref (am 0), .int a] (wMo g am s fi tx dm th sa ln pa le sk nu h) (fun r9 w9 => r9 = some (.int (sp_X7_clearMixes s sa a)) ∧ w9 = (wMo g am (sp_X7_clearMixes_s s sa a) fi tx dm (sp_X7_clearMixes_th a) (sp_X7_clearMixes_sa sa a) ln pa le sk nu h)) (fun _ _ => False) := by
  have hq26 : (sp_X7_save_s s sa) 26 = nI (rN (sp_X7_save_s s sa) 0 - 0) := (save_ok (sa := sa) hm).1
  have hq1 := (save_ok (sa := sa) hm).1
  have hq2 := (save_ok (sa := sa) hm).2.1
  refine x_start (own := RX7) (nm := "clearMixes") rfl rfl (by decide +kernel) rfl (nle rfl) (fun p e σ m args below meth c A C hno hr => ?_)
  refine x_lve (lv' := [(0, .ref (am 0)), (1, .int a)]) rfl ?_
  refine x_aload_n C 0 rfl rfl dX7_clearMixes_0 ?_
  refine x_iload_n C 1 rfl rfl dX7_clearMixes_1 ?_
  refine x_FS (w1 := ([] : va_W)) (wc := ([] : va_W)) (w2 := (wMo g am s fi tx dm th sa ln pa le sk nu h)) [.int a] [.ref (am 0)] (wMo g am s fi tx dm th sa ln pa le sk nu h) C (k_X7_isServo l g a) rfl yS_X7_isServo wML_X7_105 rfl rfl rfl (nle rfl) (nle rfl) (nle rfl) (nle rfl) (nle rfl) dX7_clearMixes_2 ?_
  refine x_if_eq C 12 (by decide) dX7_clearMixes_5 (fun h1 => ?_) (fun h1 => ?_)
  · refine x_iconst C 1 (by decide) dX7_clearMixes_12 ?_
    refine x_FV (w1 := ([] : va_W)) (wc := (wMo g am s fi tx dm th sa ln pa le sk nu h)) (w2 := ([] : va_W)) [.int 1] [] (wMo g am s fi tx dm 1 sa ln pa le sk nu h) C (k_X7_holds l g am s fi tx dm th sa ln pa le sk nu h 1) rfl yV_X7_holds wML_X7_99 rfl 0 rfl rfl rfl rfl (nle rfl) (nle rfl) (nle rfl) (nle rfl) (nle rfl) dX7_clearMixes_13 ?_
    refine x_st (st' := [.int 0]) (by rw [show (sp_X7_holds 1) = 0 from by decide]) ?_
    refine x_if_ne C 21 (by decide) dX7_clearMixes_16 (fun hz => absurd (by decide) hz) (fun _ => ?_)
    refine x_iconst C 0 (by decide) dX7_clearMixes_19 ?_
    exact x_iret C hr (nle rfl) (nle rfl) dX7_clearMixes_20 ⟨(by first | (simp only [sp_X7_clearMixes, if_pos h1]; done) | (simp only [sp_X7_clearMixes, if_pos h1]; rfl)), (by first | (simp only [sp_X7_clearMixes_s, sp_X7_clearMixes_th, sp_X7_clearMixes_sa, if_pos h1]; done) | (simp only [sp_X7_clearMixes_s, sp_X7_clearMixes_th, sp_X7_clearMixes_sa, if_pos h1]; rfl))⟩
  · refine x_iconst C 0 (by decide) dX7_clearMixes_8 ?_
    refine x_goto C 13 (by decide) dX7_clearMixes_9 ?_
    refine x_FV (w1 := ([] : va_W)) (wc := (wMo g am s fi tx dm th sa ln pa le sk nu h)) (w2 := ([] : va_W)) [.int 0] [] (wMo g am s fi tx dm 0 sa ln pa le sk nu h) C (k_X7_holds l g am s fi tx dm th sa ln pa le sk nu h 0) rfl yV_X7_holds wML_X7_99 rfl 0 rfl rfl rfl rfl (nle rfl) (nle rfl) (nle rfl) (nle rfl) (nle rfl) dX7_clearMixes_13 ?_
    refine x_st (st' := [.int 1]) (by rw [show (sp_X7_holds 0) = 1 from by decide]) ?_
    refine x_if_ne C 21 (by decide) dX7_clearMixes_16 (fun _ => ?_) (fun hz => absurd hz (by decide))
    refine x_aload_n C 0 rfl rfl dX7_clearMixes_21 ?_
    refine x_GV (w1 := ([] : va_W)) (wc := (wMo g am s fi tx dm 0 sa ln pa le sk nu h)) (w2 := ([] : va_W)) [] [] (wMo g am (sp_X7_save_s s sa) fi tx dm 0 (sp_X7_save_sa sa) ln pa le sk nu h) C (k_X7_save l g am s fi tx dm 0 sa ln pa le sk nu h hs hs6) rfl yV_X7_save wML_X7_92 rfl 0 rfl rfl rfl rfl (nle rfl) (nle rfl) (nle rfl) (nle rfl) (nle rfl) dX7_clearMixes_22 ?_
    refine x_aload_n C 0 rfl rfl dX7_clearMixes_25 ?_
    refine x_get C 0 7 1 rfl rfl wLy_X7 wFL_X7_7 rfl (by decide) rfl dX7_clearMixes_26 ?_
    refine x_bipush C 26 (by decide) dX7_clearMixes_29 ?_
    refine x_ialdN (f := (sp_X7_save_s s sa)) C 1 0 26 rfl rfl rfl (by omega) (by decide) dX7_clearMixes_31 ?_
    refine x_istore_n C [(2, .int ((sp_X7_save_s s sa) 26)), (0, .ref (am 0)), (1, .int a)] rfl rfl (by decide) dX7_clearMixes_32 ?_
    refine x_iload_n C 0 rfl rfl dX7_clearMixes_33 ?_
    refine x_iconst C 1 (by decide) dX7_clearMixes_34 ?_
    refine x_isub C dX7_clearMixes_35 ?_
    refine x_istore_n C [(3, .int (((sp_X7_save_s s sa) 26) - 1)), (2, .int ((sp_X7_save_s s sa) 26)), (0, .ref (am 0)), (1, .int a)] rfl rfl (by decide) dX7_clearMixes_36 ?_
    suffices L2 : ∀ (n2 i2 : Nat), i2 + n2 = rN (sp_X7_save_s s sa) 0 → xW p l e _ σ m args below meth c g.1 A 4 0 0 _ (wMo g am (sp_clr s sa a (sp_X7_save_s s sa) i2) fi tx dm 0 (sp_X7_save_sa sa) ln pa le sk nu h) [(3, .int (nI (rN (sp_X7_save_s s sa) 0 - i2) - 1)), (2, .int ((sp_X7_save_s s sa) 26)), (0, .ref (am 0)), (1, .int a)] 37 [] by
      refine x_lve (lv' := [(3, .int (nI (rN (sp_X7_save_s s sa) 0 - 0) - 1)), (2, .int ((sp_X7_save_s s sa) 26)), (0, .ref (am 0)), (1, .int a)]) (by rw [← hq26]) ?_
      exact L2 (rN (sp_X7_save_s s sa) 0) 0 (by omega)
    intro n2
    induction n2 with
    | zero =>
      intro i2 hn2
      obtain rfl : i2 = rN (sp_X7_save_s s sa) 0 := by omega
      refine x_iload_n C 0 rfl rfl dX7_clearMixes_37 ?_
      refine x_if_lt C 63 (by decide) dX7_clearMixes_38 (fun _ => ?_) (fun hz => absurd (dl_exit (rN (sp_X7_save_s s sa) 0)) hz)
      refine x_iload_n C 1 rfl rfl dX7_clearMixes_63 ?_
      refine x_aload_n C 2 rfl rfl dX7_clearMixes_64 ?_
      refine x_get C 0 7 1 rfl rfl wLy_X7 wFL_X7_7 rfl (by decide) rfl dX7_clearMixes_65 ?_
      refine x_bipush C 26 (by decide) dX7_clearMixes_68 ?_
      refine x_ialdN (f := (sp_clr s sa a (sp_X7_save_s s sa) (rN (sp_X7_save_s s sa) 0))) C 1 0 26 rfl rfl rfl (by omega) (by decide) dX7_clearMixes_70 ?_
      refine x_isub C dX7_clearMixes_71 ?_
      exact x_iret C hr (nle rfl) (nle rfl) dX7_clearMixes_72 ⟨(by first | (simp only [sp_X7_clearMixes, if_neg h1]; done) | (simp only [sp_X7_clearMixes, if_neg h1]; rfl)), (by first | (simp only [sp_X7_clearMixes_s, sp_X7_clearMixes_th, sp_X7_clearMixes_sa, if_neg h1]; done) | (simp only [sp_X7_clearMixes_s, sp_X7_clearMixes_th, sp_X7_clearMixes_sa, if_neg h1]; rfl))⟩
    | succ n2 ih2 =>
      intro i2 hn2
      refine x_lve (lv' := [(3, .int (nI (rN (sp_X7_save_s s sa) 0 - i2 - 1))), (2, .int ((sp_X7_save_s s sa) 26)), (0, .ref (am 0)), (1, .int a)]) (by rw [pk_sub1 (show 1 ≤ rN (sp_X7_save_s s sa) 0 - i2 by omega)]) ?_
      refine x_iload_n C 0 rfl rfl dX7_clearMixes_37 ?_
      refine x_if_lt C 63 (by decide) dX7_clearMixes_38 (fun hz => absurd hz (nI_pos (by omega))) (fun _ => ?_)
      refine x_aload_n C 2 rfl rfl dX7_clearMixes_41 ?_
      refine x_iconst C 0 (by decide) dX7_clearMixes_42 ?_
      refine x_iload_n C 0 rfl rfl dX7_clearMixes_43 ?_
      refine x_iconst C 1 (by decide) dX7_clearMixes_44 ?_
      refine x_FV (w1 := ([] : va_W)) (wc := (wMo g am (sp_clr s sa a (sp_X7_save_s s sa) i2) fi tx dm 0 (sp_X7_save_sa sa) ln pa le sk nu h)) (w2 := ([] : va_W)) [.int 0, .int (nI (rN (sp_X7_save_s s sa) 0 - i2 - 1)), .int 1] [] (wMo g am (sp_clr s sa a (sp_X7_save_s s sa) i2) fi tx dm 0 (sp_X7_save_sa sa) ln pa le sk nu h) C (k_X7_ofMix l g am (sp_clr s sa a (sp_X7_save_s s sa) i2) fi tx dm 0 (sp_X7_save_sa sa) ln pa le sk nu h 0 0 rfl (nI (rN (sp_X7_save_s s sa) 0 - i2 - 1)) (rN (sp_X7_save_s s sa) 0 - i2 - 1) rfl 1 1 rfl (by omega)) rfl yV_X7_ofMix wML_X7_39 rfl 0 rfl rfl rfl rfl (nle rfl) (nle rfl) (nle rfl) (nle rfl) (nle rfl) dX7_clearMixes_45 ?_
      have h1l := in_le h1 (by decide) (show (5 : Int32) = nI 5 from rfl) (by decide)
      refine x_iload_n C 3 rfl rfl dX7_clearMixes_48 ?_
      suffices K4 : xW p l e _ σ m args below meth c g.1 A 4 0 0 _ (wMo g am (if ((sp_clr s sa a (sp_X7_save_s s sa) i2) (0 + 27 + 5 * (rN (sp_X7_save_s s sa) 0 - i2 - 1) + 1)) = a then (sp_rm (rN (sp_X7_save_s s sa) 0 - i2 - 1) (upd (sp_clr s sa a (sp_X7_save_s s sa) i2) 26 (((sp_clr s sa a (sp_X7_save_s s sa) i2) 26) - 1)) (5 * (rN (sp_clr s sa a (sp_X7_save_s s sa) i2) 0 - 1) - 5 * (rN (sp_X7_save_s s sa) 0 - i2 - 1))) else (sp_clr s sa a (sp_X7_save_s s sa) i2)) fi tx dm 0 (sp_X7_save_sa sa) ln pa le sk nu h) [(3, .int (nI (rN (sp_X7_save_s s sa) 0 - i2 - 1))), (2, .int ((sp_X7_save_s s sa) 26)), (0, .ref (am 0)), (1, .int a)] 57 [] by
        refine x_icmp_ne C 57 (by decide) dX7_clearMixes_49 (fun h3 => ?_) (fun h3 => ?_)
        · refine x_ws (ws' := (wMo g am (if ((sp_clr s sa a (sp_X7_save_s s sa) i2) (0 + 27 + 5 * (rN (sp_X7_save_s s sa) 0 - i2 - 1) + 1)) = a then (sp_rm (rN (sp_X7_save_s s sa) 0 - i2 - 1) (upd (sp_clr s sa a (sp_X7_save_s s sa) i2) 26 (((sp_clr s sa a (sp_X7_save_s s sa) i2) 26) - 1)) (5 * (rN (sp_clr s sa a (sp_X7_save_s s sa) i2) 0 - 1) - 5 * (rN (sp_X7_save_s s sa) 0 - i2 - 1))) else (sp_clr s sa a (sp_X7_save_s s sa) i2)) fi tx dm 0 (sp_X7_save_sa sa) ln pa le sk nu h)) (by first | (simp only [if_neg h3]; done) | (simp only [if_neg h3]; rfl)) ?_
          exact K4
        · refine x_aload_n C 2 rfl rfl dX7_clearMixes_52 ?_
          refine x_iload_n C 0 rfl rfl dX7_clearMixes_53 ?_
          refine x_GV (w1 := ([] : va_W)) (wc := (wMo g am (sp_clr s sa a (sp_X7_save_s s sa) i2) fi tx dm 0 (sp_X7_save_sa sa) ln pa le sk nu h)) (w2 := ([] : va_W)) [.int (nI (rN (sp_X7_save_s s sa) 0 - i2 - 1))] [] (wMo g am (sp_rm (rN (sp_X7_save_s s sa) 0 - i2 - 1) (upd (sp_clr s sa a (sp_X7_save_s s sa) i2) 26 (((sp_clr s sa a (sp_X7_save_s s sa) i2) 26) - 1)) (5 * (rN (sp_clr s sa a (sp_X7_save_s s sa) i2) 0 - 1) - 5 * (rN (sp_X7_save_s s sa) 0 - i2 - 1))) fi tx dm 0 (sp_X7_save_sa sa) ln pa le sk nu h) C (k_X7_removes l g am (sp_clr s sa a (sp_X7_save_s s sa) i2) fi tx dm 0 (sp_X7_save_sa sa) ln pa le sk nu h (nI (rN (sp_X7_save_s s sa) 0 - i2 - 1)) (rN (sp_X7_save_s s sa) 0 - i2 - 1) rfl (sp_clr_ok hq1 hq2 _ (by omega)).1 (sp_clr_ok hq1 hq2 _ (by omega)).2.1 (by have := (sp_clr_ok (a := a) hq1 hq2 i2 (by omega)).2.2; omega)) rfl yV_X7_removes wML_X7_111 rfl 0 rfl rfl rfl rfl (nle rfl) (nle rfl) (nle rfl) (nle rfl) (nle rfl) dX7_clearMixes_54 ?_
          refine x_ws (ws' := (wMo g am (if ((sp_clr s sa a (sp_X7_save_s s sa) i2) (0 + 27 + 5 * (rN (sp_X7_save_s s sa) 0 - i2 - 1) + 1)) = a then (sp_rm (rN (sp_X7_save_s s sa) 0 - i2 - 1) (upd (sp_clr s sa a (sp_X7_save_s s sa) i2) 26 (((sp_clr s sa a (sp_X7_save_s s sa) i2) 26) - 1)) (5 * (rN (sp_clr s sa a (sp_X7_save_s s sa) i2) 0 - 1) - 5 * (rN (sp_X7_save_s s sa) 0 - i2 - 1))) else (sp_clr s sa a (sp_X7_save_s s sa) i2)) fi tx dm 0 (sp_X7_save_sa sa) ln pa le sk nu h)) (by first | (simp only [if_pos h3]; done) | (simp only [if_pos h3]; rfl)) ?_
          exact K4
      refine x_iinc C 0 ((nI (rN (sp_X7_save_s s sa) 0 - i2 - 1)) + (-1)) [(3, .int ((nI (rN (sp_X7_save_s s sa) 0 - i2 - 1)) + (-1))), (2, .int ((sp_X7_save_s s sa) 26)), (0, .ref (am 0)), (1, .int a)] rfl (by rw [show Int32.ofInt (-1) = (-1) from by decide]) rfl (by decide) dX7_clearMixes_57 ?_
      refine x_goto C 37 (by decide) dX7_clearMixes_60 ?_
      refine x_lve (lv' := [(3, .int (nI (rN (sp_X7_save_s s sa) 0 - (i2 + 1)) - 1)), (2, .int ((sp_X7_save_s s sa) 26)), (0, .ref (am 0)), (1, .int a)]) (by rw [dl_step (show i2 < rN (sp_X7_save_s s sa) 0 by omega)]) ?_
      exact ih2 (i2 + 1) (by omega)
def sp_drv1 (s : Nat → Int32) (a : Int32) (i1 : Nat) (a0 : Int32) : Nat → Int32
  | 0 => a0
  | i2 + 1 => ((sp_drv1 s a i1 a0 i2) ||| (if (if (s (0 + 27 + 5 * i2 + 0)) = a then (1 : Int32) else (if (s (0 + 27 + 5 * i2 + 0)) < 4 then (0 : Int32) else (if (((sp_drv1 s a i1 a0 i2) >>> (((s (0 + 27 + 5 * i2 + 0)) - 4) &&& 31)) &&& 1) = 1 then (1 : Int32) else 0))) = 0 then (0 : Int32) else (if (s (0 + 27 + 5 * i2 + 1)) = (nI i1) then (if (sp_X7_holdsNow s 0 i2) = 0 then (0 : Int32) else (1 <<< ((nI i1) &&& 31))) else 0)))
def sp_drv (s : Nat → Int32) (a : Int32) (a0 : Int32) : Nat → Int32
  | 0 => a0
  | i1 + 1 => (sp_drv1 s a i1 (sp_drv s a a0 i1) (rN s 0))
set_option maxRecDepth 100000 in
theorem k_X7_driven (l : Launch) (g : xGt) (am : Nat → Nat) (s fi tx dm : Nat → Int32) (th sa ln pa le sk nu : Int32) (h : Int64) (a : Int32) (hm : rOk s 0) : xM l g.1 (xT g) yX7_driven (ws_ yX7_driven cX7_driven 7 (some .int)) (xRm 2 46 0 0) 0 0 [.ref (am 0), .int a] (wMo g am s fi tx dm th sa ln pa le sk nu h) (fun r9 w9 => r9 = some (.int (sp_drv s a 0 6)) ∧ w9 = (wMo g am s fi tx dm th sa ln pa le sk nu h)) (fun _ _ => False) := by
  have hm1 := hm.1
  have hm2 := hm.2.1
  refine x_start (own := RX7) (nm := "driven") rfl rfl (by decide +kernel) rfl (nle rfl) (fun p e σ m args below meth c A C hno hr => ?_)
  refine x_lve (lv' := [(0, .ref (am 0)), (1, .int a)]) rfl ?_
  refine x_iconst C 0 (by decide) dX7_driven_0 ?_
  refine x_istore_n C [(2, .int 0), (0, .ref (am 0)), (1, .int a)] rfl rfl (by decide) dX7_driven_1 ?_
  refine x_iconst C 0 (by decide) dX7_driven_2 ?_
  refine x_istore_n C [(3, .int 0), (2, .int 0), (0, .ref (am 0)), (1, .int a)] rfl rfl (by decide) dX7_driven_3 ?_
  suffices L1 : ∀ (n1 i1 : Nat), i1 + n1 = 6 → xW p l e _ σ m args below meth c g.1 A 7 0 0 _ (wMo g am s fi tx dm th sa ln pa le sk nu h) [(3, .int (nI i1)), (2, .int (sp_drv s a 0 i1)), (0, .ref (am 0)), (1, .int a)] 4 [] by
    exact L1 (6) 0 (by omega)
  intro n1
  induction n1 with
  | zero =>
    intro i1 hn1
    obtain rfl : i1 = 6 := by omega
    refine x_iload_n C 0 rfl rfl dX7_driven_4 ?_
    refine x_bipush C 6 (by decide) dX7_driven_5 ?_
    refine x_icmp_ge C 115 (by decide) dX7_driven_7 (fun _ => ?_) (fun hz => absurd (xge (show (6 : Int32) = nI 6 from rfl) rfl (by omega) (by omega)) hz)
    refine x_iload_n C 1 rfl rfl dX7_driven_115 ?_
    exact x_iret C hr (nle rfl) (nle rfl) dX7_driven_116 ⟨rfl, rfl⟩
  | succ n1 ih1 =>
    intro i1 hn1
    refine x_iload_n C 0 rfl rfl dX7_driven_4 ?_
    refine x_bipush C 6 (by decide) dX7_driven_5 ?_
    refine x_icmp_ge C 115 (by decide) dX7_driven_7 (fun hz => absurd hz (xnge (show (6 : Int32) = nI 6 from rfl) rfl (by omega) (by omega))) (fun _ => ?_)
    refine x_iconst C 0 (by decide) dX7_driven_10 ?_
    refine x_istore C [(4, .int 0), (3, .int (nI i1)), (2, .int (sp_drv s a 0 i1)), (0, .ref (am 0)), (1, .int a)] rfl (by decide) dX7_driven_11 ?_
    suffices L2 : ∀ (n2 i2 : Nat), i2 + n2 = rN s 0 → xW p l e _ σ m args below meth c g.1 A 7 0 0 _ (wMo g am s fi tx dm th sa ln pa le sk nu h) [(4, .int (nI i2)), (3, .int (nI i1)), (2, .int (sp_drv1 s a i1 (sp_drv s a 0 i1) i2)), (0, .ref (am 0)), (1, .int a)] 13 [] by
      exact L2 (rN s 0) 0 (by omega)
    intro n2
    induction n2 with
    | zero =>
      intro i2 hn2
      obtain rfl : i2 = rN s 0 := by omega
      refine x_iload C 0 rfl dX7_driven_13 ?_
      refine x_aload_n C 3 rfl rfl dX7_driven_15 ?_
      refine x_get C 0 7 1 rfl rfl wLy_X7 wFL_X7_7 rfl (by decide) rfl dX7_driven_16 ?_
      refine x_bipush C 26 (by decide) dX7_driven_19 ?_
      refine x_ialdN (f := s) C 1 0 26 rfl rfl rfl (by omega) (by decide) dX7_driven_21 ?_
      refine x_icmp_ge C 109 (by decide) dX7_driven_22 (fun _ => ?_) (fun hz => absurd (xge hm1 rfl (by omega) (by omega)) hz)
      refine x_iinc C 1 (nI (i1 + 1)) [(3, .int (nI (i1 + 1))), (4, .int (nI (rN s 0))), (2, .int (sp_drv1 s a i1 (sp_drv s a 0 i1) (rN s 0))), (0, .ref (am 0)), (1, .int a)] rfl (nI_add _ _) rfl (by decide) dX7_driven_109 ?_
      refine x_goto C 4 (by decide) dX7_driven_112 ?_
      refine x_lv [(3, .int (nI (i1 + 1))), (2, .int (sp_drv1 s a i1 (sp_drv s a 0 i1) (rN s 0))), (0, .ref (am 0)), (1, .int a)] [0, 2, 3, 4] rfl ?_
      exact ih1 (i1 + 1) (by omega)
    | succ n2 ih2 =>
      intro i2 hn2
      refine x_iload C 0 rfl dX7_driven_13 ?_
      refine x_aload_n C 3 rfl rfl dX7_driven_15 ?_
      refine x_get C 0 7 1 rfl rfl wLy_X7 wFL_X7_7 rfl (by decide) rfl dX7_driven_16 ?_
      refine x_bipush C 26 (by decide) dX7_driven_19 ?_
      refine x_ialdN (f := s) C 1 0 26 rfl rfl rfl (by omega) (by decide) dX7_driven_21 ?_
      refine x_icmp_ge C 109 (by decide) dX7_driven_22 (fun hz => absurd hz (xnge hm1 rfl (by omega) (by omega))) (fun _ => ?_)
      refine x_aload_n C 3 rfl rfl dX7_driven_25 ?_
      refine x_iconst C 0 (by decide) dX7_driven_26 ?_
      refine x_iload C 0 rfl dX7_driven_27 ?_
      refine x_iconst C 0 (by decide) dX7_driven_29 ?_
      refine x_FV (w1 := ([] : va_W)) (wc := (wMo g am s fi tx dm th sa ln pa le sk nu h)) (w2 := ([] : va_W)) [.int 0, .int (nI i2), .int 0] [] (wMo g am s fi tx dm th sa ln pa le sk nu h) C (k_X7_ofMix l g am s fi tx dm th sa ln pa le sk nu h 0 0 rfl (nI i2) i2 rfl 0 0 rfl (by omega)) rfl yV_X7_ofMix wML_X7_39 rfl 0 rfl rfl rfl rfl (nle rfl) (nle rfl) (nle rfl) (nle rfl) (nle rfl) dX7_driven_30 ?_
      refine x_istore C [(5, .int (s (0 + 27 + 5 * i2 + 0))), (4, .int (nI i2)), (3, .int (nI i1)), (2, .int (sp_drv1 s a i1 (sp_drv s a 0 i1) i2)), (0, .ref (am 0)), (1, .int a)] rfl (by decide) dX7_driven_33 ?_
      refine x_iload C 0 rfl dX7_driven_35 ?_
      refine x_iload_n C 5 rfl rfl dX7_driven_37 ?_
      suffices K4 : xW p l e _ σ m args below meth c g.1 A 7 0 0 _ (wMo g am s fi tx dm th sa ln pa le sk nu h) [(5, .int (s (0 + 27 + 5 * i2 + 0))), (4, .int (nI i2)), (3, .int (nI i1)), (2, .int (sp_drv1 s a i1 (sp_drv s a 0 i1) i2)), (0, .ref (am 0)), (1, .int a)] 64 [.int (if (s (0 + 27 + 5 * i2 + 0)) = a then (1 : Int32) else (if (s (0 + 27 + 5 * i2 + 0)) < 4 then (0 : Int32) else (if (((sp_drv1 s a i1 (sp_drv s a 0 i1) i2) >>> (((s (0 + 27 + 5 * i2 + 0)) - 4) &&& 31)) &&& 1) = 1 then (1 : Int32) else 0)))] by
        refine x_icmp_eq C 59 (by decide) dX7_driven_38 (fun h3 => ?_) (fun h3 => ?_)
        · refine x_iconst C 1 (by decide) dX7_driven_59 ?_
          refine x_goto C 64 (by decide) dX7_driven_60 ?_
          refine x_st (st' := [.int (if (s (0 + 27 + 5 * i2 + 0)) = a then (1 : Int32) else (if (s (0 + 27 + 5 * i2 + 0)) < 4 then (0 : Int32) else (if (((sp_drv1 s a i1 (sp_drv s a 0 i1) i2) >>> (((s (0 + 27 + 5 * i2 + 0)) - 4) &&& 31)) &&& 1) = 1 then (1 : Int32) else 0)))]) (by simp only [if_pos h3]) ?_
          exact K4
        · refine x_iload C 0 rfl dX7_driven_41 ?_
          refine x_iconst C 4 (by decide) dX7_driven_43 ?_
          refine x_icmp_lt C 63 (by decide) dX7_driven_44 (fun h4 => ?_) (fun h4 => ?_)
          · refine x_iconst C 0 (by decide) dX7_driven_63 ?_
            refine x_st (st' := [.int (if (s (0 + 27 + 5 * i2 + 0)) = a then (1 : Int32) else (if (s (0 + 27 + 5 * i2 + 0)) < 4 then (0 : Int32) else (if (((sp_drv1 s a i1 (sp_drv s a 0 i1) i2) >>> (((s (0 + 27 + 5 * i2 + 0)) - 4) &&& 31)) &&& 1) = 1 then (1 : Int32) else 0)))]) (by simp only [if_neg h3, if_pos h4]) ?_
            exact K4
          · refine x_iload_n C 3 rfl rfl dX7_driven_47 ?_
            refine x_iload C 0 rfl dX7_driven_48 ?_
            refine x_iconst C 4 (by decide) dX7_driven_50 ?_
            refine x_isub C dX7_driven_51 ?_
            refine x_ishr C dX7_driven_52 ?_
            refine x_iconst C 1 (by decide) dX7_driven_53 ?_
            refine x_iand C dX7_driven_54 ?_
            refine x_iconst C 1 (by decide) dX7_driven_55 ?_
            refine x_icmp_ne C 63 (by decide) dX7_driven_56 (fun h5 => ?_) (fun h5 => ?_)
            · refine x_iconst C 0 (by decide) dX7_driven_63 ?_
              refine x_st (st' := [.int (if (s (0 + 27 + 5 * i2 + 0)) = a then (1 : Int32) else (if (s (0 + 27 + 5 * i2 + 0)) < 4 then (0 : Int32) else (if (((sp_drv1 s a i1 (sp_drv s a 0 i1) i2) >>> (((s (0 + 27 + 5 * i2 + 0)) - 4) &&& 31)) &&& 1) = 1 then (1 : Int32) else 0)))]) (by simp only [if_neg h3, if_neg h4, if_neg h5]) ?_
              exact K4
            · refine x_iconst C 1 (by decide) dX7_driven_59 ?_
              refine x_goto C 64 (by decide) dX7_driven_60 ?_
              refine x_st (st' := [.int (if (s (0 + 27 + 5 * i2 + 0)) = a then (1 : Int32) else (if (s (0 + 27 + 5 * i2 + 0)) < 4 then (0 : Int32) else (if (((sp_drv1 s a i1 (sp_drv s a 0 i1) i2) >>> (((s (0 + 27 + 5 * i2 + 0)) - 4) &&& 31)) &&& 1) = 1 then (1 : Int32) else 0)))]) (by simp only [if_neg h3, if_neg h4, if_pos h5]) ?_
              exact K4
      refine x_istore C [(6, .int (if (s (0 + 27 + 5 * i2 + 0)) = a then (1 : Int32) else (if (s (0 + 27 + 5 * i2 + 0)) < 4 then (0 : Int32) else (if (((sp_drv1 s a i1 (sp_drv s a 0 i1) i2) >>> (((s (0 + 27 + 5 * i2 + 0)) - 4) &&& 31)) &&& 1) = 1 then (1 : Int32) else 0)))), (5, .int (s (0 + 27 + 5 * i2 + 0))), (4, .int (nI i2)), (3, .int (nI i1)), (2, .int (sp_drv1 s a i1 (sp_drv s a 0 i1) i2)), (0, .ref (am 0)), (1, .int a)] rfl (by decide) dX7_driven_64 ?_
      refine x_iload_n C 4 rfl rfl dX7_driven_66 ?_
      refine x_iload C 0 rfl dX7_driven_67 ?_
      suffices K8 : xW p l e _ σ m args below meth c g.1 A 7 0 0 _ (wMo g am s fi tx dm th sa ln pa le sk nu h) [(6, .int (if (s (0 + 27 + 5 * i2 + 0)) = a then (1 : Int32) else (if (s (0 + 27 + 5 * i2 + 0)) < 4 then (0 : Int32) else (if (((sp_drv1 s a i1 (sp_drv s a 0 i1) i2) >>> (((s (0 + 27 + 5 * i2 + 0)) - 4) &&& 31)) &&& 1) = 1 then (1 : Int32) else 0)))), (5, .int (s (0 + 27 + 5 * i2 + 0))), (4, .int (nI i2)), (3, .int (nI i1)), (2, .int (sp_drv1 s a i1 (sp_drv s a 0 i1) i2)), (0, .ref (am 0)), (1, .int a)] 101 [.int (if (if (s (0 + 27 + 5 * i2 + 0)) = a then (1 : Int32) else (if (s (0 + 27 + 5 * i2 + 0)) < 4 then (0 : Int32) else (if (((sp_drv1 s a i1 (sp_drv s a 0 i1) i2) >>> (((s (0 + 27 + 5 * i2 + 0)) - 4) &&& 31)) &&& 1) = 1 then (1 : Int32) else 0))) = 0 then (0 : Int32) else (if (s (0 + 27 + 5 * i2 + 1)) = (nI i1) then (if (sp_X7_holdsNow s 0 i2) = 0 then (0 : Int32) else (1 <<< ((nI i1) &&& 31))) else 0)), .int (sp_drv1 s a i1 (sp_drv s a 0 i1) i2)] by
        refine x_if_eq C 100 (by decide) dX7_driven_69 (fun h7 => ?_) (fun h7 => ?_)
        · refine x_iconst C 0 (by decide) dX7_driven_100 ?_
          refine x_st (st' := [.int (if (if (s (0 + 27 + 5 * i2 + 0)) = a then (1 : Int32) else (if (s (0 + 27 + 5 * i2 + 0)) < 4 then (0 : Int32) else (if (((sp_drv1 s a i1 (sp_drv s a 0 i1) i2) >>> (((s (0 + 27 + 5 * i2 + 0)) - 4) &&& 31)) &&& 1) = 1 then (1 : Int32) else 0))) = 0 then (0 : Int32) else (if (s (0 + 27 + 5 * i2 + 1)) = (nI i1) then (if (sp_X7_holdsNow s 0 i2) = 0 then (0 : Int32) else (1 <<< ((nI i1) &&& 31))) else 0)), .int (sp_drv1 s a i1 (sp_drv s a 0 i1) i2)]) (by simp only [if_pos h7]) ?_
          exact K8
        · refine x_aload_n C 5 rfl rfl dX7_driven_72 ?_
          refine x_iconst C 0 (by decide) dX7_driven_73 ?_
          refine x_iload C 2 rfl dX7_driven_74 ?_
          refine x_iconst C 1 (by decide) dX7_driven_76 ?_
          refine x_FV (w1 := ([] : va_W)) (wc := (wMo g am s fi tx dm th sa ln pa le sk nu h)) (w2 := ([] : va_W)) [.int 0, .int (nI i2), .int 1] [.int (sp_drv1 s a i1 (sp_drv s a 0 i1) i2)] (wMo g am s fi tx dm th sa ln pa le sk nu h) C (k_X7_ofMix l g am s fi tx dm th sa ln pa le sk nu h 0 0 rfl (nI i2) i2 rfl 1 1 rfl (by omega)) rfl yV_X7_ofMix wML_X7_39 rfl 0 rfl rfl rfl rfl (nle rfl) (nle rfl) (nle rfl) (nle rfl) (nle rfl) dX7_driven_77 ?_
          refine x_iload_n C 3 rfl rfl dX7_driven_80 ?_
          refine x_icmp_ne C 100 (by decide) dX7_driven_81 (fun h8 => ?_) (fun h8 => ?_)
          · refine x_iconst C 0 (by decide) dX7_driven_100 ?_
            refine x_st (st' := [.int (if (if (s (0 + 27 + 5 * i2 + 0)) = a then (1 : Int32) else (if (s (0 + 27 + 5 * i2 + 0)) < 4 then (0 : Int32) else (if (((sp_drv1 s a i1 (sp_drv s a 0 i1) i2) >>> (((s (0 + 27 + 5 * i2 + 0)) - 4) &&& 31)) &&& 1) = 1 then (1 : Int32) else 0))) = 0 then (0 : Int32) else (if (s (0 + 27 + 5 * i2 + 1)) = (nI i1) then (if (sp_X7_holdsNow s 0 i2) = 0 then (0 : Int32) else (1 <<< ((nI i1) &&& 31))) else 0)), .int (sp_drv1 s a i1 (sp_drv s a 0 i1) i2)]) (by simp only [if_neg h7, if_neg h8]) ?_
            exact K8
          · refine x_aload_n C 5 rfl rfl dX7_driven_84 ?_
            refine x_iconst C 0 (by decide) dX7_driven_85 ?_
            refine x_iload C 2 rfl dX7_driven_86 ?_
            refine x_FV (w1 := ([] : va_W)) (wc := (wMo g am s fi tx dm th sa ln pa le sk nu h)) (w2 := ([] : va_W)) [.int 0, .int (nI i2)] [.int (sp_drv1 s a i1 (sp_drv s a 0 i1) i2)] (wMo g am s fi tx dm th sa ln pa le sk nu h) C (k_X7_holdsNow l g am s fi tx dm th sa ln pa le sk nu h 0 0 rfl (nI i2) i2 rfl (by omega) hm (by omega)) rfl yV_X7_holdsNow wML_X7_47 rfl 0 rfl rfl rfl rfl (nle rfl) (nle rfl) (nle rfl) (nle rfl) (nle rfl) dX7_driven_88 ?_
            refine x_if_eq C 100 (by decide) dX7_driven_91 (fun h9 => ?_) (fun h9 => ?_)
            · refine x_iconst C 0 (by decide) dX7_driven_100 ?_
              refine x_st (st' := [.int (if (if (s (0 + 27 + 5 * i2 + 0)) = a then (1 : Int32) else (if (s (0 + 27 + 5 * i2 + 0)) < 4 then (0 : Int32) else (if (((sp_drv1 s a i1 (sp_drv s a 0 i1) i2) >>> (((s (0 + 27 + 5 * i2 + 0)) - 4) &&& 31)) &&& 1) = 1 then (1 : Int32) else 0))) = 0 then (0 : Int32) else (if (s (0 + 27 + 5 * i2 + 1)) = (nI i1) then (if (sp_X7_holdsNow s 0 i2) = 0 then (0 : Int32) else (1 <<< ((nI i1) &&& 31))) else 0)), .int (sp_drv1 s a i1 (sp_drv s a 0 i1) i2)]) (by simp only [if_neg h7, if_pos h8, if_pos h9]) ?_
              exact K8
            · refine x_iconst C 1 (by decide) dX7_driven_94 ?_
              refine x_iload_n C 3 rfl rfl dX7_driven_95 ?_
              refine x_ishl C dX7_driven_96 ?_
              refine x_goto C 101 (by decide) dX7_driven_97 ?_
              refine x_st (st' := [.int (if (if (s (0 + 27 + 5 * i2 + 0)) = a then (1 : Int32) else (if (s (0 + 27 + 5 * i2 + 0)) < 4 then (0 : Int32) else (if (((sp_drv1 s a i1 (sp_drv s a 0 i1) i2) >>> (((s (0 + 27 + 5 * i2 + 0)) - 4) &&& 31)) &&& 1) = 1 then (1 : Int32) else 0))) = 0 then (0 : Int32) else (if (s (0 + 27 + 5 * i2 + 1)) = (nI i1) then (if (sp_X7_holdsNow s 0 i2) = 0 then (0 : Int32) else (1 <<< ((nI i1) &&& 31))) else 0)), .int (sp_drv1 s a i1 (sp_drv s a 0 i1) i2)]) (by simp only [if_neg h7, if_pos h8, if_neg h9]) ?_
              exact K8
      refine x_ior C dX7_driven_101 ?_
      refine x_istore_n C [(2, .int ((sp_drv1 s a i1 (sp_drv s a 0 i1) i2) ||| (if (if (s (0 + 27 + 5 * i2 + 0)) = a then (1 : Int32) else (if (s (0 + 27 + 5 * i2 + 0)) < 4 then (0 : Int32) else (if (((sp_drv1 s a i1 (sp_drv s a 0 i1) i2) >>> (((s (0 + 27 + 5 * i2 + 0)) - 4) &&& 31)) &&& 1) = 1 then (1 : Int32) else 0))) = 0 then (0 : Int32) else (if (s (0 + 27 + 5 * i2 + 1)) = (nI i1) then (if (sp_X7_holdsNow s 0 i2) = 0 then (0 : Int32) else (1 <<< ((nI i1) &&& 31))) else 0)))), (6, .int (if (s (0 + 27 + 5 * i2 + 0)) = a then (1 : Int32) else (if (s (0 + 27 + 5 * i2 + 0)) < 4 then (0 : Int32) else (if (((sp_drv1 s a i1 (sp_drv s a 0 i1) i2) >>> (((s (0 + 27 + 5 * i2 + 0)) - 4) &&& 31)) &&& 1) = 1 then (1 : Int32) else 0)))), (5, .int (s (0 + 27 + 5 * i2 + 0))), (4, .int (nI i2)), (3, .int (nI i1)), (0, .ref (am 0)), (1, .int a)] rfl rfl (by decide) dX7_driven_102 ?_
      refine x_iinc C 3 (nI (i2 + 1)) [(4, .int (nI (i2 + 1))), (2, .int ((sp_drv1 s a i1 (sp_drv s a 0 i1) i2) ||| (if (if (s (0 + 27 + 5 * i2 + 0)) = a then (1 : Int32) else (if (s (0 + 27 + 5 * i2 + 0)) < 4 then (0 : Int32) else (if (((sp_drv1 s a i1 (sp_drv s a 0 i1) i2) >>> (((s (0 + 27 + 5 * i2 + 0)) - 4) &&& 31)) &&& 1) = 1 then (1 : Int32) else 0))) = 0 then (0 : Int32) else (if (s (0 + 27 + 5 * i2 + 1)) = (nI i1) then (if (sp_X7_holdsNow s 0 i2) = 0 then (0 : Int32) else (1 <<< ((nI i1) &&& 31))) else 0)))), (6, .int (if (s (0 + 27 + 5 * i2 + 0)) = a then (1 : Int32) else (if (s (0 + 27 + 5 * i2 + 0)) < 4 then (0 : Int32) else (if (((sp_drv1 s a i1 (sp_drv s a 0 i1) i2) >>> (((s (0 + 27 + 5 * i2 + 0)) - 4) &&& 31)) &&& 1) = 1 then (1 : Int32) else 0)))), (5, .int (s (0 + 27 + 5 * i2 + 0))), (3, .int (nI i1)), (0, .ref (am 0)), (1, .int a)] rfl (nI_add _ _) rfl (by decide) dX7_driven_103 ?_
      refine x_goto C 13 (by decide) dX7_driven_106 ?_
      refine x_lv [(4, .int (nI (i2 + 1))), (3, .int (nI i1)), (2, .int ((sp_drv1 s a i1 (sp_drv s a 0 i1) i2) ||| (if (if (s (0 + 27 + 5 * i2 + 0)) = a then (1 : Int32) else (if (s (0 + 27 + 5 * i2 + 0)) < 4 then (0 : Int32) else (if (((sp_drv1 s a i1 (sp_drv s a 0 i1) i2) >>> (((s (0 + 27 + 5 * i2 + 0)) - 4) &&& 31)) &&& 1) = 1 then (1 : Int32) else 0))) = 0 then (0 : Int32) else (if (s (0 + 27 + 5 * i2 + 1)) = (nI i1) then (if (sp_X7_holdsNow s 0 i2) = 0 then (0 : Int32) else (1 <<< ((nI i1) &&& 31))) else 0)))), (0, .ref (am 0)), (1, .int a)] [0, 4, 1, 5, 6] rfl ?_
      exact ih2 (i2 + 1) (by omega)
def sp_X7_drivenBy (s : Nat → Int32) (a : Int32) : Int32 := (if (sp_X7_in a 0 3) = 0 then 0 else (sp_drv s a 0 6))
def sp_X7_drivenBy_th (a : Int32) : Int32 := (if (sp_X7_in a 0 3) = 0 then 1 else 0)
set_option maxRecDepth 100000 in
theorem k_X7_drivenBy (l : Launch) (g : xGt) (am : Nat → Nat) (s fi tx dm : Nat → Int32) (th sa ln pa le sk nu : Int32) (h : Int64) (a : Int32) (hs : sa = nI (Int32.toNatClampNeg sa)) (hs6 : Int32.toNatClampNeg sa ≤ 6) (hm : rOk s 0) : xM l g.1 (xT g) yX7_drivenBy (ws_ yX7_drivenBy cX7_drivenBy 2 (some .int)) (xRm 3 72 0 0) 0 0 [.ref (am 0), .int a] (wMo g am s fi tx dm th sa ln pa le sk nu h) (fun r9 w9 => r9 = some (.int (sp_X7_drivenBy s a)) ∧ w9 = (wMo g am s fi tx dm (sp_X7_drivenBy_th a) sa ln pa le sk nu h)) (fun _ _ => False) := by
  refine x_start (own := RX7) (nm := "drivenBy") rfl rfl (by decide +kernel) rfl (nle rfl) (fun p e σ m args below meth c A C hno hr => ?_)
  refine x_lve (lv' := [(0, .ref (am 0)), (1, .int a)]) rfl ?_
  refine x_aload_n C 0 rfl rfl dX7_drivenBy_0 ?_
  refine x_iload_n C 1 rfl rfl dX7_drivenBy_1 ?_
  refine x_FS (w1 := ([] : va_W)) (wc := ([] : va_W)) (w2 := (wMo g am s fi tx dm th sa ln pa le sk nu h)) [.int a] [.ref (am 0)] (wMo g am s fi tx dm th sa ln pa le sk nu h) C (k_X7_isStick l g a) rfl yS_X7_isStick wML_X7_95 rfl rfl rfl (nle rfl) (nle rfl) (nle rfl) (nle rfl) (nle rfl) dX7_drivenBy_2 ?_
  refine x_if_eq C 12 (by decide) dX7_drivenBy_5 (fun h1 => ?_) (fun h1 => ?_)
  · refine x_iconst C 1 (by decide) dX7_drivenBy_12 ?_
    refine x_FV (w1 := ([] : va_W)) (wc := (wMo g am s fi tx dm th sa ln pa le sk nu h)) (w2 := ([] : va_W)) [.int 1] [] (wMo g am s fi tx dm 1 sa ln pa le sk nu h) C (k_X7_holds l g am s fi tx dm th sa ln pa le sk nu h 1) rfl yV_X7_holds wML_X7_99 rfl 0 rfl rfl rfl rfl (nle rfl) (nle rfl) (nle rfl) (nle rfl) (nle rfl) dX7_drivenBy_13 ?_
    refine x_st (st' := [.int 0]) (by rw [show (sp_X7_holds 1) = 0 from by decide]) ?_
    refine x_if_eq C 27 (by decide) dX7_drivenBy_16 (fun _ => ?_) (fun hz => absurd (by decide) hz)
    refine x_iconst C 0 (by decide) dX7_drivenBy_27 ?_
    exact x_iret C hr (nle rfl) (nle rfl) dX7_drivenBy_28 ⟨(by first | (simp only [sp_X7_drivenBy, if_pos h1]; done) | (simp only [sp_X7_drivenBy, if_pos h1]; rfl)), (by first | (simp only [sp_X7_drivenBy_th, if_pos h1]; done) | (simp only [sp_X7_drivenBy_th, if_pos h1]; rfl))⟩
  · refine x_iconst C 0 (by decide) dX7_drivenBy_8 ?_
    refine x_goto C 13 (by decide) dX7_drivenBy_9 ?_
    refine x_FV (w1 := ([] : va_W)) (wc := (wMo g am s fi tx dm th sa ln pa le sk nu h)) (w2 := ([] : va_W)) [.int 0] [] (wMo g am s fi tx dm 0 sa ln pa le sk nu h) C (k_X7_holds l g am s fi tx dm th sa ln pa le sk nu h 0) rfl yV_X7_holds wML_X7_99 rfl 0 rfl rfl rfl rfl (nle rfl) (nle rfl) (nle rfl) (nle rfl) (nle rfl) dX7_drivenBy_13 ?_
    refine x_st (st' := [.int 1]) (by rw [show (sp_X7_holds 0) = 1 from by decide]) ?_
    refine x_if_eq C 27 (by decide) dX7_drivenBy_16 (fun hz => absurd hz (by decide)) (fun _ => ?_)
    refine x_aload_n C 0 rfl rfl dX7_drivenBy_19 ?_
    have h1l := in_le h1 (by decide) (show (3 : Int32) = nI 3 from rfl) (by decide)
    refine x_iload_n C 1 rfl rfl dX7_drivenBy_20 ?_
    refine x_FV (w1 := ([] : va_W)) (wc := (wMo g am s fi tx dm 0 sa ln pa le sk nu h)) (w2 := ([] : va_W)) [.int a] [] (wMo g am s fi tx dm 0 sa ln pa le sk nu h) C (k_X7_driven l g am s fi tx dm 0 sa ln pa le sk nu h a hm) rfl yV_X7_driven wML_X7_124 rfl 0 rfl rfl rfl rfl (nle rfl) (nle rfl) (nle rfl) (nle rfl) (nle rfl) dX7_drivenBy_21 ?_
    refine x_goto C 28 (by decide) dX7_drivenBy_24 ?_
    exact x_iret C hr (nle rfl) (nle rfl) dX7_drivenBy_28 ⟨(by first | (simp only [sp_X7_drivenBy, if_neg h1]; done) | (simp only [sp_X7_drivenBy, if_neg h1]; rfl)), (by first | (simp only [sp_X7_drivenBy_th, if_neg h1]; done) | (simp only [sp_X7_drivenBy_th, if_neg h1]; rfl))⟩
def sp_mw (s : Nat → Int32) (a0 : Int32) (a1 : Int32) : Nat → Int32 × Int32
  | 0 => (a0, a1)
  | i1 + 1 => ((if (s (0 + 87 + 10 * i1 + 9)) ≤ ((sp_mw s a0 a1 i1).2) then ((sp_mw s a0 a1 i1).1) else (nI i1)), (if (s (0 + 87 + 10 * i1 + 9)) ≤ ((sp_mw s a0 a1 i1).2) then ((sp_mw s a0 a1 i1).2) else (s (0 + 87 + 10 * i1 + 9))))
set_option maxRecDepth 100000 in
theorem k_X7_mostWorn (l : Launch) (g : xGt) (am : Nat → Nat) (s fi tx dm : Nat → Int32) (th sa ln pa le sk nu : Int32) (h : Int64) (hs : sa = nI (Int32.toNatClampNeg sa)) (hs6 : Int32.toNatClampNeg sa ≤ 6) (hm : rOk s 0) : xM l g.1 (xT g) yX7_mostWorn (ws_ yX7_mostWorn cX7_mostWorn 5 (some .int)) (xRm 1 23 0 0) 0 0 [.ref (am 0)] (wMo g am s fi tx dm th sa ln pa le sk nu h) (fun r9 w9 => r9 = some (.int ((sp_mw s (-1) 0 6).1)) ∧ w9 = (wMo g am s fi tx dm 0 sa ln pa le sk nu h)) (fun _ _ => False) := by
  refine x_start (own := RX7) (nm := "mostWorn") rfl rfl (by decide +kernel) rfl (nle rfl) (fun p e σ m args below meth c A C hno hr => ?_)
  refine x_lve (lv' := [(0, .ref (am 0))]) rfl ?_
  refine x_aload_n C 0 rfl rfl dX7_mostWorn_0 ?_
  refine x_iconst C 0 (by decide) dX7_mostWorn_1 ?_
  refine x_put C 0 7 0 tyX7 (wMo g am s fi tx dm 0 sa ln pa le sk nu h) rfl rfl rfl wLy_X7 tyX7_ok nmX7 wFL_X7_31 rfl (by decide) rfl rfl rfl rfl (nlt rfl) dX7_mostWorn_2 ?_
  refine x_iconst C (-1) (by decide) dX7_mostWorn_5 ?_
  refine x_istore_n C [(1, .int (-1)), (0, .ref (am 0))] rfl rfl (by decide) dX7_mostWorn_6 ?_
  refine x_iconst C 0 (by decide) dX7_mostWorn_7 ?_
  refine x_istore_n C [(2, .int 0), (1, .int (-1)), (0, .ref (am 0))] rfl rfl (by decide) dX7_mostWorn_8 ?_
  refine x_iconst C 0 (by decide) dX7_mostWorn_9 ?_
  refine x_istore_n C [(3, .int 0), (2, .int 0), (1, .int (-1)), (0, .ref (am 0))] rfl rfl (by decide) dX7_mostWorn_10 ?_
  suffices L1 : ∀ (n1 i1 : Nat), i1 + n1 = 6 → xW p l e _ σ m args below meth c g.1 A 5 0 0 _ (wMo g am s fi tx dm 0 sa ln pa le sk nu h) [(3, .int (nI i1)), (2, .int ((sp_mw s (-1) 0 i1).2)), (1, .int ((sp_mw s (-1) 0 i1).1)), (0, .ref (am 0))] 11 [] by
    exact L1 (6) 0 (by omega)
  intro n1
  induction n1 with
  | zero =>
    intro i1 hn1
    obtain rfl : i1 = 6 := by omega
    refine x_iload_n C 0 rfl rfl dX7_mostWorn_11 ?_
    refine x_bipush C 6 (by decide) dX7_mostWorn_12 ?_
    refine x_icmp_ge C 58 (by decide) dX7_mostWorn_14 (fun _ => ?_) (fun hz => absurd (xge (show (6 : Int32) = nI 6 from rfl) rfl (by omega) (by omega)) hz)
    refine x_iload_n C 2 rfl rfl dX7_mostWorn_58 ?_
    exact x_iret C hr (nle rfl) (nle rfl) dX7_mostWorn_59 ⟨rfl, rfl⟩
  | succ n1 ih1 =>
    intro i1 hn1
    refine x_iload_n C 0 rfl rfl dX7_mostWorn_11 ?_
    refine x_bipush C 6 (by decide) dX7_mostWorn_12 ?_
    refine x_icmp_ge C 58 (by decide) dX7_mostWorn_14 (fun hz => absurd hz (xnge (show (6 : Int32) = nI 6 from rfl) rfl (by omega) (by omega))) (fun _ => ?_)
    refine x_aload_n C 3 rfl rfl dX7_mostWorn_17 ?_
    refine x_iconst C 0 (by decide) dX7_mostWorn_18 ?_
    refine x_iload_n C 0 rfl rfl dX7_mostWorn_19 ?_
    refine x_bipush C 9 (by decide) dX7_mostWorn_20 ?_
    refine x_FV (w1 := ([] : va_W)) (wc := (wMo g am s fi tx dm 0 sa ln pa le sk nu h)) (w2 := ([] : va_W)) [.int 0, .int (nI i1), .int 9] [] (wMo g am s fi tx dm 0 sa ln pa le sk nu h) C (k_X7_of l g am s fi tx dm 0 sa ln pa le sk nu h 0 0 rfl (nI i1) i1 rfl 9 9 rfl (by omega)) rfl yV_X7_of wML_X7_57 rfl 0 rfl rfl rfl rfl (nle rfl) (nle rfl) (nle rfl) (nle rfl) (nle rfl) dX7_mostWorn_22 ?_
    refine x_istore C [(4, .int (s (0 + 87 + 10 * i1 + 9))), (3, .int (nI i1)), (2, .int ((sp_mw s (-1) 0 i1).2)), (1, .int ((sp_mw s (-1) 0 i1).1)), (0, .ref (am 0))] rfl (by decide) dX7_mostWorn_25 ?_
    refine x_iload C 0 rfl dX7_mostWorn_27 ?_
    refine x_iload_n C 2 rfl rfl dX7_mostWorn_29 ?_
    suffices K3 : xW p l e _ σ m args below meth c g.1 A 5 0 0 _ (wMo g am s fi tx dm 0 sa ln pa le sk nu h) [(4, .int (s (0 + 87 + 10 * i1 + 9))), (3, .int (nI i1)), (2, .int ((sp_mw s (-1) 0 i1).2)), (1, .int ((sp_mw s (-1) 0 i1).1)), (0, .ref (am 0))] 38 [.int (if (s (0 + 87 + 10 * i1 + 9)) ≤ ((sp_mw s (-1) 0 i1).2) then ((sp_mw s (-1) 0 i1).1) else (nI i1))] by
      refine x_icmp_le C 37 (by decide) dX7_mostWorn_30 (fun h2 => ?_) (fun h2 => ?_)
      · refine x_iload_n C 3 rfl rfl dX7_mostWorn_37 ?_
        refine x_st (st' := [.int (if (s (0 + 87 + 10 * i1 + 9)) ≤ ((sp_mw s (-1) 0 i1).2) then ((sp_mw s (-1) 0 i1).1) else (nI i1))]) (by simp only [if_pos h2]) ?_
        exact K3
      · refine x_iload_n C 1 rfl rfl dX7_mostWorn_33 ?_
        refine x_goto C 38 (by decide) dX7_mostWorn_34 ?_
        refine x_st (st' := [.int (if (s (0 + 87 + 10 * i1 + 9)) ≤ ((sp_mw s (-1) 0 i1).2) then ((sp_mw s (-1) 0 i1).1) else (nI i1))]) (by simp only [if_neg h2]) ?_
        exact K3
    refine x_istore_n C [(1, .int (if (s (0 + 87 + 10 * i1 + 9)) ≤ ((sp_mw s (-1) 0 i1).2) then ((sp_mw s (-1) 0 i1).1) else (nI i1))), (4, .int (s (0 + 87 + 10 * i1 + 9))), (3, .int (nI i1)), (2, .int ((sp_mw s (-1) 0 i1).2)), (0, .ref (am 0))] rfl rfl (by decide) dX7_mostWorn_38 ?_
    refine x_iload C 1 rfl dX7_mostWorn_39 ?_
    refine x_iload_n C 3 rfl rfl dX7_mostWorn_41 ?_
    suffices K5 : xW p l e _ σ m args below meth c g.1 A 5 0 0 _ (wMo g am s fi tx dm 0 sa ln pa le sk nu h) [(1, .int (if (s (0 + 87 + 10 * i1 + 9)) ≤ ((sp_mw s (-1) 0 i1).2) then ((sp_mw s (-1) 0 i1).1) else (nI i1))), (4, .int (s (0 + 87 + 10 * i1 + 9))), (3, .int (nI i1)), (2, .int ((sp_mw s (-1) 0 i1).2)), (0, .ref (am 0))] 51 [.int (if (s (0 + 87 + 10 * i1 + 9)) ≤ ((sp_mw s (-1) 0 i1).2) then ((sp_mw s (-1) 0 i1).2) else (s (0 + 87 + 10 * i1 + 9)))] by
      refine x_icmp_le C 50 (by decide) dX7_mostWorn_42 (fun h4 => ?_) (fun h4 => ?_)
      · refine x_iload_n C 3 rfl rfl dX7_mostWorn_50 ?_
        refine x_st (st' := [.int (if (s (0 + 87 + 10 * i1 + 9)) ≤ ((sp_mw s (-1) 0 i1).2) then ((sp_mw s (-1) 0 i1).2) else (s (0 + 87 + 10 * i1 + 9)))]) (by simp only [if_pos h4]) ?_
        exact K5
      · refine x_iload C 1 rfl dX7_mostWorn_45 ?_
        refine x_goto C 51 (by decide) dX7_mostWorn_47 ?_
        refine x_st (st' := [.int (if (s (0 + 87 + 10 * i1 + 9)) ≤ ((sp_mw s (-1) 0 i1).2) then ((sp_mw s (-1) 0 i1).2) else (s (0 + 87 + 10 * i1 + 9)))]) (by simp only [if_neg h4]) ?_
        exact K5
    refine x_istore_n C [(2, .int (if (s (0 + 87 + 10 * i1 + 9)) ≤ ((sp_mw s (-1) 0 i1).2) then ((sp_mw s (-1) 0 i1).2) else (s (0 + 87 + 10 * i1 + 9)))), (1, .int (if (s (0 + 87 + 10 * i1 + 9)) ≤ ((sp_mw s (-1) 0 i1).2) then ((sp_mw s (-1) 0 i1).1) else (nI i1))), (4, .int (s (0 + 87 + 10 * i1 + 9))), (3, .int (nI i1)), (0, .ref (am 0))] rfl rfl (by decide) dX7_mostWorn_51 ?_
    refine x_iinc C 3 (nI (i1 + 1)) [(3, .int (nI (i1 + 1))), (2, .int (if (s (0 + 87 + 10 * i1 + 9)) ≤ ((sp_mw s (-1) 0 i1).2) then ((sp_mw s (-1) 0 i1).2) else (s (0 + 87 + 10 * i1 + 9)))), (1, .int (if (s (0 + 87 + 10 * i1 + 9)) ≤ ((sp_mw s (-1) 0 i1).2) then ((sp_mw s (-1) 0 i1).1) else (nI i1))), (4, .int (s (0 + 87 + 10 * i1 + 9))), (0, .ref (am 0))] rfl (nI_add _ _) rfl (by decide) dX7_mostWorn_52 ?_
    refine x_goto C 11 (by decide) dX7_mostWorn_55 ?_
    refine x_lv [(3, .int (nI (i1 + 1))), (2, .int (if (s (0 + 87 + 10 * i1 + 9)) ≤ ((sp_mw s (-1) 0 i1).2) then ((sp_mw s (-1) 0 i1).2) else (s (0 + 87 + 10 * i1 + 9)))), (1, .int (if (s (0 + 87 + 10 * i1 + 9)) ≤ ((sp_mw s (-1) 0 i1).2) then ((sp_mw s (-1) 0 i1).1) else (nI i1))), (0, .ref (am 0))] [0, 1, 2, 4] rfl ?_
    have es1 : (sp_mw s (-1) 0 (i1 + 1)) = ((if (s (0 + 87 + 10 * i1 + 9)) ≤ ((sp_mw s (-1) 0 i1).2) then ((sp_mw s (-1) 0 i1).1) else (nI i1)), (if (s (0 + 87 + 10 * i1 + 9)) ≤ ((sp_mw s (-1) 0 i1).2) then ((sp_mw s (-1) 0 i1).2) else (s (0 + 87 + 10 * i1 + 9)))) := rfl
    refine x_lve (lv' := [(3, .int (nI (i1 + 1))), (2, .int ((sp_mw s (-1) 0 (i1 + 1)).2)), (1, .int ((sp_mw s (-1) 0 (i1 + 1)).1)), (0, .ref (am 0))]) (by rw [es1]) ?_
    exact ih1 (i1 + 1) (by omega)
def sp_X7_send (s : Nat → Int32) (dm : Nat → Int32) (sa : Int32) (a : Int32) : Int32 := (if (sp_X7_in a 1 50) = 0 then 0 else (sp_fs 1 (sp_X7_save_s s sa) dm 0 ((Int32.toNatClampNeg a) + 0)).2.2)
def sp_X7_send_s (s : Nat → Int32) (dm : Nat → Int32) (sa : Int32) (a : Int32) : Nat → Int32 := (if (sp_X7_in a 1 50) = 0 then s else (sp_fs 1 (sp_X7_save_s s sa) dm 0 ((Int32.toNatClampNeg a) + 0)).1)
def sp_X7_send_dm (s : Nat → Int32) (dm : Nat → Int32) (sa : Int32) (a : Int32) : Nat → Int32 := (if (sp_X7_in a 1 50) = 0 then dm else (sp_fs 1 (sp_X7_save_s s sa) dm 0 ((Int32.toNatClampNeg a) + 0)).2.1)
def sp_X7_send_th (a : Int32) : Int32 := (if (sp_X7_in a 1 50) = 0 then 1 else 0)
def sp_X7_send_sa (sa : Int32) (a : Int32) : Int32 := (if (sp_X7_in a 1 50) = 0 then sa else (sp_X7_save_sa sa))
set_option maxRecDepth 100000 in
theorem k_X7_send (l : Launch) (g : xGt) (am : Nat → Nat) (s fi tx dm : Nat → Int32) (th sa ln pa le sk nu : Int32) (h : Int64) (a : Int32) (hs : sa = nI (Int32.toNatClampNeg sa)) (hs6 : Int32.toNatClampNeg sa ≤ 6) (hm : rOk s 0) : xM l g.1 (xT g) yX7_send (ws_ yX7_send cX7_send 2 (some .int)) (xRm 7 168 0 0) 0 0 [.ref (am 0), .int a] (wMo g am s fi tx dm th sa ln pa le sk nu h) (fun r9 w9 => r9 = some (.int (sp_X7_send s dm sa a)) ∧ w9 = (wMo g am (sp_X7_send_s s dm sa a) fi tx (sp_X7_send_dm s dm sa a) (sp_X7_send_th a) (sp_X7_send_sa sa a) ln pa le sk nu h)) (fun _ _ => False) := by
  refine x_start (own := RX7) (nm := "send") rfl rfl (by decide +kernel) rfl (nle rfl) (fun p e σ m args below meth c A C hno hr => ?_)
  refine x_lve (lv' := [(0, .ref (am 0)), (1, .int a)]) rfl ?_
  refine x_aload_n C 0 rfl rfl dX7_send_0 ?_
  refine x_iload_n C 1 rfl rfl dX7_send_1 ?_
  refine x_iconst C 1 (by decide) dX7_send_2 ?_
  refine x_bipush C 50 (by decide) dX7_send_3 ?_
  refine x_FS (w1 := ([] : va_W)) (wc := ([] : va_W)) (w2 := (wMo g am s fi tx dm th sa ln pa le sk nu h)) [.int a, .int 1, .int 50] [.ref (am 0)] (wMo g am s fi tx dm th sa ln pa le sk nu h) C (k_X7_in l g a 1 50) rfl yS_X7_in wML_X7_35 rfl rfl rfl (nle rfl) (nle rfl) (nle rfl) (nle rfl) (nle rfl) dX7_send_5 ?_
  refine x_if_eq C 15 (by decide) dX7_send_8 (fun h1 => ?_) (fun h1 => ?_)
  · refine x_iconst C 1 (by decide) dX7_send_15 ?_
    refine x_FV (w1 := ([] : va_W)) (wc := (wMo g am s fi tx dm th sa ln pa le sk nu h)) (w2 := ([] : va_W)) [.int 1] [] (wMo g am s fi tx dm 1 sa ln pa le sk nu h) C (k_X7_holds l g am s fi tx dm th sa ln pa le sk nu h 1) rfl yV_X7_holds wML_X7_99 rfl 0 rfl rfl rfl rfl (nle rfl) (nle rfl) (nle rfl) (nle rfl) (nle rfl) dX7_send_16 ?_
    refine x_st (st' := [.int 0]) (by rw [show (sp_X7_holds 1) = 0 from by decide]) ?_
    refine x_if_ne C 24 (by decide) dX7_send_19 (fun hz => absurd (by decide) hz) (fun _ => ?_)
    refine x_iconst C 0 (by decide) dX7_send_22 ?_
    exact x_iret C hr (nle rfl) (nle rfl) dX7_send_23 ⟨(by first | (simp only [sp_X7_send, if_pos h1]; done) | (simp only [sp_X7_send, if_pos h1]; rfl)), (by first | (simp only [sp_X7_send_s, sp_X7_send_dm, sp_X7_send_th, sp_X7_send_sa, if_pos h1]; done) | (simp only [sp_X7_send_s, sp_X7_send_dm, sp_X7_send_th, sp_X7_send_sa, if_pos h1]; rfl))⟩
  · refine x_iconst C 0 (by decide) dX7_send_11 ?_
    refine x_goto C 16 (by decide) dX7_send_12 ?_
    refine x_FV (w1 := ([] : va_W)) (wc := (wMo g am s fi tx dm th sa ln pa le sk nu h)) (w2 := ([] : va_W)) [.int 0] [] (wMo g am s fi tx dm 0 sa ln pa le sk nu h) C (k_X7_holds l g am s fi tx dm th sa ln pa le sk nu h 0) rfl yV_X7_holds wML_X7_99 rfl 0 rfl rfl rfl rfl (nle rfl) (nle rfl) (nle rfl) (nle rfl) (nle rfl) dX7_send_16 ?_
    refine x_st (st' := [.int 1]) (by rw [show (sp_X7_holds 0) = 1 from by decide]) ?_
    refine x_if_ne C 24 (by decide) dX7_send_19 (fun _ => ?_) (fun hz => absurd hz (by decide))
    refine x_aload_n C 0 rfl rfl dX7_send_24 ?_
    refine x_GV (w1 := ([] : va_W)) (wc := (wMo g am s fi tx dm 0 sa ln pa le sk nu h)) (w2 := ([] : va_W)) [] [] (wMo g am (sp_X7_save_s s sa) fi tx dm 0 (sp_X7_save_sa sa) ln pa le sk nu h) C (k_X7_save l g am s fi tx dm 0 sa ln pa le sk nu h hs hs6) rfl yV_X7_save wML_X7_92 rfl 0 rfl rfl rfl rfl (nle rfl) (nle rfl) (nle rfl) (nle rfl) (nle rfl) dX7_send_25 ?_
    refine x_aload_n C 0 rfl rfl dX7_send_28 ?_
    have h1l := in_le h1 (by decide) (show (50 : Int32) = nI 50 from rfl) (by decide)
    refine x_iload_n C 1 rfl rfl dX7_send_29 ?_
    refine x_iconst C 1 (by decide) dX7_send_30 ?_
    refine x_FV (w1 := ([] : va_W)) (wc := (wMo g am (sp_X7_save_s s sa) fi tx dm 0 (sp_X7_save_sa sa) ln pa le sk nu h)) (w2 := ([] : va_W)) [.int a, .int 1] [] (wMo g am ((sp_fs 1 (sp_X7_save_s s sa) dm 0 ((Int32.toNatClampNeg a) + 0)).1) fi tx ((sp_fs 1 (sp_X7_save_s s sa) dm 0 ((Int32.toNatClampNeg a) + 0)).2.1) 0 (sp_X7_save_sa sa) ln pa le sk nu h) C (k_X7_framesSent l g am (sp_X7_save_s s sa) fi tx dm 0 (sp_X7_save_sa sa) ln pa le sk nu h a (Int32.toNatClampNeg a) (in_nat h1 (by decide)) 1 (Or.inr rfl) (by omega) (save_ok hm)) rfl yV_X7_framesSent wML_X7_120 rfl 0 rfl rfl rfl rfl (nle rfl) (nle rfl) (nle rfl) (nle rfl) (nle rfl) dX7_send_31 ?_
    exact x_iret C hr (nle rfl) (nle rfl) dX7_send_34 ⟨(by first | (simp only [sp_X7_send, if_neg h1]; done) | (simp only [sp_X7_send, if_neg h1]; rfl)), (by first | (simp only [sp_X7_send_s, sp_X7_send_dm, sp_X7_send_th, sp_X7_send_sa, if_neg h1]; done) | (simp only [sp_X7_send_s, sp_X7_send_dm, sp_X7_send_th, sp_X7_send_sa, if_neg h1]; rfl))⟩
def sp_X7_lose (s : Nat → Int32) (dm : Nat → Int32) (sa : Int32) (a : Int32) : Int32 := (if (sp_X7_in a 1 50) = 0 then 0 else (sp_fs 0 (sp_X7_save_s s sa) dm 0 ((Int32.toNatClampNeg a) + 0)).2.2)
def sp_X7_lose_s (s : Nat → Int32) (dm : Nat → Int32) (sa : Int32) (a : Int32) : Nat → Int32 := (if (sp_X7_in a 1 50) = 0 then s else (sp_fs 0 (sp_X7_save_s s sa) dm 0 ((Int32.toNatClampNeg a) + 0)).1)
def sp_X7_lose_dm (s : Nat → Int32) (dm : Nat → Int32) (sa : Int32) (a : Int32) : Nat → Int32 := (if (sp_X7_in a 1 50) = 0 then dm else (sp_fs 0 (sp_X7_save_s s sa) dm 0 ((Int32.toNatClampNeg a) + 0)).2.1)
def sp_X7_lose_th (a : Int32) : Int32 := (if (sp_X7_in a 1 50) = 0 then 1 else 0)
def sp_X7_lose_sa (sa : Int32) (a : Int32) : Int32 := (if (sp_X7_in a 1 50) = 0 then sa else (sp_X7_save_sa sa))
set_option maxRecDepth 100000 in
theorem k_X7_lose (l : Launch) (g : xGt) (am : Nat → Nat) (s fi tx dm : Nat → Int32) (th sa ln pa le sk nu : Int32) (h : Int64) (a : Int32) (hs : sa = nI (Int32.toNatClampNeg sa)) (hs6 : Int32.toNatClampNeg sa ≤ 6) (hm : rOk s 0) : xM l g.1 (xT g) yX7_lose (ws_ yX7_lose cX7_lose 2 (some .int)) (xRm 7 168 0 0) 0 0 [.ref (am 0), .int a] (wMo g am s fi tx dm th sa ln pa le sk nu h) (fun r9 w9 => r9 = some (.int (sp_X7_lose s dm sa a)) ∧ w9 = (wMo g am (sp_X7_lose_s s dm sa a) fi tx (sp_X7_lose_dm s dm sa a) (sp_X7_lose_th a) (sp_X7_lose_sa sa a) ln pa le sk nu h)) (fun _ _ => False) := by
  refine x_start (own := RX7) (nm := "lose") rfl rfl (by decide +kernel) rfl (nle rfl) (fun p e σ m args below meth c A C hno hr => ?_)
  refine x_lve (lv' := [(0, .ref (am 0)), (1, .int a)]) rfl ?_
  refine x_aload_n C 0 rfl rfl dX7_lose_0 ?_
  refine x_iload_n C 1 rfl rfl dX7_lose_1 ?_
  refine x_iconst C 1 (by decide) dX7_lose_2 ?_
  refine x_bipush C 50 (by decide) dX7_lose_3 ?_
  refine x_FS (w1 := ([] : va_W)) (wc := ([] : va_W)) (w2 := (wMo g am s fi tx dm th sa ln pa le sk nu h)) [.int a, .int 1, .int 50] [.ref (am 0)] (wMo g am s fi tx dm th sa ln pa le sk nu h) C (k_X7_in l g a 1 50) rfl yS_X7_in wML_X7_35 rfl rfl rfl (nle rfl) (nle rfl) (nle rfl) (nle rfl) (nle rfl) dX7_lose_5 ?_
  refine x_if_eq C 15 (by decide) dX7_lose_8 (fun h1 => ?_) (fun h1 => ?_)
  · refine x_iconst C 1 (by decide) dX7_lose_15 ?_
    refine x_FV (w1 := ([] : va_W)) (wc := (wMo g am s fi tx dm th sa ln pa le sk nu h)) (w2 := ([] : va_W)) [.int 1] [] (wMo g am s fi tx dm 1 sa ln pa le sk nu h) C (k_X7_holds l g am s fi tx dm th sa ln pa le sk nu h 1) rfl yV_X7_holds wML_X7_99 rfl 0 rfl rfl rfl rfl (nle rfl) (nle rfl) (nle rfl) (nle rfl) (nle rfl) dX7_lose_16 ?_
    refine x_st (st' := [.int 0]) (by rw [show (sp_X7_holds 1) = 0 from by decide]) ?_
    refine x_if_ne C 24 (by decide) dX7_lose_19 (fun hz => absurd (by decide) hz) (fun _ => ?_)
    refine x_iconst C 0 (by decide) dX7_lose_22 ?_
    exact x_iret C hr (nle rfl) (nle rfl) dX7_lose_23 ⟨(by first | (simp only [sp_X7_lose, if_pos h1]; done) | (simp only [sp_X7_lose, if_pos h1]; rfl)), (by first | (simp only [sp_X7_lose_s, sp_X7_lose_dm, sp_X7_lose_th, sp_X7_lose_sa, if_pos h1]; done) | (simp only [sp_X7_lose_s, sp_X7_lose_dm, sp_X7_lose_th, sp_X7_lose_sa, if_pos h1]; rfl))⟩
  · refine x_iconst C 0 (by decide) dX7_lose_11 ?_
    refine x_goto C 16 (by decide) dX7_lose_12 ?_
    refine x_FV (w1 := ([] : va_W)) (wc := (wMo g am s fi tx dm th sa ln pa le sk nu h)) (w2 := ([] : va_W)) [.int 0] [] (wMo g am s fi tx dm 0 sa ln pa le sk nu h) C (k_X7_holds l g am s fi tx dm th sa ln pa le sk nu h 0) rfl yV_X7_holds wML_X7_99 rfl 0 rfl rfl rfl rfl (nle rfl) (nle rfl) (nle rfl) (nle rfl) (nle rfl) dX7_lose_16 ?_
    refine x_st (st' := [.int 1]) (by rw [show (sp_X7_holds 0) = 1 from by decide]) ?_
    refine x_if_ne C 24 (by decide) dX7_lose_19 (fun _ => ?_) (fun hz => absurd hz (by decide))
    refine x_aload_n C 0 rfl rfl dX7_lose_24 ?_
    refine x_GV (w1 := ([] : va_W)) (wc := (wMo g am s fi tx dm 0 sa ln pa le sk nu h)) (w2 := ([] : va_W)) [] [] (wMo g am (sp_X7_save_s s sa) fi tx dm 0 (sp_X7_save_sa sa) ln pa le sk nu h) C (k_X7_save l g am s fi tx dm 0 sa ln pa le sk nu h hs hs6) rfl yV_X7_save wML_X7_92 rfl 0 rfl rfl rfl rfl (nle rfl) (nle rfl) (nle rfl) (nle rfl) (nle rfl) dX7_lose_25 ?_
    refine x_aload_n C 0 rfl rfl dX7_lose_28 ?_
    have h1l := in_le h1 (by decide) (show (50 : Int32) = nI 50 from rfl) (by decide)
    refine x_iload_n C 1 rfl rfl dX7_lose_29 ?_
    refine x_iconst C 0 (by decide) dX7_lose_30 ?_
    refine x_FV (w1 := ([] : va_W)) (wc := (wMo g am (sp_X7_save_s s sa) fi tx dm 0 (sp_X7_save_sa sa) ln pa le sk nu h)) (w2 := ([] : va_W)) [.int a, .int 0] [] (wMo g am ((sp_fs 0 (sp_X7_save_s s sa) dm 0 ((Int32.toNatClampNeg a) + 0)).1) fi tx ((sp_fs 0 (sp_X7_save_s s sa) dm 0 ((Int32.toNatClampNeg a) + 0)).2.1) 0 (sp_X7_save_sa sa) ln pa le sk nu h) C (k_X7_framesSent l g am (sp_X7_save_s s sa) fi tx dm 0 (sp_X7_save_sa sa) ln pa le sk nu h a (Int32.toNatClampNeg a) (in_nat h1 (by decide)) 0 (Or.inl rfl) (by omega) (save_ok hm)) rfl yV_X7_framesSent wML_X7_120 rfl 0 rfl rfl rfl rfl (nle rfl) (nle rfl) (nle rfl) (nle rfl) (nle rfl) dX7_lose_31 ?_
    exact x_iret C hr (nle rfl) (nle rfl) dX7_lose_34 ⟨(by first | (simp only [sp_X7_lose, if_neg h1]; done) | (simp only [sp_X7_lose, if_neg h1]; rfl)), (by first | (simp only [sp_X7_lose_s, sp_X7_lose_dm, sp_X7_lose_th, sp_X7_lose_sa, if_neg h1]; done) | (simp only [sp_X7_lose_s, sp_X7_lose_dm, sp_X7_lose_th, sp_X7_lose_sa, if_neg h1]; rfl))⟩
def sp_X7_setDelay (s : Nat → Int32) (sa : Int32) (a : Int32) : Int32 := (if (sp_X7_in a 1 50) = 0 then 0 else ((sp_X7_save_s s sa) 147))
def sp_X7_setDelay_s (s : Nat → Int32) (sa : Int32) (a : Int32) : Nat → Int32 := (if (sp_X7_in a 1 50) = 0 then s else (upd (sp_X7_save_s s sa) 147 a))
def sp_X7_setDelay_th (a : Int32) : Int32 := (if (sp_X7_in a 1 50) = 0 then 1 else 0)
def sp_X7_setDelay_sa (sa : Int32) (a : Int32) : Int32 := (if (sp_X7_in a 1 50) = 0 then sa else (sp_X7_save_sa sa))
set_option maxRecDepth 100000 in
theorem k_X7_setDelay (l : Launch) (g : xGt) (am : Nat → Nat) (s fi tx dm : Nat → Int32) (th sa ln pa le sk nu : Int32) (h : Int64) (a : Int32) (hs : sa = nI (Int32.toNatClampNeg sa)) (hs6 : Int32.toNatClampNeg sa ≤ 6) (hm : rOk s 0) : xM l g.1 (xT g) yX7_setDelay (ws_ yX7_setDelay cX7_setDelay 2 (some .int)) (xRm 3 67 0 0) 0 0 [.ref (am 0), .int a] (wMo g am s fi tx dm th sa ln pa le sk nu h) (fun r9 w9 => r9 = some (.int (sp_X7_setDelay s sa a)) ∧ w9 = (wMo g am (sp_X7_setDelay_s s sa a) fi tx dm (sp_X7_setDelay_th a) (sp_X7_setDelay_sa sa a) ln pa le sk nu h)) (fun _ _ => False) := by
  refine x_start (own := RX7) (nm := "setDelay") rfl rfl (by decide +kernel) rfl (nle rfl) (fun p e σ m args below meth c A C hno hr => ?_)
  refine x_lve (lv' := [(0, .ref (am 0)), (1, .int a)]) rfl ?_
  refine x_aload_n C 0 rfl rfl dX7_setDelay_0 ?_
  refine x_iload_n C 1 rfl rfl dX7_setDelay_1 ?_
  refine x_iconst C 1 (by decide) dX7_setDelay_2 ?_
  refine x_bipush C 50 (by decide) dX7_setDelay_3 ?_
  refine x_FS (w1 := ([] : va_W)) (wc := ([] : va_W)) (w2 := (wMo g am s fi tx dm th sa ln pa le sk nu h)) [.int a, .int 1, .int 50] [.ref (am 0)] (wMo g am s fi tx dm th sa ln pa le sk nu h) C (k_X7_in l g a 1 50) rfl yS_X7_in wML_X7_35 rfl rfl rfl (nle rfl) (nle rfl) (nle rfl) (nle rfl) (nle rfl) dX7_setDelay_5 ?_
  refine x_if_eq C 15 (by decide) dX7_setDelay_8 (fun h1 => ?_) (fun h1 => ?_)
  · refine x_iconst C 1 (by decide) dX7_setDelay_15 ?_
    refine x_FV (w1 := ([] : va_W)) (wc := (wMo g am s fi tx dm th sa ln pa le sk nu h)) (w2 := ([] : va_W)) [.int 1] [] (wMo g am s fi tx dm 1 sa ln pa le sk nu h) C (k_X7_holds l g am s fi tx dm th sa ln pa le sk nu h 1) rfl yV_X7_holds wML_X7_99 rfl 0 rfl rfl rfl rfl (nle rfl) (nle rfl) (nle rfl) (nle rfl) (nle rfl) dX7_setDelay_16 ?_
    refine x_st (st' := [.int 0]) (by rw [show (sp_X7_holds 1) = 0 from by decide]) ?_
    refine x_if_eq C 33 (by decide) dX7_setDelay_19 (fun _ => ?_) (fun hz => absurd (by decide) hz)
    refine x_iconst C 0 (by decide) dX7_setDelay_33 ?_
    exact x_iret C hr (nle rfl) (nle rfl) dX7_setDelay_34 ⟨(by first | (simp only [sp_X7_setDelay, if_pos h1]; done) | (simp only [sp_X7_setDelay, if_pos h1]; rfl)), (by first | (simp only [sp_X7_setDelay_s, sp_X7_setDelay_th, sp_X7_setDelay_sa, if_pos h1]; done) | (simp only [sp_X7_setDelay_s, sp_X7_setDelay_th, sp_X7_setDelay_sa, if_pos h1]; rfl))⟩
  · refine x_iconst C 0 (by decide) dX7_setDelay_11 ?_
    refine x_goto C 16 (by decide) dX7_setDelay_12 ?_
    refine x_FV (w1 := ([] : va_W)) (wc := (wMo g am s fi tx dm th sa ln pa le sk nu h)) (w2 := ([] : va_W)) [.int 0] [] (wMo g am s fi tx dm 0 sa ln pa le sk nu h) C (k_X7_holds l g am s fi tx dm th sa ln pa le sk nu h 0) rfl yV_X7_holds wML_X7_99 rfl 0 rfl rfl rfl rfl (nle rfl) (nle rfl) (nle rfl) (nle rfl) (nle rfl) dX7_setDelay_16 ?_
    refine x_st (st' := [.int 1]) (by rw [show (sp_X7_holds 0) = 1 from by decide]) ?_
    refine x_if_eq C 33 (by decide) dX7_setDelay_19 (fun hz => absurd hz (by decide)) (fun _ => ?_)
    refine x_aload_n C 0 rfl rfl dX7_setDelay_22 ?_
    refine x_sipush C 147 (by decide) dX7_setDelay_23 ?_
    have h1l := in_le h1 (by decide) (show (50 : Int32) = nI 50 from rfl) (by decide)
    refine x_iload_n C 1 rfl rfl dX7_setDelay_26 ?_
    refine x_FV (w1 := ([] : va_W)) (wc := (wMo g am s fi tx dm 0 sa ln pa le sk nu h)) (w2 := ([] : va_W)) [.int 147, .int a] [] (wMo g am (upd (sp_X7_save_s s sa) 147 a) fi tx dm 0 (sp_X7_save_sa sa) ln pa le sk nu h) C (k_X7_changed l g am s fi tx dm 0 sa ln pa le sk nu h 147 147 rfl a hs hs6 (by omega)) rfl yV_X7_changed wML_X7_102 rfl 0 rfl rfl rfl rfl (nle rfl) (nle rfl) (nle rfl) (nle rfl) (nle rfl) dX7_setDelay_27 ?_
    refine x_goto C 34 (by decide) dX7_setDelay_30 ?_
    exact x_iret C hr (nle rfl) (nle rfl) dX7_setDelay_34 ⟨(by first | (simp only [sp_X7_setDelay, if_neg h1]; done) | (simp only [sp_X7_setDelay, if_neg h1]; rfl)), (by first | (simp only [sp_X7_setDelay_s, sp_X7_setDelay_th, sp_X7_setDelay_sa, if_neg h1]; done) | (simp only [sp_X7_setDelay_s, sp_X7_setDelay_th, sp_X7_setDelay_sa, if_neg h1]; rfl))⟩
def sp_X7_charge_s (s : Nat → Int32) (sa : Int32) : Nat → Int32 := (upd (upd (sp_X7_save_s s sa) 148 20000) 149 (((sp_X7_save_s s sa) 149) + (20000 - ((sp_X7_save_s s sa) 148))))
set_option maxRecDepth 100000 in
theorem k_X7_charge (l : Launch) (g : xGt) (am : Nat → Nat) (s fi tx dm : Nat → Int32) (th sa ln pa le sk nu : Int32) (h : Int64) (hs : sa = nI (Int32.toNatClampNeg sa)) (hs6 : Int32.toNatClampNeg sa ≤ 6) (hm : rOk s 0) : xM l g.1 (xT g) yX7_charge (ws_ yX7_charge cX7_charge 2 (some .int)) (xRm 3 67 0 0) 0 0 [.ref (am 0)] (wMo g am s fi tx dm th sa ln pa le sk nu h) (fun r9 w9 => r9 = some (.int (20000 - ((sp_X7_save_s s sa) 148))) ∧ w9 = (wMo g am (sp_X7_charge_s s sa) fi tx dm 0 (sp_X7_save_sa sa) ln pa le sk nu h)) (fun _ _ => False) := by
  refine x_start (own := RX7) (nm := "charge") rfl rfl (by decide +kernel) rfl (nle rfl) (fun p e σ m args below meth c A C hno hr => ?_)
  refine x_lve (lv' := [(0, .ref (am 0))]) rfl ?_
  refine x_aload_n C 0 rfl rfl dX7_charge_0 ?_
  refine x_iconst C 0 (by decide) dX7_charge_1 ?_
  refine x_put C 0 7 0 tyX7 (wMo g am s fi tx dm 0 sa ln pa le sk nu h) rfl rfl rfl wLy_X7 tyX7_ok nmX7 wFL_X7_31 rfl (by decide) rfl rfl rfl rfl (nlt rfl) dX7_charge_2 ?_
  refine x_sipush C 20000 (by decide) dX7_charge_5 ?_
  refine x_aload_n C 0 rfl rfl dX7_charge_8 ?_
  refine x_sipush C 148 (by decide) dX7_charge_9 ?_
  refine x_sipush C 20000 (by decide) dX7_charge_12 ?_
  refine x_FV (w1 := ([] : va_W)) (wc := (wMo g am s fi tx dm 0 sa ln pa le sk nu h)) (w2 := ([] : va_W)) [.int 148, .int 20000] [.int 20000] (wMo g am (upd (sp_X7_save_s s sa) 148 20000) fi tx dm 0 (sp_X7_save_sa sa) ln pa le sk nu h) C (k_X7_changed l g am s fi tx dm 0 sa ln pa le sk nu h 148 148 rfl 20000 hs hs6 (by omega)) rfl yV_X7_changed wML_X7_102 rfl 0 rfl rfl rfl rfl (nle rfl) (nle rfl) (nle rfl) (nle rfl) (nle rfl) dX7_charge_15 ?_
  refine x_isub C dX7_charge_18 ?_
  refine x_istore_n C [(1, .int (20000 - ((sp_X7_save_s s sa) 148))), (0, .ref (am 0))] rfl rfl (by decide) dX7_charge_19 ?_
  refine x_aload_n C 1 rfl rfl dX7_charge_20 ?_
  refine x_get C 0 7 1 rfl rfl wLy_X7 wFL_X7_7 rfl (by decide) rfl dX7_charge_21 ?_
  refine x_sipush C 149 (by decide) dX7_charge_24 ?_
  refine x_dup2 C rfl rfl dX7_charge_27 ?_
  refine x_ialdNE (f := (upd (sp_X7_save_s s sa) 148 20000)) C 1 0 149 ((sp_X7_save_s s sa) 149) (up_ne rfl) rfl rfl rfl (by omega) (by decide) dX7_charge_28 ?_
  refine x_iload_n C 0 rfl rfl dX7_charge_29 ?_
  refine x_iadd C dX7_charge_30 ?_
  refine x_iastN (f := (upd (sp_X7_save_s s sa) 148 20000)) C 1 0 149 (wMo g am (upd (upd (sp_X7_save_s s sa) 148 20000) 149 (((sp_X7_save_s s sa) 149) + (20000 - ((sp_X7_save_s s sa) 148)))) fi tx dm 0 (sp_X7_save_sa sa) ln pa le sk nu h) rfl rfl rfl rfl (by omega) (by decide) dX7_charge_31 ?_
  refine x_iload_n C 0 rfl rfl dX7_charge_32 ?_
  exact x_iret C hr (nle rfl) (nle rfl) dX7_charge_33 ⟨rfl, (by first | (simp only [sp_X7_charge_s]; done) | (simp only [sp_X7_charge_s]; rfl))⟩
set_option maxRecDepth 100000 in
theorem k_X7_battery (l : Launch) (g : xGt) (am : Nat → Nat) (s fi tx dm : Nat → Int32) (th sa ln pa le sk nu : Int32) (h : Int64) (hs : sa = nI (Int32.toNatClampNeg sa)) (hs6 : Int32.toNatClampNeg sa ≤ 6) (hm : rOk s 0) : xM l g.1 (xT g) yX7_battery (ws_ yX7_battery cX7_battery 1 (some .int)) (xRm 0 0 0 0) 0 0 [.ref (am 0)] (wMo g am s fi tx dm th sa ln pa le sk nu h) (fun r9 w9 => r9 = some (.int (s 148)) ∧ w9 = (wMo g am s fi tx dm 0 sa ln pa le sk nu h)) (fun _ _ => False) := by
  refine x_start (own := RX7) (nm := "battery") rfl rfl (by decide +kernel) rfl (nle rfl) (fun p e σ m args below meth c A C hno hr => ?_)
  refine x_lve (lv' := [(0, .ref (am 0))]) rfl ?_
  refine x_aload_n C 0 rfl rfl dX7_battery_0 ?_
  refine x_iconst C 0 (by decide) dX7_battery_1 ?_
  refine x_put C 0 7 0 tyX7 (wMo g am s fi tx dm 0 sa ln pa le sk nu h) rfl rfl rfl wLy_X7 tyX7_ok nmX7 wFL_X7_31 rfl (by decide) rfl rfl rfl rfl (nlt rfl) dX7_battery_2 ?_
  refine x_aload_n C 0 rfl rfl dX7_battery_5 ?_
  refine x_get C 0 7 1 rfl rfl wLy_X7 wFL_X7_7 rfl (by decide) rfl dX7_battery_6 ?_
  refine x_sipush C 148 (by decide) dX7_battery_9 ?_
  refine x_ialdN (f := s) C 1 0 148 rfl rfl rfl (by omega) (by decide) dX7_battery_12 ?_
  exact x_iret C hr (nle rfl) (nle rfl) dX7_battery_13 ⟨rfl, rfl⟩
set_option maxRecDepth 100000 in
theorem k_X7_charged (l : Launch) (g : xGt) (am : Nat → Nat) (s fi tx dm : Nat → Int32) (th sa ln pa le sk nu : Int32) (h : Int64) (hs : sa = nI (Int32.toNatClampNeg sa)) (hs6 : Int32.toNatClampNeg sa ≤ 6) (hm : rOk s 0) : xM l g.1 (xT g) yX7_charged (ws_ yX7_charged cX7_charged 1 (some .int)) (xRm 0 0 0 0) 0 0 [.ref (am 0)] (wMo g am s fi tx dm th sa ln pa le sk nu h) (fun r9 w9 => r9 = some (.int (s 149)) ∧ w9 = (wMo g am s fi tx dm 0 sa ln pa le sk nu h)) (fun _ _ => False) := by
  refine x_start (own := RX7) (nm := "charged") rfl rfl (by decide +kernel) rfl (nle rfl) (fun p e σ m args below meth c A C hno hr => ?_)
  refine x_lve (lv' := [(0, .ref (am 0))]) rfl ?_
  refine x_aload_n C 0 rfl rfl dX7_charged_0 ?_
  refine x_iconst C 0 (by decide) dX7_charged_1 ?_
  refine x_put C 0 7 0 tyX7 (wMo g am s fi tx dm 0 sa ln pa le sk nu h) rfl rfl rfl wLy_X7 tyX7_ok nmX7 wFL_X7_31 rfl (by decide) rfl rfl rfl rfl (nlt rfl) dX7_charged_2 ?_
  refine x_aload_n C 0 rfl rfl dX7_charged_5 ?_
  refine x_get C 0 7 1 rfl rfl wLy_X7 wFL_X7_7 rfl (by decide) rfl dX7_charged_6 ?_
  refine x_sipush C 149 (by decide) dX7_charged_9 ?_
  refine x_ialdN (f := s) C 1 0 149 rfl rfl rfl (by omega) (by decide) dX7_charged_12 ?_
  exact x_iret C hr (nle rfl) (nle rfl) dX7_charged_13 ⟨rfl, rfl⟩
set_option maxRecDepth 100000 in
theorem k_X7_frames (l : Launch) (g : xGt) (am : Nat → Nat) (s fi tx dm : Nat → Int32) (th sa ln pa le sk nu : Int32) (h : Int64) (hs : sa = nI (Int32.toNatClampNeg sa)) (hs6 : Int32.toNatClampNeg sa ≤ 6) (hm : rOk s 0) : xM l g.1 (xT g) yX7_frames (ws_ yX7_frames cX7_frames 1 (some .int)) (xRm 0 0 0 0) 0 0 [.ref (am 0)] (wMo g am s fi tx dm th sa ln pa le sk nu h) (fun r9 w9 => r9 = some (.int (s 150)) ∧ w9 = (wMo g am s fi tx dm 0 sa ln pa le sk nu h)) (fun _ _ => False) := by
  refine x_start (own := RX7) (nm := "frames") rfl rfl (by decide +kernel) rfl (nle rfl) (fun p e σ m args below meth c A C hno hr => ?_)
  refine x_lve (lv' := [(0, .ref (am 0))]) rfl ?_
  refine x_aload_n C 0 rfl rfl dX7_frames_0 ?_
  refine x_iconst C 0 (by decide) dX7_frames_1 ?_
  refine x_put C 0 7 0 tyX7 (wMo g am s fi tx dm 0 sa ln pa le sk nu h) rfl rfl rfl wLy_X7 tyX7_ok nmX7 wFL_X7_31 rfl (by decide) rfl rfl rfl rfl (nlt rfl) dX7_frames_2 ?_
  refine x_aload_n C 0 rfl rfl dX7_frames_5 ?_
  refine x_get C 0 7 1 rfl rfl wLy_X7 wFL_X7_7 rfl (by decide) rfl dX7_frames_6 ?_
  refine x_sipush C 150 (by decide) dX7_frames_9 ?_
  refine x_ialdN (f := s) C 1 0 150 rfl rfl rfl (by omega) (by decide) dX7_frames_12 ?_
  exact x_iret C hr (nle rfl) (nle rfl) dX7_frames_13 ⟨rfl, rfl⟩
set_option maxRecDepth 100000 in
theorem k_X7_lostFrames (l : Launch) (g : xGt) (am : Nat → Nat) (s fi tx dm : Nat → Int32) (th sa ln pa le sk nu : Int32) (h : Int64) (hs : sa = nI (Int32.toNatClampNeg sa)) (hs6 : Int32.toNatClampNeg sa ≤ 6) (hm : rOk s 0) : xM l g.1 (xT g) yX7_lostFrames (ws_ yX7_lostFrames cX7_lostFrames 1 (some .int)) (xRm 0 0 0 0) 0 0 [.ref (am 0)] (wMo g am s fi tx dm th sa ln pa le sk nu h) (fun r9 w9 => r9 = some (.int (s 151)) ∧ w9 = (wMo g am s fi tx dm 0 sa ln pa le sk nu h)) (fun _ _ => False) := by
  refine x_start (own := RX7) (nm := "lostFrames") rfl rfl (by decide +kernel) rfl (nle rfl) (fun p e σ m args below meth c A C hno hr => ?_)
  refine x_lve (lv' := [(0, .ref (am 0))]) rfl ?_
  refine x_aload_n C 0 rfl rfl dX7_lostFrames_0 ?_
  refine x_iconst C 0 (by decide) dX7_lostFrames_1 ?_
  refine x_put C 0 7 0 tyX7 (wMo g am s fi tx dm 0 sa ln pa le sk nu h) rfl rfl rfl wLy_X7 tyX7_ok nmX7 wFL_X7_31 rfl (by decide) rfl rfl rfl rfl (nlt rfl) dX7_lostFrames_2 ?_
  refine x_aload_n C 0 rfl rfl dX7_lostFrames_5 ?_
  refine x_get C 0 7 1 rfl rfl wLy_X7 wFL_X7_7 rfl (by decide) rfl dX7_lostFrames_6 ?_
  refine x_sipush C 151 (by decide) dX7_lostFrames_9 ?_
  refine x_ialdN (f := s) C 1 0 151 rfl rfl rfl (by omega) (by decide) dX7_lostFrames_12 ?_
  exact x_iret C hr (nle rfl) (nle rfl) dX7_lostFrames_13 ⟨rfl, rfl⟩
set_option maxRecDepth 100000 in
theorem k_X7_deadFrames (l : Launch) (g : xGt) (am : Nat → Nat) (s fi tx dm : Nat → Int32) (th sa ln pa le sk nu : Int32) (h : Int64) (hs : sa = nI (Int32.toNatClampNeg sa)) (hs6 : Int32.toNatClampNeg sa ≤ 6) (hm : rOk s 0) : xM l g.1 (xT g) yX7_deadFrames (ws_ yX7_deadFrames cX7_deadFrames 1 (some .int)) (xRm 0 0 0 0) 0 0 [.ref (am 0)] (wMo g am s fi tx dm th sa ln pa le sk nu h) (fun r9 w9 => r9 = some (.int (s 152)) ∧ w9 = (wMo g am s fi tx dm 0 sa ln pa le sk nu h)) (fun _ _ => False) := by
  refine x_start (own := RX7) (nm := "deadFrames") rfl rfl (by decide +kernel) rfl (nle rfl) (fun p e σ m args below meth c A C hno hr => ?_)
  refine x_lve (lv' := [(0, .ref (am 0))]) rfl ?_
  refine x_aload_n C 0 rfl rfl dX7_deadFrames_0 ?_
  refine x_iconst C 0 (by decide) dX7_deadFrames_1 ?_
  refine x_put C 0 7 0 tyX7 (wMo g am s fi tx dm 0 sa ln pa le sk nu h) rfl rfl rfl wLy_X7 tyX7_ok nmX7 wFL_X7_31 rfl (by decide) rfl rfl rfl rfl (nlt rfl) dX7_deadFrames_2 ?_
  refine x_aload_n C 0 rfl rfl dX7_deadFrames_5 ?_
  refine x_get C 0 7 1 rfl rfl wLy_X7 wFL_X7_7 rfl (by decide) rfl dX7_deadFrames_6 ?_
  refine x_sipush C 152 (by decide) dX7_deadFrames_9 ?_
  refine x_ialdN (f := s) C 1 0 152 rfl rfl rfl (by omega) (by decide) dX7_deadFrames_12 ?_
  exact x_iret C hr (nle rfl) (nle rfl) dX7_deadFrames_13 ⟨rfl, rfl⟩
set_option maxRecDepth 100000 in
theorem k_X7_lostInRow (l : Launch) (g : xGt) (am : Nat → Nat) (s fi tx dm : Nat → Int32) (th sa ln pa le sk nu : Int32) (h : Int64) (hs : sa = nI (Int32.toNatClampNeg sa)) (hs6 : Int32.toNatClampNeg sa ≤ 6) (hm : rOk s 0) : xM l g.1 (xT g) yX7_lostInRow (ws_ yX7_lostInRow cX7_lostInRow 1 (some .int)) (xRm 0 0 0 0) 0 0 [.ref (am 0)] (wMo g am s fi tx dm th sa ln pa le sk nu h) (fun r9 w9 => r9 = some (.int (s 153)) ∧ w9 = (wMo g am s fi tx dm 0 sa ln pa le sk nu h)) (fun _ _ => False) := by
  refine x_start (own := RX7) (nm := "lostInRow") rfl rfl (by decide +kernel) rfl (nle rfl) (fun p e σ m args below meth c A C hno hr => ?_)
  refine x_lve (lv' := [(0, .ref (am 0))]) rfl ?_
  refine x_aload_n C 0 rfl rfl dX7_lostInRow_0 ?_
  refine x_iconst C 0 (by decide) dX7_lostInRow_1 ?_
  refine x_put C 0 7 0 tyX7 (wMo g am s fi tx dm 0 sa ln pa le sk nu h) rfl rfl rfl wLy_X7 tyX7_ok nmX7 wFL_X7_31 rfl (by decide) rfl rfl rfl rfl (nlt rfl) dX7_lostInRow_2 ?_
  refine x_aload_n C 0 rfl rfl dX7_lostInRow_5 ?_
  refine x_get C 0 7 1 rfl rfl wLy_X7 wFL_X7_7 rfl (by decide) rfl dX7_lostInRow_6 ?_
  refine x_sipush C 153 (by decide) dX7_lostInRow_9 ?_
  refine x_ialdN (f := s) C 1 0 153 rfl rfl rfl (by omega) (by decide) dX7_lostInRow_12 ?_
  exact x_iret C hr (nle rfl) (nle rfl) dX7_lostInRow_13 ⟨rfl, rfl⟩
def sp_X7_isFailsafe (s : Nat → Int32) : Int32 := (if (s 155) = 1 then (1 : Int32) else 0)
theorem spb_X7_isFailsafe (s : Nat → Int32)  : (sp_X7_isFailsafe s) = 0 ∨ (sp_X7_isFailsafe s) = 1 := by
  unfold sp_X7_isFailsafe
  exact (bool_ite (Or.inr rfl) (Or.inl rfl))
set_option maxRecDepth 100000 in
theorem k_X7_isFailsafe (l : Launch) (g : xGt) (am : Nat → Nat) (s fi tx dm : Nat → Int32) (th sa ln pa le sk nu : Int32) (h : Int64) (hs : sa = nI (Int32.toNatClampNeg sa)) (hs6 : Int32.toNatClampNeg sa ≤ 6) (hm : rOk s 0) : xM l g.1 (xT g) yX7_isFailsafe (ws_ yX7_isFailsafe cX7_isFailsafe 1 (some .boolean)) (xRm 0 0 0 0) 0 0 [.ref (am 0)] (wMo g am s fi tx dm th sa ln pa le sk nu h) (fun r9 w9 => r9 = some (.int (sp_X7_isFailsafe s)) ∧ w9 = (wMo g am s fi tx dm 0 sa ln pa le sk nu h)) (fun _ _ => False) := by
  refine x_start (own := RX7) (nm := "isFailsafe") rfl rfl (by decide +kernel) rfl (nle rfl) (fun p e σ m args below meth c A C hno hr => ?_)
  refine x_lve (lv' := [(0, .ref (am 0))]) rfl ?_
  refine x_aload_n C 0 rfl rfl dX7_isFailsafe_0 ?_
  refine x_iconst C 0 (by decide) dX7_isFailsafe_1 ?_
  refine x_put C 0 7 0 tyX7 (wMo g am s fi tx dm 0 sa ln pa le sk nu h) rfl rfl rfl wLy_X7 tyX7_ok nmX7 wFL_X7_31 rfl (by decide) rfl rfl rfl rfl (nlt rfl) dX7_isFailsafe_2 ?_
  refine x_aload_n C 0 rfl rfl dX7_isFailsafe_5 ?_
  refine x_get C 0 7 1 rfl rfl wLy_X7 wFL_X7_7 rfl (by decide) rfl dX7_isFailsafe_6 ?_
  refine x_sipush C 155 (by decide) dX7_isFailsafe_9 ?_
  refine x_ialdN (f := s) C 1 0 155 rfl rfl rfl (by omega) (by decide) dX7_isFailsafe_12 ?_
  refine x_iconst C 1 (by decide) dX7_isFailsafe_13 ?_
  suffices K2 : xW p l e _ σ m args below meth c g.1 A 1 0 0 _ (wMo g am s fi tx dm 0 sa ln pa le sk nu h) [(0, .ref (am 0))] 22 [.int (if (s 155) = 1 then (1 : Int32) else 0)] by
    refine x_icmp_ne C 21 (by decide) dX7_isFailsafe_14 (fun h1 => ?_) (fun h1 => ?_)
    · refine x_iconst C 0 (by decide) dX7_isFailsafe_21 ?_
      refine x_st (st' := [.int (if (s 155) = 1 then (1 : Int32) else 0)]) (by simp only [if_neg h1]) ?_
      exact K2
    · refine x_iconst C 1 (by decide) dX7_isFailsafe_17 ?_
      refine x_goto C 22 (by decide) dX7_isFailsafe_18 ?_
      refine x_st (st' := [.int (if (s 155) = 1 then (1 : Int32) else 0)]) (by simp only [if_pos h1]) ?_
      exact K2
  exact x_zret C hr (xnz (bool_ite (Or.inr rfl) (Or.inl rfl))) (nle rfl) (nle rfl) dX7_isFailsafe_22 ⟨(by first | (simp only [sp_X7_isFailsafe]; done) | (simp only [sp_X7_isFailsafe]; rfl)), rfl⟩
set_option maxRecDepth 100000 in
theorem k_X7_failsafes (l : Launch) (g : xGt) (am : Nat → Nat) (s fi tx dm : Nat → Int32) (th sa ln pa le sk nu : Int32) (h : Int64) (hs : sa = nI (Int32.toNatClampNeg sa)) (hs6 : Int32.toNatClampNeg sa ≤ 6) (hm : rOk s 0) : xM l g.1 (xT g) yX7_failsafes (ws_ yX7_failsafes cX7_failsafes 1 (some .int)) (xRm 0 0 0 0) 0 0 [.ref (am 0)] (wMo g am s fi tx dm th sa ln pa le sk nu h) (fun r9 w9 => r9 = some (.int (s 154)) ∧ w9 = (wMo g am s fi tx dm 0 sa ln pa le sk nu h)) (fun _ _ => False) := by
  refine x_start (own := RX7) (nm := "failsafes") rfl rfl (by decide +kernel) rfl (nle rfl) (fun p e σ m args below meth c A C hno hr => ?_)
  refine x_lve (lv' := [(0, .ref (am 0))]) rfl ?_
  refine x_aload_n C 0 rfl rfl dX7_failsafes_0 ?_
  refine x_iconst C 0 (by decide) dX7_failsafes_1 ?_
  refine x_put C 0 7 0 tyX7 (wMo g am s fi tx dm 0 sa ln pa le sk nu h) rfl rfl rfl wLy_X7 tyX7_ok nmX7 wFL_X7_31 rfl (by decide) rfl rfl rfl rfl (nlt rfl) dX7_failsafes_2 ?_
  refine x_aload_n C 0 rfl rfl dX7_failsafes_5 ?_
  refine x_get C 0 7 1 rfl rfl wLy_X7 wFL_X7_7 rfl (by decide) rfl dX7_failsafes_6 ?_
  refine x_sipush C 154 (by decide) dX7_failsafes_9 ?_
  refine x_ialdN (f := s) C 1 0 154 rfl rfl rfl (by omega) (by decide) dX7_failsafes_12 ?_
  exact x_iret C hr (nle rfl) (nle rfl) dX7_failsafes_13 ⟨rfl, rfl⟩
def sp_X7_reason (s : Nat → Int32) (dm : Nat → Int32) (a : Int32) : Int32 := (if (sp_X7_in a 0 5) = 0 then 0 else (if (s (0 + 87 + 10 * (Int32.toNatClampNeg a) + 8)) = (sp_X7_within (sp_X7_raw s (sp_dems s 0 dm 6) 0 (Int32.toNatClampNeg a)) (s (0 + 87 + 10 * (Int32.toNatClampNeg a) + 2)) (s (0 + 87 + 10 * (Int32.toNatClampNeg a) + 3))) then 0 else (if (s 148) = 0 then (1 : Int32) else (if (s 155) = 1 then (2 : Int32) else (if (s 153) ≤ 0 then (4 : Int32) else 3)))))
def sp_X7_reason_dm (s : Nat → Int32) (dm : Nat → Int32) (a : Int32) : Nat → Int32 := (if (sp_X7_in a 0 5) = 0 then dm else (sp_dems s 0 dm 6))
def sp_X7_reason_th (a : Int32) : Int32 := (if (sp_X7_in a 0 5) = 0 then 1 else 0)
set_option maxRecDepth 100000 in
theorem k_X7_reason (l : Launch) (g : xGt) (am : Nat → Nat) (s fi tx dm : Nat → Int32) (th sa ln pa le sk nu : Int32) (h : Int64) (a : Int32) (hs : sa = nI (Int32.toNatClampNeg sa)) (hs6 : Int32.toNatClampNeg sa ≤ 6) (hm : rOk s 0) : xM l g.1 (xT g) yX7_reason (ws_ yX7_reason cX7_reason 2 (some .int)) (xRm 5 116 0 0) 0 0 [.ref (am 0), .int a] (wMo g am s fi tx dm th sa ln pa le sk nu h) (fun r9 w9 => r9 = some (.int (sp_X7_reason s dm a)) ∧ w9 = (wMo g am s fi tx (sp_X7_reason_dm s dm a) (sp_X7_reason_th a) sa ln pa le sk nu h)) (fun _ _ => False) := by
  refine x_start (own := RX7) (nm := "reason") rfl rfl (by decide +kernel) rfl (nle rfl) (fun p e σ m args below meth c A C hno hr => ?_)
  refine x_lve (lv' := [(0, .ref (am 0)), (1, .int a)]) rfl ?_
  refine x_aload_n C 0 rfl rfl dX7_reason_0 ?_
  refine x_iload_n C 1 rfl rfl dX7_reason_1 ?_
  refine x_FS (w1 := ([] : va_W)) (wc := ([] : va_W)) (w2 := (wMo g am s fi tx dm th sa ln pa le sk nu h)) [.int a] [.ref (am 0)] (wMo g am s fi tx dm th sa ln pa le sk nu h) C (k_X7_isServo l g a) rfl yS_X7_isServo wML_X7_105 rfl rfl rfl (nle rfl) (nle rfl) (nle rfl) (nle rfl) (nle rfl) dX7_reason_2 ?_
  refine x_if_eq C 12 (by decide) dX7_reason_5 (fun h1 => ?_) (fun h1 => ?_)
  · refine x_iconst C 1 (by decide) dX7_reason_12 ?_
    refine x_FV (w1 := ([] : va_W)) (wc := (wMo g am s fi tx dm th sa ln pa le sk nu h)) (w2 := ([] : va_W)) [.int 1] [] (wMo g am s fi tx dm 1 sa ln pa le sk nu h) C (k_X7_holds l g am s fi tx dm th sa ln pa le sk nu h 1) rfl yV_X7_holds wML_X7_99 rfl 0 rfl rfl rfl rfl (nle rfl) (nle rfl) (nle rfl) (nle rfl) (nle rfl) dX7_reason_13 ?_
    refine x_st (st' := [.int 0]) (by rw [show (sp_X7_holds 1) = 0 from by decide]) ?_
    refine x_if_ne C 21 (by decide) dX7_reason_16 (fun hz => absurd (by decide) hz) (fun _ => ?_)
    refine x_iconst C 0 (by decide) dX7_reason_19 ?_
    exact x_iret C hr (nle rfl) (nle rfl) dX7_reason_20 ⟨(by first | (simp only [sp_X7_reason, if_pos h1]; done) | (simp only [sp_X7_reason, if_pos h1]; rfl)), (by first | (simp only [sp_X7_reason_dm, sp_X7_reason_th, if_pos h1]; done) | (simp only [sp_X7_reason_dm, sp_X7_reason_th, if_pos h1]; rfl))⟩
  · refine x_iconst C 0 (by decide) dX7_reason_8 ?_
    refine x_goto C 13 (by decide) dX7_reason_9 ?_
    refine x_FV (w1 := ([] : va_W)) (wc := (wMo g am s fi tx dm th sa ln pa le sk nu h)) (w2 := ([] : va_W)) [.int 0] [] (wMo g am s fi tx dm 0 sa ln pa le sk nu h) C (k_X7_holds l g am s fi tx dm th sa ln pa le sk nu h 0) rfl yV_X7_holds wML_X7_99 rfl 0 rfl rfl rfl rfl (nle rfl) (nle rfl) (nle rfl) (nle rfl) (nle rfl) dX7_reason_13 ?_
    refine x_st (st' := [.int 1]) (by rw [show (sp_X7_holds 0) = 1 from by decide]) ?_
    refine x_if_ne C 21 (by decide) dX7_reason_16 (fun _ => ?_) (fun hz => absurd hz (by decide))
    refine x_aload_n C 0 rfl rfl dX7_reason_21 ?_
    refine x_iconst C 0 (by decide) dX7_reason_22 ?_
    have h1l := in_le h1 (by decide) (show (5 : Int32) = nI 5 from rfl) (by decide)
    refine x_iload_n C 1 rfl rfl dX7_reason_23 ?_
    refine x_bipush C 8 (by decide) dX7_reason_24 ?_
    refine x_FV (w1 := ([] : va_W)) (wc := (wMo g am s fi tx dm 0 sa ln pa le sk nu h)) (w2 := ([] : va_W)) [.int 0, .int a, .int 8] [] (wMo g am s fi tx dm 0 sa ln pa le sk nu h) C (k_X7_of l g am s fi tx dm 0 sa ln pa le sk nu h 0 0 rfl a (Int32.toNatClampNeg a) (in_nat h1 (by decide)) 8 8 rfl (by omega)) rfl yV_X7_of wML_X7_57 rfl 0 rfl rfl rfl rfl (nle rfl) (nle rfl) (nle rfl) (nle rfl) (nle rfl) dX7_reason_26 ?_
    refine x_aload_n C 0 rfl rfl dX7_reason_29 ?_
    refine x_iconst C 0 (by decide) dX7_reason_30 ?_
    have h1l := in_le h1 (by decide) (show (5 : Int32) = nI 5 from rfl) (by decide)
    refine x_iload_n C 1 rfl rfl dX7_reason_31 ?_
    refine x_FV (w1 := ([] : va_W)) (wc := (wMo g am s fi tx dm 0 sa ln pa le sk nu h)) (w2 := ([] : va_W)) [.int 0, .int a] [.int (s (0 + 87 + 10 * (Int32.toNatClampNeg a) + 8))] (wMo g am s fi tx (sp_dems s 0 dm 6) 0 sa ln pa le sk nu h) C (k_X7_aimOf l g am s fi tx dm 0 sa ln pa le sk nu h 0 0 rfl a (Int32.toNatClampNeg a) (in_nat h1 (by decide)) (by omega) hm (by omega)) rfl yV_X7_aimOf wML_X7_117 rfl 0 rfl rfl rfl rfl (nle rfl) (nle rfl) (nle rfl) (nle rfl) (nle rfl) dX7_reason_32 ?_
    refine x_icmp_ne C 40 (by decide) dX7_reason_35 (fun h2 => ?_) (fun h2 => ?_)
    · refine x_aload_n C 0 rfl rfl dX7_reason_40 ?_
      refine x_get C 0 7 1 rfl rfl wLy_X7 wFL_X7_7 rfl (by decide) rfl dX7_reason_41 ?_
      refine x_sipush C 148 (by decide) dX7_reason_44 ?_
      refine x_ialdN (f := s) C 1 0 148 rfl rfl rfl (by omega) (by decide) dX7_reason_47 ?_
      suffices K4 : xW p l e _ σ m args below meth c g.1 A 2 0 0 _ (wMo g am s fi tx (sp_dems s 0 dm 6) 0 sa ln pa le sk nu h) [(0, .ref (am 0)), (1, .int a)] 87 [.int (if (s 148) = 0 then (1 : Int32) else (if (s 155) = 1 then (2 : Int32) else (if (s 153) ≤ 0 then (4 : Int32) else 3)))] by
        refine x_if_ne C 55 (by decide) dX7_reason_48 (fun h3 => ?_) (fun h3 => ?_)
        · refine x_aload_n C 0 rfl rfl dX7_reason_55 ?_
          refine x_get C 0 7 1 rfl rfl wLy_X7 wFL_X7_7 rfl (by decide) rfl dX7_reason_56 ?_
          refine x_sipush C 155 (by decide) dX7_reason_59 ?_
          refine x_ialdN (f := s) C 1 0 155 rfl rfl rfl (by omega) (by decide) dX7_reason_62 ?_
          refine x_iconst C 1 (by decide) dX7_reason_63 ?_
          refine x_icmp_ne C 71 (by decide) dX7_reason_64 (fun h4 => ?_) (fun h4 => ?_)
          · refine x_aload_n C 0 rfl rfl dX7_reason_71 ?_
            refine x_get C 0 7 1 rfl rfl wLy_X7 wFL_X7_7 rfl (by decide) rfl dX7_reason_72 ?_
            refine x_sipush C 153 (by decide) dX7_reason_75 ?_
            refine x_ialdN (f := s) C 1 0 153 rfl rfl rfl (by omega) (by decide) dX7_reason_78 ?_
            refine x_if_le C 86 (by decide) dX7_reason_79 (fun h5 => ?_) (fun h5 => ?_)
            · refine x_iconst C 4 (by decide) dX7_reason_86 ?_
              refine x_st (st' := [.int (if (s 148) = 0 then (1 : Int32) else (if (s 155) = 1 then (2 : Int32) else (if (s 153) ≤ 0 then (4 : Int32) else 3)))]) (by simp only [if_neg h3, if_neg h4, if_pos h5]) ?_
              exact K4
            · refine x_iconst C 3 (by decide) dX7_reason_82 ?_
              refine x_goto C 87 (by decide) dX7_reason_83 ?_
              refine x_st (st' := [.int (if (s 148) = 0 then (1 : Int32) else (if (s 155) = 1 then (2 : Int32) else (if (s 153) ≤ 0 then (4 : Int32) else 3)))]) (by simp only [if_neg h3, if_neg h4, if_neg h5]) ?_
              exact K4
          · refine x_iconst C 2 (by decide) dX7_reason_67 ?_
            refine x_goto C 87 (by decide) dX7_reason_68 ?_
            refine x_st (st' := [.int (if (s 148) = 0 then (1 : Int32) else (if (s 155) = 1 then (2 : Int32) else (if (s 153) ≤ 0 then (4 : Int32) else 3)))]) (by simp only [if_neg h3, if_pos h4]) ?_
            exact K4
        · refine x_iconst C 1 (by decide) dX7_reason_51 ?_
          refine x_goto C 87 (by decide) dX7_reason_52 ?_
          refine x_st (st' := [.int (if (s 148) = 0 then (1 : Int32) else (if (s 155) = 1 then (2 : Int32) else (if (s 153) ≤ 0 then (4 : Int32) else 3)))]) (by simp only [if_pos h3]) ?_
          exact K4
      exact x_iret C hr (nle rfl) (nle rfl) dX7_reason_87 ⟨(by first | (simp only [sp_X7_reason, if_neg h1, if_neg h2]; done) | (simp only [sp_X7_reason, if_neg h1, if_neg h2]; rfl)), (by first | (simp only [sp_X7_reason_dm, sp_X7_reason_th, if_neg h1, if_neg h2]; done) | (simp only [sp_X7_reason_dm, sp_X7_reason_th, if_neg h1, if_neg h2]; rfl))⟩
    · refine x_iconst C 0 (by decide) dX7_reason_38 ?_
      exact x_iret C hr (nle rfl) (nle rfl) dX7_reason_39 ⟨(by first | (simp only [sp_X7_reason, if_neg h1, if_pos h2]; done) | (simp only [sp_X7_reason, if_neg h1, if_pos h2]; rfl)), (by first | (simp only [sp_X7_reason_dm, sp_X7_reason_th, if_neg h1, if_pos h2]; done) | (simp only [sp_X7_reason_dm, sp_X7_reason_th, if_neg h1, if_pos h2]; rfl))⟩
def sp_X7_framesToAim (s : Nat → Int32) (dm : Nat → Int32) (a : Int32) : Int32 := (if (sp_X7_in a 0 5) = 0 then 0 else ((((sp_X7_size ((sp_X7_within (sp_X7_raw s (sp_dems s 0 dm 6) 0 (Int32.toNatClampNeg a)) (s (0 + 87 + 10 * (Int32.toNatClampNeg a) + 2)) (s (0 + 87 + 10 * (Int32.toNatClampNeg a) + 3))) - (s (0 + 87 + 10 * (Int32.toNatClampNeg a) + 8)))) + (s (0 + 87 + 10 * (Int32.toNatClampNeg a) + 4))) - 1) / (s (0 + 87 + 10 * (Int32.toNatClampNeg a) + 4))))
def sp_X7_framesToAim_dm (s : Nat → Int32) (dm : Nat → Int32) (a : Int32) : Nat → Int32 := (if (sp_X7_in a 0 5) = 0 then dm else (sp_dems s 0 dm 6))
def sp_X7_framesToAim_th (a : Int32) : Int32 := (if (sp_X7_in a 0 5) = 0 then 1 else 0)
set_option maxRecDepth 100000 in
theorem k_X7_framesToAim (l : Launch) (g : xGt) (am : Nat → Nat) (s fi tx dm : Nat → Int32) (th sa ln pa le sk nu : Int32) (h : Int64) (a : Int32) (hs : sa = nI (Int32.toNatClampNeg sa)) (hs6 : Int32.toNatClampNeg sa ≤ 6) (hm : rOk s 0) (hsp : ∀ k, k < 6 → ¬ s (0 + 87 + 10 * k + 4) = 0) : xM l g.1 (xT g) yX7_framesToAim (ws_ yX7_framesToAim cX7_framesToAim 3 (some .int)) (xRm 5 116 0 0) 0 0 [.ref (am 0), .int a] (wMo g am s fi tx dm th sa ln pa le sk nu h) (fun r9 w9 => r9 = some (.int (sp_X7_framesToAim s dm a)) ∧ w9 = (wMo g am s fi tx (sp_X7_framesToAim_dm s dm a) (sp_X7_framesToAim_th a) sa ln pa le sk nu h)) (fun _ _ => False) := by
  refine x_start (own := RX7) (nm := "framesToAim") rfl rfl (by decide +kernel) rfl (nle rfl) (fun p e σ m args below meth c A C hno hr => ?_)
  refine x_lve (lv' := [(0, .ref (am 0)), (1, .int a)]) rfl ?_
  refine x_aload_n C 0 rfl rfl dX7_framesToAim_0 ?_
  refine x_iload_n C 1 rfl rfl dX7_framesToAim_1 ?_
  refine x_FS (w1 := ([] : va_W)) (wc := ([] : va_W)) (w2 := (wMo g am s fi tx dm th sa ln pa le sk nu h)) [.int a] [.ref (am 0)] (wMo g am s fi tx dm th sa ln pa le sk nu h) C (k_X7_isServo l g a) rfl yS_X7_isServo wML_X7_105 rfl rfl rfl (nle rfl) (nle rfl) (nle rfl) (nle rfl) (nle rfl) dX7_framesToAim_2 ?_
  refine x_if_eq C 12 (by decide) dX7_framesToAim_5 (fun h1 => ?_) (fun h1 => ?_)
  · refine x_iconst C 1 (by decide) dX7_framesToAim_12 ?_
    refine x_FV (w1 := ([] : va_W)) (wc := (wMo g am s fi tx dm th sa ln pa le sk nu h)) (w2 := ([] : va_W)) [.int 1] [] (wMo g am s fi tx dm 1 sa ln pa le sk nu h) C (k_X7_holds l g am s fi tx dm th sa ln pa le sk nu h 1) rfl yV_X7_holds wML_X7_99 rfl 0 rfl rfl rfl rfl (nle rfl) (nle rfl) (nle rfl) (nle rfl) (nle rfl) dX7_framesToAim_13 ?_
    refine x_st (st' := [.int 0]) (by rw [show (sp_X7_holds 1) = 0 from by decide]) ?_
    refine x_if_ne C 21 (by decide) dX7_framesToAim_16 (fun hz => absurd (by decide) hz) (fun _ => ?_)
    refine x_iconst C 0 (by decide) dX7_framesToAim_19 ?_
    exact x_iret C hr (nle rfl) (nle rfl) dX7_framesToAim_20 ⟨(by first | (simp only [sp_X7_framesToAim, if_pos h1]; done) | (simp only [sp_X7_framesToAim, if_pos h1]; rfl)), (by first | (simp only [sp_X7_framesToAim_dm, sp_X7_framesToAim_th, if_pos h1]; done) | (simp only [sp_X7_framesToAim_dm, sp_X7_framesToAim_th, if_pos h1]; rfl))⟩
  · refine x_iconst C 0 (by decide) dX7_framesToAim_8 ?_
    refine x_goto C 13 (by decide) dX7_framesToAim_9 ?_
    refine x_FV (w1 := ([] : va_W)) (wc := (wMo g am s fi tx dm th sa ln pa le sk nu h)) (w2 := ([] : va_W)) [.int 0] [] (wMo g am s fi tx dm 0 sa ln pa le sk nu h) C (k_X7_holds l g am s fi tx dm th sa ln pa le sk nu h 0) rfl yV_X7_holds wML_X7_99 rfl 0 rfl rfl rfl rfl (nle rfl) (nle rfl) (nle rfl) (nle rfl) (nle rfl) dX7_framesToAim_13 ?_
    refine x_st (st' := [.int 1]) (by rw [show (sp_X7_holds 0) = 1 from by decide]) ?_
    refine x_if_ne C 21 (by decide) dX7_framesToAim_16 (fun _ => ?_) (fun hz => absurd hz (by decide))
    refine x_aload_n C 0 rfl rfl dX7_framesToAim_21 ?_
    refine x_iconst C 0 (by decide) dX7_framesToAim_22 ?_
    have h1l := in_le h1 (by decide) (show (5 : Int32) = nI 5 from rfl) (by decide)
    refine x_iload_n C 1 rfl rfl dX7_framesToAim_23 ?_
    refine x_iconst C 4 (by decide) dX7_framesToAim_24 ?_
    refine x_FV (w1 := ([] : va_W)) (wc := (wMo g am s fi tx dm 0 sa ln pa le sk nu h)) (w2 := ([] : va_W)) [.int 0, .int a, .int 4] [] (wMo g am s fi tx dm 0 sa ln pa le sk nu h) C (k_X7_of l g am s fi tx dm 0 sa ln pa le sk nu h 0 0 rfl a (Int32.toNatClampNeg a) (in_nat h1 (by decide)) 4 4 rfl (by omega)) rfl yV_X7_of wML_X7_57 rfl 0 rfl rfl rfl rfl (nle rfl) (nle rfl) (nle rfl) (nle rfl) (nle rfl) dX7_framesToAim_25 ?_
    refine x_istore_n C [(2, .int (s (0 + 87 + 10 * (Int32.toNatClampNeg a) + 4))), (0, .ref (am 0)), (1, .int a)] rfl rfl (by decide) dX7_framesToAim_28 ?_
    refine x_aload_n C 1 rfl rfl dX7_framesToAim_29 ?_
    refine x_iconst C 0 (by decide) dX7_framesToAim_30 ?_
    have h1l := in_le h1 (by decide) (show (5 : Int32) = nI 5 from rfl) (by decide)
    refine x_iload_n C 2 rfl rfl dX7_framesToAim_31 ?_
    refine x_FV (w1 := ([] : va_W)) (wc := (wMo g am s fi tx dm 0 sa ln pa le sk nu h)) (w2 := ([] : va_W)) [.int 0, .int a] [] (wMo g am s fi tx (sp_dems s 0 dm 6) 0 sa ln pa le sk nu h) C (k_X7_aimOf l g am s fi tx dm 0 sa ln pa le sk nu h 0 0 rfl a (Int32.toNatClampNeg a) (in_nat h1 (by decide)) (by omega) hm (by omega)) rfl yV_X7_aimOf wML_X7_117 rfl 0 rfl rfl rfl rfl (nle rfl) (nle rfl) (nle rfl) (nle rfl) (nle rfl) dX7_framesToAim_32 ?_
    refine x_aload_n C 1 rfl rfl dX7_framesToAim_35 ?_
    refine x_iconst C 0 (by decide) dX7_framesToAim_36 ?_
    have h1l := in_le h1 (by decide) (show (5 : Int32) = nI 5 from rfl) (by decide)
    refine x_iload_n C 2 rfl rfl dX7_framesToAim_37 ?_
    refine x_bipush C 8 (by decide) dX7_framesToAim_38 ?_
    refine x_FV (w1 := ([] : va_W)) (wc := (wMo g am s fi tx (sp_dems s 0 dm 6) 0 sa ln pa le sk nu h)) (w2 := ([] : va_W)) [.int 0, .int a, .int 8] [.int (sp_X7_within (sp_X7_raw s (sp_dems s 0 dm 6) 0 (Int32.toNatClampNeg a)) (s (0 + 87 + 10 * (Int32.toNatClampNeg a) + 2)) (s (0 + 87 + 10 * (Int32.toNatClampNeg a) + 3)))] (wMo g am s fi tx (sp_dems s 0 dm 6) 0 sa ln pa le sk nu h) C (k_X7_of l g am s fi tx (sp_dems s 0 dm 6) 0 sa ln pa le sk nu h 0 0 rfl a (Int32.toNatClampNeg a) (in_nat h1 (by decide)) 8 8 rfl (by omega)) rfl yV_X7_of wML_X7_57 rfl 0 rfl rfl rfl rfl (nle rfl) (nle rfl) (nle rfl) (nle rfl) (nle rfl) dX7_framesToAim_40 ?_
    refine x_isub C dX7_framesToAim_43 ?_
    refine x_FS (w1 := ([] : va_W)) (wc := ([] : va_W)) (w2 := (wMo g am s fi tx (sp_dems s 0 dm 6) 0 sa ln pa le sk nu h)) [.int ((sp_X7_within (sp_X7_raw s (sp_dems s 0 dm 6) 0 (Int32.toNatClampNeg a)) (s (0 + 87 + 10 * (Int32.toNatClampNeg a) + 2)) (s (0 + 87 + 10 * (Int32.toNatClampNeg a) + 3))) - (s (0 + 87 + 10 * (Int32.toNatClampNeg a) + 8)))] [] (wMo g am s fi tx (sp_dems s 0 dm 6) 0 sa ln pa le sk nu h) C (k_X7_size l g ((sp_X7_within (sp_X7_raw s (sp_dems s 0 dm 6) 0 (Int32.toNatClampNeg a)) (s (0 + 87 + 10 * (Int32.toNatClampNeg a) + 2)) (s (0 + 87 + 10 * (Int32.toNatClampNeg a) + 3))) - (s (0 + 87 + 10 * (Int32.toNatClampNeg a) + 8)))) rfl yS_X7_size wML_X7_70 rfl rfl rfl (nle rfl) (nle rfl) (nle rfl) (nle rfl) (nle rfl) dX7_framesToAim_44 ?_
    refine x_iload_n C 0 rfl rfl dX7_framesToAim_47 ?_
    refine x_iadd C dX7_framesToAim_48 ?_
    refine x_iconst C 1 (by decide) dX7_framesToAim_49 ?_
    refine x_isub C dX7_framesToAim_50 ?_
    refine x_iload_n C 0 rfl rfl dX7_framesToAim_51 ?_
    refine x_idiv C (hsp _ (by omega)) dX7_framesToAim_52 ?_
    exact x_iret C hr (nle rfl) (nle rfl) dX7_framesToAim_53 ⟨(by first | (simp only [sp_X7_framesToAim, if_neg h1]; done) | (simp only [sp_X7_framesToAim, if_neg h1]; rfl)), (by first | (simp only [sp_X7_framesToAim_dm, sp_X7_framesToAim_th, if_neg h1]; done) | (simp only [sp_X7_framesToAim_dm, sp_X7_framesToAim_th, if_neg h1]; rfl))⟩
def sp_X7_append (ln : Int32) (a : Int32) : Int32 := (if (sp_X7_in a 33 126) = 0 then 0 else (if ln = 60 then 0 else (ln + 1)))
def sp_X7_append_tx (tx : Nat → Int32) (ln : Int32) (a : Int32) : Nat → Int32 := (if (sp_X7_in a 33 126) = 0 then tx else (if ln = 60 then tx else (upd tx (Int32.toNatClampNeg ln) a)))
def sp_X7_append_th (ln : Int32) (a : Int32) : Int32 := (if (sp_X7_in a 33 126) = 0 then 1 else (if ln = 60 then 2 else 0))
def sp_X7_append_ln (ln : Int32) (a : Int32) : Int32 := (if (sp_X7_in a 33 126) = 0 then ln else (if ln = 60 then ln else (ln + 1)))
set_option maxRecDepth 100000 in
theorem k_X7_append (l : Launch) (g : xGt) (am : Nat → Nat) (s fi tx dm : Nat → Int32) (th sa ln pa le sk nu : Int32) (h : Int64) (a : Int32) (hs : sa = nI (Int32.toNatClampNeg sa)) (hs6 : Int32.toNatClampNeg sa ≤ 6) (hm : rOk s 0) (hl : ln = nI (Int32.toNatClampNeg ln)) (hl6 : Int32.toNatClampNeg ln ≤ 60) : xM l g.1 (xT g) yX7_append (ws_ yX7_append cX7_append 2 (some .int)) (xRm 1 22 0 0) 0 0 [.ref (am 0), .int a] (wMo g am s fi tx dm th sa ln pa le sk nu h) (fun r9 w9 => r9 = some (.int (sp_X7_append ln a)) ∧ w9 = (wMo g am s fi (sp_X7_append_tx tx ln a) dm (sp_X7_append_th ln a) sa (sp_X7_append_ln ln a) pa le sk nu h)) (fun _ _ => False) := by
  refine x_start (own := RX7) (nm := "append") rfl rfl (by decide +kernel) rfl (nle rfl) (fun p e σ m args below meth c A C hno hr => ?_)
  refine x_lve (lv' := [(0, .ref (am 0)), (1, .int a)]) rfl ?_
  refine x_aload_n C 0 rfl rfl dX7_append_0 ?_
  refine x_iload_n C 1 rfl rfl dX7_append_1 ?_
  refine x_bipush C 33 (by decide) dX7_append_2 ?_
  refine x_bipush C 126 (by decide) dX7_append_4 ?_
  refine x_FS (w1 := ([] : va_W)) (wc := ([] : va_W)) (w2 := (wMo g am s fi tx dm th sa ln pa le sk nu h)) [.int a, .int 33, .int 126] [.ref (am 0)] (wMo g am s fi tx dm th sa ln pa le sk nu h) C (k_X7_in l g a 33 126) rfl yS_X7_in wML_X7_35 rfl rfl rfl (nle rfl) (nle rfl) (nle rfl) (nle rfl) (nle rfl) dX7_append_6 ?_
  refine x_if_ne C 16 (by decide) dX7_append_9 (fun h1 => ?_) (fun h1 => ?_)
  · refine x_aload_n C 0 rfl rfl dX7_append_16 ?_
    refine x_get C 0 7 5 rfl rfl wLy_X7 wFL_X7_127 rfl (by decide) rfl dX7_append_17 ?_
    refine x_bipush C 60 (by decide) dX7_append_20 ?_
    refine x_icmp_ne C 29 (by decide) dX7_append_22 (fun h2 => ?_) (fun h2 => ?_)
    · refine x_iconst C 0 (by decide) dX7_append_29 ?_
      refine x_FV (w1 := ([] : va_W)) (wc := (wMo g am s fi tx dm th sa ln pa le sk nu h)) (w2 := ([] : va_W)) [.int 0] [] (wMo g am s fi tx dm 0 sa ln pa le sk nu h) C (k_X7_holds l g am s fi tx dm th sa ln pa le sk nu h 0) rfl yV_X7_holds wML_X7_99 rfl 0 rfl rfl rfl rfl (nle rfl) (nle rfl) (nle rfl) (nle rfl) (nle rfl) dX7_append_30 ?_
      refine x_st (st' := [.int 1]) (by rw [show (sp_X7_holds 0) = 1 from by decide]) ?_
      refine x_if_ne C 38 (by decide) dX7_append_33 (fun _ => ?_) (fun hz => absurd hz (by decide))
      refine x_aload_n C 0 rfl rfl dX7_append_38 ?_
      refine x_get C 0 7 4 rfl rfl wLy_X7 wFL_X7_17 rfl (by decide) rfl dX7_append_39 ?_
      refine x_aload_n C 0 rfl rfl dX7_append_42 ?_
      refine x_get C 0 7 5 rfl rfl wLy_X7 wFL_X7_127 rfl (by decide) rfl dX7_append_43 ?_
      have h1l := in_le h1 (by decide) (show (126 : Int32) = nI 126 from rfl) (by decide)
      refine x_iload_n C 1 rfl rfl dX7_append_46 ?_
      refine x_iastN (f := tx) C 3 0 (Int32.toNatClampNeg ln) (wMo g am s fi (upd tx (Int32.toNatClampNeg ln) a) dm 0 sa ln pa le sk nu h) rfl rfl rfl hl (by have := ne60 hl h2; omega) (by decide) dX7_append_47 ?_
      refine x_aload_n C 0 rfl rfl dX7_append_48 ?_
      refine x_dup C rfl dX7_append_49 ?_
      refine x_get C 0 7 5 rfl rfl wLy_X7 wFL_X7_127 rfl (by decide) rfl dX7_append_50 ?_
      refine x_iconst C 1 (by decide) dX7_append_53 ?_
      refine x_iadd C dX7_append_54 ?_
      refine x_put C 0 7 5 tyX7 (wMo g am s fi (upd tx (Int32.toNatClampNeg ln) a) dm 0 sa (ln + 1) pa le sk nu h) rfl rfl rfl wLy_X7 tyX7_ok nmX7 wFL_X7_127 rfl (by decide) rfl rfl rfl rfl (nlt rfl) dX7_append_55 ?_
      refine x_aload_n C 0 rfl rfl dX7_append_58 ?_
      refine x_get C 0 7 5 rfl rfl wLy_X7 wFL_X7_127 rfl (by decide) rfl dX7_append_59 ?_
      exact x_iret C hr (nle rfl) (nle rfl) dX7_append_62 ⟨(by first | (simp only [sp_X7_append, if_neg h1, if_neg h2]; done) | (simp only [sp_X7_append, if_neg h1, if_neg h2]; rfl)), (by first | (simp only [sp_X7_append_tx, sp_X7_append_th, sp_X7_append_ln, if_neg h1, if_neg h2]; done) | (simp only [sp_X7_append_tx, sp_X7_append_th, sp_X7_append_ln, if_neg h1, if_neg h2]; rfl))⟩
    · refine x_iconst C 2 (by decide) dX7_append_25 ?_
      refine x_goto C 30 (by decide) dX7_append_26 ?_
      refine x_FV (w1 := ([] : va_W)) (wc := (wMo g am s fi tx dm th sa ln pa le sk nu h)) (w2 := ([] : va_W)) [.int 2] [] (wMo g am s fi tx dm 2 sa ln pa le sk nu h) C (k_X7_holds l g am s fi tx dm th sa ln pa le sk nu h 2) rfl yV_X7_holds wML_X7_99 rfl 0 rfl rfl rfl rfl (nle rfl) (nle rfl) (nle rfl) (nle rfl) (nle rfl) dX7_append_30 ?_
      refine x_st (st' := [.int 0]) (by rw [show (sp_X7_holds 2) = 0 from by decide]) ?_
      refine x_if_ne C 38 (by decide) dX7_append_33 (fun hz => absurd (by decide) hz) (fun _ => ?_)
      refine x_iconst C 0 (by decide) dX7_append_36 ?_
      exact x_iret C hr (nle rfl) (nle rfl) dX7_append_37 ⟨(by first | (simp only [sp_X7_append, if_neg h1, if_pos h2]; done) | (simp only [sp_X7_append, if_neg h1, if_pos h2]; rfl)), (by first | (simp only [sp_X7_append_tx, sp_X7_append_th, sp_X7_append_ln, if_neg h1, if_pos h2]; done) | (simp only [sp_X7_append_tx, sp_X7_append_th, sp_X7_append_ln, if_neg h1, if_pos h2]; rfl))⟩
  · refine x_iconst C 1 (by decide) dX7_append_12 ?_
    refine x_goto C 30 (by decide) dX7_append_13 ?_
    refine x_FV (w1 := ([] : va_W)) (wc := (wMo g am s fi tx dm th sa ln pa le sk nu h)) (w2 := ([] : va_W)) [.int 1] [] (wMo g am s fi tx dm 1 sa ln pa le sk nu h) C (k_X7_holds l g am s fi tx dm th sa ln pa le sk nu h 1) rfl yV_X7_holds wML_X7_99 rfl 0 rfl rfl rfl rfl (nle rfl) (nle rfl) (nle rfl) (nle rfl) (nle rfl) dX7_append_30 ?_
    refine x_st (st' := [.int 0]) (by rw [show (sp_X7_holds 1) = 0 from by decide]) ?_
    refine x_if_ne C 38 (by decide) dX7_append_33 (fun hz => absurd (by decide) hz) (fun _ => ?_)
    refine x_iconst C 0 (by decide) dX7_append_36 ?_
    exact x_iret C hr (nle rfl) (nle rfl) dX7_append_37 ⟨(by first | (simp only [sp_X7_append, if_pos h1]; done) | (simp only [sp_X7_append, if_pos h1]; rfl)), (by first | (simp only [sp_X7_append_tx, sp_X7_append_th, sp_X7_append_ln, if_pos h1]; done) | (simp only [sp_X7_append_tx, sp_X7_append_th, sp_X7_append_ln, if_pos h1]; rfl))⟩
set_option maxRecDepth 100000 in
theorem k_X7_clearText (l : Launch) (g : xGt) (am : Nat → Nat) (s fi tx dm : Nat → Int32) (th sa ln pa le sk nu : Int32) (h : Int64) (hs : sa = nI (Int32.toNatClampNeg sa)) (hs6 : Int32.toNatClampNeg sa ≤ 6) (hm : rOk s 0) : xM l g.1 (xT g) yX7_clearText (ws_ yX7_clearText cX7_clearText 2 (some .int)) (xRm 0 0 0 0) 0 0 [.ref (am 0)] (wMo g am s fi tx dm th sa ln pa le sk nu h) (fun r9 w9 => r9 = some (.int ln) ∧ w9 = (wMo g am s fi tx dm 0 sa 0 pa le sk nu h)) (fun _ _ => False) := by
  refine x_start (own := RX7) (nm := "clearText") rfl rfl (by decide +kernel) rfl (nle rfl) (fun p e σ m args below meth c A C hno hr => ?_)
  refine x_lve (lv' := [(0, .ref (am 0))]) rfl ?_
  refine x_aload_n C 0 rfl rfl dX7_clearText_0 ?_
  refine x_iconst C 0 (by decide) dX7_clearText_1 ?_
  refine x_put C 0 7 0 tyX7 (wMo g am s fi tx dm 0 sa ln pa le sk nu h) rfl rfl rfl wLy_X7 tyX7_ok nmX7 wFL_X7_31 rfl (by decide) rfl rfl rfl rfl (nlt rfl) dX7_clearText_2 ?_
  refine x_aload_n C 0 rfl rfl dX7_clearText_5 ?_
  refine x_get C 0 7 5 rfl rfl wLy_X7 wFL_X7_127 rfl (by decide) rfl dX7_clearText_6 ?_
  refine x_istore_n C [(1, .int ln), (0, .ref (am 0))] rfl rfl (by decide) dX7_clearText_9 ?_
  refine x_aload_n C 1 rfl rfl dX7_clearText_10 ?_
  refine x_iconst C 0 (by decide) dX7_clearText_11 ?_
  refine x_put C 0 7 5 tyX7 (wMo g am s fi tx dm 0 sa 0 pa le sk nu h) rfl rfl rfl wLy_X7 tyX7_ok nmX7 wFL_X7_127 rfl (by decide) rfl rfl rfl rfl (nlt rfl) dX7_clearText_12 ?_
  refine x_iload_n C 0 rfl rfl dX7_clearText_15 ?_
  exact x_iret C hr (nle rfl) (nle rfl) dX7_clearText_16 ⟨rfl, rfl⟩
set_option maxRecDepth 100000 in
theorem k_X7_savedStates (l : Launch) (g : xGt) (am : Nat → Nat) (s fi tx dm : Nat → Int32) (th sa ln pa le sk nu : Int32) (h : Int64) (hs : sa = nI (Int32.toNatClampNeg sa)) (hs6 : Int32.toNatClampNeg sa ≤ 6) (hm : rOk s 0) : xM l g.1 (xT g) yX7_savedStates (ws_ yX7_savedStates cX7_savedStates 1 (some .int)) (xRm 0 0 0 0) 0 0 [.ref (am 0)] (wMo g am s fi tx dm th sa ln pa le sk nu h) (fun r9 w9 => r9 = some (.int sa) ∧ w9 = (wMo g am s fi tx dm 0 sa ln pa le sk nu h)) (fun _ _ => False) := by
  refine x_start (own := RX7) (nm := "savedStates") rfl rfl (by decide +kernel) rfl (nle rfl) (fun p e σ m args below meth c A C hno hr => ?_)
  refine x_lve (lv' := [(0, .ref (am 0))]) rfl ?_
  refine x_aload_n C 0 rfl rfl dX7_savedStates_0 ?_
  refine x_iconst C 0 (by decide) dX7_savedStates_1 ?_
  refine x_put C 0 7 0 tyX7 (wMo g am s fi tx dm 0 sa ln pa le sk nu h) rfl rfl rfl wLy_X7 tyX7_ok nmX7 wFL_X7_31 rfl (by decide) rfl rfl rfl rfl (nlt rfl) dX7_savedStates_2 ?_
  refine x_aload_n C 0 rfl rfl dX7_savedStates_5 ?_
  refine x_get C 0 7 2 rfl rfl wLy_X7 wFL_X7_85 rfl (by decide) rfl dX7_savedStates_6 ?_
  exact x_iret C hr (nle rfl) (nle rfl) dX7_savedStates_9 ⟨rfl, rfl⟩
def sp_X7_undo (sa : Int32) : Int32 := (if sa ≤ 0 then 0 else (sa - 1))
def sp_X7_undo_s (s : Nat → Int32) (sa : Int32) : Nat → Int32 := (if sa ≤ 0 then s else (sp_cp (Int32.toNatClampNeg sa) 0 s 156))
def sp_X7_undo_th (sa : Int32) : Int32 := (if sa ≤ 0 then 1 else 0)
def sp_X7_undo_sa (sa : Int32) : Int32 := (if sa ≤ 0 then sa else (sa - 1))
set_option maxRecDepth 100000 in
theorem k_X7_undo (l : Launch) (g : xGt) (am : Nat → Nat) (s fi tx dm : Nat → Int32) (th sa ln pa le sk nu : Int32) (h : Int64) (hs : sa = nI (Int32.toNatClampNeg sa)) (hs6 : Int32.toNatClampNeg sa ≤ 6) (hm : rOk s 0) : xM l g.1 (xT g) yX7_undo (ws_ yX7_undo cX7_undo 1 (some .int)) (xRm 1 23 0 0) 0 0 [.ref (am 0)] (wMo g am s fi tx dm th sa ln pa le sk nu h) (fun r9 w9 => r9 = some (.int (sp_X7_undo sa)) ∧ w9 = (wMo g am (sp_X7_undo_s s sa) fi tx dm (sp_X7_undo_th sa) (sp_X7_undo_sa sa) ln pa le sk nu h)) (fun _ _ => False) := by
  refine x_start (own := RX7) (nm := "undo") rfl rfl (by decide +kernel) rfl (nle rfl) (fun p e σ m args below meth c A C hno hr => ?_)
  refine x_lve (lv' := [(0, .ref (am 0))]) rfl ?_
  refine x_aload_n C 0 rfl rfl dX7_undo_0 ?_
  refine x_aload_n C 0 rfl rfl dX7_undo_1 ?_
  refine x_get C 0 7 2 rfl rfl wLy_X7 wFL_X7_85 rfl (by decide) rfl dX7_undo_2 ?_
  refine x_if_le C 12 (by decide) dX7_undo_5 (fun h1 => ?_) (fun h1 => ?_)
  · refine x_iconst C 1 (by decide) dX7_undo_12 ?_
    refine x_FV (w1 := ([] : va_W)) (wc := (wMo g am s fi tx dm th sa ln pa le sk nu h)) (w2 := ([] : va_W)) [.int 1] [] (wMo g am s fi tx dm 1 sa ln pa le sk nu h) C (k_X7_holds l g am s fi tx dm th sa ln pa le sk nu h 1) rfl yV_X7_holds wML_X7_99 rfl 0 rfl rfl rfl rfl (nle rfl) (nle rfl) (nle rfl) (nle rfl) (nle rfl) dX7_undo_13 ?_
    refine x_st (st' := [.int 0]) (by rw [show (sp_X7_holds 1) = 0 from by decide]) ?_
    refine x_if_ne C 21 (by decide) dX7_undo_16 (fun hz => absurd (by decide) hz) (fun _ => ?_)
    refine x_iconst C 0 (by decide) dX7_undo_19 ?_
    exact x_iret C hr (nle rfl) (nle rfl) dX7_undo_20 ⟨(by first | (simp only [sp_X7_undo, if_pos h1]; done) | (simp only [sp_X7_undo, if_pos h1]; rfl)), (by first | (simp only [sp_X7_undo_s, sp_X7_undo_th, sp_X7_undo_sa, if_pos h1]; done) | (simp only [sp_X7_undo_s, sp_X7_undo_th, sp_X7_undo_sa, if_pos h1]; rfl))⟩
  · refine x_iconst C 0 (by decide) dX7_undo_8 ?_
    refine x_goto C 13 (by decide) dX7_undo_9 ?_
    refine x_FV (w1 := ([] : va_W)) (wc := (wMo g am s fi tx dm th sa ln pa le sk nu h)) (w2 := ([] : va_W)) [.int 0] [] (wMo g am s fi tx dm 0 sa ln pa le sk nu h) C (k_X7_holds l g am s fi tx dm th sa ln pa le sk nu h 0) rfl yV_X7_holds wML_X7_99 rfl 0 rfl rfl rfl rfl (nle rfl) (nle rfl) (nle rfl) (nle rfl) (nle rfl) dX7_undo_13 ?_
    refine x_st (st' := [.int 1]) (by rw [show (sp_X7_holds 0) = 1 from by decide]) ?_
    refine x_if_ne C 21 (by decide) dX7_undo_16 (fun _ => ?_) (fun hz => absurd hz (by decide))
    refine x_aload_n C 0 rfl rfl dX7_undo_21 ?_
    refine x_aload_n C 0 rfl rfl dX7_undo_22 ?_
    refine x_get C 0 7 2 rfl rfl wLy_X7 wFL_X7_85 rfl (by decide) rfl dX7_undo_23 ?_
    refine x_iconst C 0 (by decide) dX7_undo_26 ?_
    refine x_GV (w1 := ([] : va_W)) (wc := (wMo g am s fi tx dm 0 sa ln pa le sk nu h)) (w2 := ([] : va_W)) [.int sa, .int 0] [] (wMo g am (sp_cp (Int32.toNatClampNeg sa) 0 s 156) fi tx dm 0 sa ln pa le sk nu h) C (k_X7_copies l g am s fi tx dm 0 sa ln pa le sk nu h sa (Int32.toNatClampNeg sa) hs 0 0 rfl (by omega) (by omega)) rfl yV_X7_copies wML_X7_88 rfl 0 rfl rfl rfl rfl (nle rfl) (nle rfl) (nle rfl) (nle rfl) (nle rfl) dX7_undo_27 ?_
    refine x_aload_n C 0 rfl rfl dX7_undo_30 ?_
    refine x_dup C rfl dX7_undo_31 ?_
    refine x_get C 0 7 2 rfl rfl wLy_X7 wFL_X7_85 rfl (by decide) rfl dX7_undo_32 ?_
    refine x_iconst C 1 (by decide) dX7_undo_35 ?_
    refine x_isub C dX7_undo_36 ?_
    refine x_put C 0 7 2 tyX7 (wMo g am (sp_cp (Int32.toNatClampNeg sa) 0 s 156) fi tx dm 0 (sa - 1) ln pa le sk nu h) rfl rfl rfl wLy_X7 tyX7_ok nmX7 wFL_X7_85 rfl (by decide) rfl rfl rfl rfl (nlt rfl) dX7_undo_37 ?_
    refine x_aload_n C 0 rfl rfl dX7_undo_40 ?_
    refine x_get C 0 7 2 rfl rfl wLy_X7 wFL_X7_85 rfl (by decide) rfl dX7_undo_41 ?_
    exact x_iret C hr (nle rfl) (nle rfl) dX7_undo_44 ⟨(by first | (simp only [sp_X7_undo, if_neg h1]; done) | (simp only [sp_X7_undo, if_neg h1]; rfl)), (by first | (simp only [sp_X7_undo_s, sp_X7_undo_th, sp_X7_undo_sa, if_neg h1]; done) | (simp only [sp_X7_undo_s, sp_X7_undo_th, sp_X7_undo_sa, if_neg h1]; rfl))⟩
def sp_X7_store (s : Nat → Int32) (a : Int32) : Int32 := (if (sp_X7_in a 0 1) = 0 then 0 else ((sp_cp 0 (7 + (Int32.toNatClampNeg a)) s 156) 26))
def sp_X7_store_s (s : Nat → Int32) (a : Int32) : Nat → Int32 := (if (sp_X7_in a 0 1) = 0 then s else (sp_cp 0 (7 + (Int32.toNatClampNeg a)) s 156))
def sp_X7_store_fi (fi : Nat → Int32) (a : Int32) : Nat → Int32 := (if (sp_X7_in a 0 1) = 0 then fi else (upd fi (Int32.toNatClampNeg a) 1))
def sp_X7_store_th (a : Int32) : Int32 := (if (sp_X7_in a 0 1) = 0 then 1 else 0)
set_option maxRecDepth 100000 in
theorem k_X7_store (l : Launch) (g : xGt) (am : Nat → Nat) (s fi tx dm : Nat → Int32) (th sa ln pa le sk nu : Int32) (h : Int64) (a : Int32) (hs : sa = nI (Int32.toNatClampNeg sa)) (hs6 : Int32.toNatClampNeg sa ≤ 6) (hm : rOk s 0) : xM l g.1 (xT g) yX7_store (ws_ yX7_store cX7_store 2 (some .int)) (xRm 1 23 0 0) 0 0 [.ref (am 0), .int a] (wMo g am s fi tx dm th sa ln pa le sk nu h) (fun r9 w9 => r9 = some (.int (sp_X7_store s a)) ∧ w9 = (wMo g am (sp_X7_store_s s a) (sp_X7_store_fi fi a) tx dm (sp_X7_store_th a) sa ln pa le sk nu h)) (fun _ _ => False) := by
  refine x_start (own := RX7) (nm := "store") rfl rfl (by decide +kernel) rfl (nle rfl) (fun p e σ m args below meth c A C hno hr => ?_)
  refine x_lve (lv' := [(0, .ref (am 0)), (1, .int a)]) rfl ?_
  refine x_aload_n C 0 rfl rfl dX7_store_0 ?_
  refine x_iload_n C 1 rfl rfl dX7_store_1 ?_
  refine x_iconst C 0 (by decide) dX7_store_2 ?_
  refine x_iconst C 1 (by decide) dX7_store_3 ?_
  refine x_FS (w1 := ([] : va_W)) (wc := ([] : va_W)) (w2 := (wMo g am s fi tx dm th sa ln pa le sk nu h)) [.int a, .int 0, .int 1] [.ref (am 0)] (wMo g am s fi tx dm th sa ln pa le sk nu h) C (k_X7_in l g a 0 1) rfl yS_X7_in wML_X7_35 rfl rfl rfl (nle rfl) (nle rfl) (nle rfl) (nle rfl) (nle rfl) dX7_store_4 ?_
  refine x_if_eq C 14 (by decide) dX7_store_7 (fun h1 => ?_) (fun h1 => ?_)
  · refine x_iconst C 1 (by decide) dX7_store_14 ?_
    refine x_FV (w1 := ([] : va_W)) (wc := (wMo g am s fi tx dm th sa ln pa le sk nu h)) (w2 := ([] : va_W)) [.int 1] [] (wMo g am s fi tx dm 1 sa ln pa le sk nu h) C (k_X7_holds l g am s fi tx dm th sa ln pa le sk nu h 1) rfl yV_X7_holds wML_X7_99 rfl 0 rfl rfl rfl rfl (nle rfl) (nle rfl) (nle rfl) (nle rfl) (nle rfl) dX7_store_15 ?_
    refine x_st (st' := [.int 0]) (by rw [show (sp_X7_holds 1) = 0 from by decide]) ?_
    refine x_if_ne C 23 (by decide) dX7_store_18 (fun hz => absurd (by decide) hz) (fun _ => ?_)
    refine x_iconst C 0 (by decide) dX7_store_21 ?_
    exact x_iret C hr (nle rfl) (nle rfl) dX7_store_22 ⟨(by first | (simp only [sp_X7_store, if_pos h1]; done) | (simp only [sp_X7_store, if_pos h1]; rfl)), (by first | (simp only [sp_X7_store_s, sp_X7_store_fi, sp_X7_store_th, if_pos h1]; done) | (simp only [sp_X7_store_s, sp_X7_store_fi, sp_X7_store_th, if_pos h1]; rfl))⟩
  · refine x_iconst C 0 (by decide) dX7_store_10 ?_
    refine x_goto C 15 (by decide) dX7_store_11 ?_
    refine x_FV (w1 := ([] : va_W)) (wc := (wMo g am s fi tx dm th sa ln pa le sk nu h)) (w2 := ([] : va_W)) [.int 0] [] (wMo g am s fi tx dm 0 sa ln pa le sk nu h) C (k_X7_holds l g am s fi tx dm th sa ln pa le sk nu h 0) rfl yV_X7_holds wML_X7_99 rfl 0 rfl rfl rfl rfl (nle rfl) (nle rfl) (nle rfl) (nle rfl) (nle rfl) dX7_store_15 ?_
    refine x_st (st' := [.int 1]) (by rw [show (sp_X7_holds 0) = 1 from by decide]) ?_
    refine x_if_ne C 23 (by decide) dX7_store_18 (fun _ => ?_) (fun hz => absurd hz (by decide))
    refine x_aload_n C 0 rfl rfl dX7_store_23 ?_
    refine x_iconst C 0 (by decide) dX7_store_24 ?_
    refine x_bipush C 7 (by decide) dX7_store_25 ?_
    have h1l := in_le h1 (by decide) (show (1 : Int32) = nI 1 from rfl) (by decide)
    refine x_iload_n C 1 rfl rfl dX7_store_27 ?_
    refine x_iaddN C 7 (Int32.toNatClampNeg a) rfl (in_nat h1 (by decide)) dX7_store_28 ?_
    refine x_GV (w1 := ([] : va_W)) (wc := (wMo g am s fi tx dm 0 sa ln pa le sk nu h)) (w2 := ([] : va_W)) [.int 0, .int (nI (7 + (Int32.toNatClampNeg a)))] [] (wMo g am (sp_cp 0 (7 + (Int32.toNatClampNeg a)) s 156) fi tx dm 0 sa ln pa le sk nu h) C (k_X7_copies l g am s fi tx dm 0 sa ln pa le sk nu h 0 0 rfl (nI (7 + (Int32.toNatClampNeg a))) (7 + (Int32.toNatClampNeg a)) rfl (by omega) (by omega)) rfl yV_X7_copies wML_X7_88 rfl 0 rfl rfl rfl rfl (nle rfl) (nle rfl) (nle rfl) (nle rfl) (nle rfl) dX7_store_29 ?_
    refine x_aload_n C 0 rfl rfl dX7_store_32 ?_
    refine x_get C 0 7 3 rfl rfl wLy_X7 wFL_X7_13 rfl (by decide) rfl dX7_store_33 ?_
    have h1l := in_le h1 (by decide) (show (1 : Int32) = nI 1 from rfl) (by decide)
    refine x_iload_n C 1 rfl rfl dX7_store_36 ?_
    refine x_iconst C 1 (by decide) dX7_store_37 ?_
    refine x_zastN (f := fi) C 2 1 (Int32.toNatClampNeg a) (wMo g am (sp_cp 0 (7 + (Int32.toNatClampNeg a)) s 156) (upd fi (Int32.toNatClampNeg a) 1) tx dm 0 sa ln pa le sk nu h) rfl rfl rfl (in_nat h1 (by decide)) (by omega) (by decide) (Or.inr rfl) dX7_store_38 ?_
    refine x_aload_n C 0 rfl rfl dX7_store_39 ?_
    refine x_get C 0 7 1 rfl rfl wLy_X7 wFL_X7_7 rfl (by decide) rfl dX7_store_40 ?_
    refine x_bipush C 26 (by decide) dX7_store_43 ?_
    refine x_ialdN (f := (sp_cp 0 (7 + (Int32.toNatClampNeg a)) s 156)) C 1 0 26 rfl rfl rfl (by omega) (by decide) dX7_store_45 ?_
    exact x_iret C hr (nle rfl) (nle rfl) dX7_store_46 ⟨(by first | (simp only [sp_X7_store, if_neg h1]; done) | (simp only [sp_X7_store, if_neg h1]; rfl)), (by first | (simp only [sp_X7_store_s, sp_X7_store_fi, sp_X7_store_th, if_neg h1]; done) | (simp only [sp_X7_store_s, sp_X7_store_fi, sp_X7_store_th, if_neg h1]; rfl))⟩
def sp_X7_recall (s : Nat → Int32) (fi : Nat → Int32) (sa : Int32) (a : Int32) : Int32 := (if (sp_X7_in a 0 1) = 0 then 0 else (if (fi (Int32.toNatClampNeg a)) = 0 then 0 else ((sp_cp (7 + (Int32.toNatClampNeg a)) 0 (sp_X7_save_s s sa) 156) 26)))
def sp_X7_recall_s (s : Nat → Int32) (fi : Nat → Int32) (sa : Int32) (a : Int32) : Nat → Int32 := (if (sp_X7_in a 0 1) = 0 then s else (if (fi (Int32.toNatClampNeg a)) = 0 then s else (sp_cp (7 + (Int32.toNatClampNeg a)) 0 (sp_X7_save_s s sa) 156)))
def sp_X7_recall_th (fi : Nat → Int32) (a : Int32) : Int32 := (if (sp_X7_in a 0 1) = 0 then 1 else (if (fi (Int32.toNatClampNeg a)) = 0 then 2 else 0))
def sp_X7_recall_sa (fi : Nat → Int32) (sa : Int32) (a : Int32) : Int32 := (if (sp_X7_in a 0 1) = 0 then sa else (if (fi (Int32.toNatClampNeg a)) = 0 then sa else (sp_X7_save_sa sa)))
set_option maxRecDepth 100000 in
theorem k_X7_recall (l : Launch) (g : xGt) (am : Nat → Nat) (s fi tx dm : Nat → Int32) (th sa ln pa le sk nu : Int32) (h : Int64) (a : Int32) (hs : sa = nI (Int32.toNatClampNeg sa)) (hs6 : Int32.toNatClampNeg sa ≤ 6) (hm : rOk s 0) : xM l g.1 (xT g) yX7_recall (ws_ yX7_recall cX7_recall 2 (some .int)) (xRm 2 44 0 0) 0 0 [.ref (am 0), .int a] (wMo g am s fi tx dm th sa ln pa le sk nu h) (fun r9 w9 => r9 = some (.int (sp_X7_recall s fi sa a)) ∧ w9 = (wMo g am (sp_X7_recall_s s fi sa a) fi tx dm (sp_X7_recall_th fi a) (sp_X7_recall_sa fi sa a) ln pa le sk nu h)) (fun _ _ => False) := by
  refine x_start (own := RX7) (nm := "recall") rfl rfl (by decide +kernel) rfl (nle rfl) (fun p e σ m args below meth c A C hno hr => ?_)
  refine x_lve (lv' := [(0, .ref (am 0)), (1, .int a)]) rfl ?_
  refine x_aload_n C 0 rfl rfl dX7_recall_0 ?_
  refine x_iload_n C 1 rfl rfl dX7_recall_1 ?_
  refine x_iconst C 0 (by decide) dX7_recall_2 ?_
  refine x_iconst C 1 (by decide) dX7_recall_3 ?_
  refine x_FS (w1 := ([] : va_W)) (wc := ([] : va_W)) (w2 := (wMo g am s fi tx dm th sa ln pa le sk nu h)) [.int a, .int 0, .int 1] [.ref (am 0)] (wMo g am s fi tx dm th sa ln pa le sk nu h) C (k_X7_in l g a 0 1) rfl yS_X7_in wML_X7_35 rfl rfl rfl (nle rfl) (nle rfl) (nle rfl) (nle rfl) (nle rfl) dX7_recall_4 ?_
  refine x_if_ne C 14 (by decide) dX7_recall_7 (fun h1 => ?_) (fun h1 => ?_)
  · refine x_aload_n C 0 rfl rfl dX7_recall_14 ?_
    refine x_get C 0 7 3 rfl rfl wLy_X7 wFL_X7_13 rfl (by decide) rfl dX7_recall_15 ?_
    have h1l := in_le h1 (by decide) (show (1 : Int32) = nI 1 from rfl) (by decide)
    refine x_iload_n C 1 rfl rfl dX7_recall_18 ?_
    refine x_zaldN (f := fi) C 2 1 (Int32.toNatClampNeg a) rfl rfl (in_nat h1 (by decide)) (by omega) (by decide) dX7_recall_19 ?_
    refine x_if_ne C 27 (by decide) dX7_recall_20 (fun h2 => ?_) (fun h2 => ?_)
    · refine x_iconst C 0 (by decide) dX7_recall_27 ?_
      refine x_FV (w1 := ([] : va_W)) (wc := (wMo g am s fi tx dm th sa ln pa le sk nu h)) (w2 := ([] : va_W)) [.int 0] [] (wMo g am s fi tx dm 0 sa ln pa le sk nu h) C (k_X7_holds l g am s fi tx dm th sa ln pa le sk nu h 0) rfl yV_X7_holds wML_X7_99 rfl 0 rfl rfl rfl rfl (nle rfl) (nle rfl) (nle rfl) (nle rfl) (nle rfl) dX7_recall_28 ?_
      refine x_st (st' := [.int 1]) (by rw [show (sp_X7_holds 0) = 1 from by decide]) ?_
      refine x_if_ne C 36 (by decide) dX7_recall_31 (fun _ => ?_) (fun hz => absurd hz (by decide))
      refine x_aload_n C 0 rfl rfl dX7_recall_36 ?_
      refine x_GV (w1 := ([] : va_W)) (wc := (wMo g am s fi tx dm 0 sa ln pa le sk nu h)) (w2 := ([] : va_W)) [] [] (wMo g am (sp_X7_save_s s sa) fi tx dm 0 (sp_X7_save_sa sa) ln pa le sk nu h) C (k_X7_save l g am s fi tx dm 0 sa ln pa le sk nu h hs hs6) rfl yV_X7_save wML_X7_92 rfl 0 rfl rfl rfl rfl (nle rfl) (nle rfl) (nle rfl) (nle rfl) (nle rfl) dX7_recall_37 ?_
      refine x_aload_n C 0 rfl rfl dX7_recall_40 ?_
      refine x_bipush C 7 (by decide) dX7_recall_41 ?_
      have h1l := in_le h1 (by decide) (show (1 : Int32) = nI 1 from rfl) (by decide)
      refine x_iload_n C 1 rfl rfl dX7_recall_43 ?_
      refine x_iaddN C 7 (Int32.toNatClampNeg a) rfl (in_nat h1 (by decide)) dX7_recall_44 ?_
      refine x_iconst C 0 (by decide) dX7_recall_45 ?_
      refine x_GV (w1 := ([] : va_W)) (wc := (wMo g am (sp_X7_save_s s sa) fi tx dm 0 (sp_X7_save_sa sa) ln pa le sk nu h)) (w2 := ([] : va_W)) [.int (nI (7 + (Int32.toNatClampNeg a))), .int 0] [] (wMo g am (sp_cp (7 + (Int32.toNatClampNeg a)) 0 (sp_X7_save_s s sa) 156) fi tx dm 0 (sp_X7_save_sa sa) ln pa le sk nu h) C (k_X7_copies l g am (sp_X7_save_s s sa) fi tx dm 0 (sp_X7_save_sa sa) ln pa le sk nu h (nI (7 + (Int32.toNatClampNeg a))) (7 + (Int32.toNatClampNeg a)) rfl 0 0 rfl (by omega) (by omega)) rfl yV_X7_copies wML_X7_88 rfl 0 rfl rfl rfl rfl (nle rfl) (nle rfl) (nle rfl) (nle rfl) (nle rfl) dX7_recall_46 ?_
      refine x_aload_n C 0 rfl rfl dX7_recall_49 ?_
      refine x_get C 0 7 1 rfl rfl wLy_X7 wFL_X7_7 rfl (by decide) rfl dX7_recall_50 ?_
      refine x_bipush C 26 (by decide) dX7_recall_53 ?_
      refine x_ialdN (f := (sp_cp (7 + (Int32.toNatClampNeg a)) 0 (sp_X7_save_s s sa) 156)) C 1 0 26 rfl rfl rfl (by omega) (by decide) dX7_recall_55 ?_
      exact x_iret C hr (nle rfl) (nle rfl) dX7_recall_56 ⟨(by first | (simp only [sp_X7_recall, if_neg h1, if_neg h2]; done) | (simp only [sp_X7_recall, if_neg h1, if_neg h2]; rfl)), (by first | (simp only [sp_X7_recall_s, sp_X7_recall_th, sp_X7_recall_sa, if_neg h1, if_neg h2]; done) | (simp only [sp_X7_recall_s, sp_X7_recall_th, sp_X7_recall_sa, if_neg h1, if_neg h2]; rfl))⟩
    · refine x_iconst C 2 (by decide) dX7_recall_23 ?_
      refine x_goto C 28 (by decide) dX7_recall_24 ?_
      refine x_FV (w1 := ([] : va_W)) (wc := (wMo g am s fi tx dm th sa ln pa le sk nu h)) (w2 := ([] : va_W)) [.int 2] [] (wMo g am s fi tx dm 2 sa ln pa le sk nu h) C (k_X7_holds l g am s fi tx dm th sa ln pa le sk nu h 2) rfl yV_X7_holds wML_X7_99 rfl 0 rfl rfl rfl rfl (nle rfl) (nle rfl) (nle rfl) (nle rfl) (nle rfl) dX7_recall_28 ?_
      refine x_st (st' := [.int 0]) (by rw [show (sp_X7_holds 2) = 0 from by decide]) ?_
      refine x_if_ne C 36 (by decide) dX7_recall_31 (fun hz => absurd (by decide) hz) (fun _ => ?_)
      refine x_iconst C 0 (by decide) dX7_recall_34 ?_
      exact x_iret C hr (nle rfl) (nle rfl) dX7_recall_35 ⟨(by first | (simp only [sp_X7_recall, if_neg h1, if_pos h2]; done) | (simp only [sp_X7_recall, if_neg h1, if_pos h2]; rfl)), (by first | (simp only [sp_X7_recall_s, sp_X7_recall_th, sp_X7_recall_sa, if_neg h1, if_pos h2]; done) | (simp only [sp_X7_recall_s, sp_X7_recall_th, sp_X7_recall_sa, if_neg h1, if_pos h2]; rfl))⟩
  · refine x_iconst C 1 (by decide) dX7_recall_10 ?_
    refine x_goto C 28 (by decide) dX7_recall_11 ?_
    refine x_FV (w1 := ([] : va_W)) (wc := (wMo g am s fi tx dm th sa ln pa le sk nu h)) (w2 := ([] : va_W)) [.int 1] [] (wMo g am s fi tx dm 1 sa ln pa le sk nu h) C (k_X7_holds l g am s fi tx dm th sa ln pa le sk nu h 1) rfl yV_X7_holds wML_X7_99 rfl 0 rfl rfl rfl rfl (nle rfl) (nle rfl) (nle rfl) (nle rfl) (nle rfl) dX7_recall_28 ?_
    refine x_st (st' := [.int 0]) (by rw [show (sp_X7_holds 1) = 0 from by decide]) ?_
    refine x_if_ne C 36 (by decide) dX7_recall_31 (fun hz => absurd (by decide) hz) (fun _ => ?_)
    refine x_iconst C 0 (by decide) dX7_recall_34 ?_
    exact x_iret C hr (nle rfl) (nle rfl) dX7_recall_35 ⟨(by first | (simp only [sp_X7_recall, if_pos h1]; done) | (simp only [sp_X7_recall, if_pos h1]; rfl)), (by first | (simp only [sp_X7_recall_s, sp_X7_recall_th, sp_X7_recall_sa, if_pos h1]; done) | (simp only [sp_X7_recall_s, sp_X7_recall_th, sp_X7_recall_sa, if_pos h1]; rfl))⟩
set_option maxRecDepth 100000 in
theorem k_X7_mixIn (l : Launch) (g : xGt) (am : Nat → Nat) (s fi tx dm : Nat → Int32) (th sa ln pa le sk nu : Int32) (h : Int64) (v : Int64) : xM l g.1 (xT g) yX7_mixIn (ws_ yX7_mixIn cX7_mixIn 3 none) (xRm 0 0 0 0) 0 0 [.ref (am 0), .long v] (wMo g am s fi tx dm th sa ln pa le sk nu h) (fun r9 w9 => r9 = none ∧ w9 = (wMo g am s fi tx dm th sa ln pa le sk nu ((31 * h) + v))) (fun _ _ => False) := by
  refine x_start (own := RX7) (nm := "mixIn") rfl rfl (by decide +kernel) rfl (nle rfl) (fun p e σ m args below meth c A C hno hr => ?_)
  refine x_lve (lv' := [(0, .ref (am 0)), (1, .long v)]) rfl ?_
  refine x_aload_n C 0 rfl rfl dX7_mixIn_0 ?_
  refine x_ldc2 C wKL_X7_165 dX7_mixIn_1 ?_
  refine x_aload_n C 0 rfl rfl dX7_mixIn_4 ?_
  refine x_get C 0 7 11 rfl rfl wLy_X7 wFL_X7_167 rfl (by decide) rfl dX7_mixIn_5 ?_
  refine x_lmul C dX7_mixIn_8 ?_
  refine x_lload_n C 1 rfl rfl dX7_mixIn_9 ?_
  refine x_ladd C dX7_mixIn_10 ?_
  refine x_put C 0 7 11 tyX7 (wMo g am s fi tx dm th sa ln pa le sk nu ((31 * h) + v)) rfl rfl rfl wLy_X7 tyX7_ok nmX7 wFL_X7_167 rfl (by decide) rfl rfl rfl rfl (nlt rfl) dX7_mixIn_11 ?_
  exact x_vret C hr (nle rfl) (nle rfl) dX7_mixIn_14 ⟨rfl, rfl⟩
