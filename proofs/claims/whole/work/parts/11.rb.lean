def sp_moved_by (s : Nat → Int32) (k : Nat) : Int32 := (sp_X7_within ((s (0 + 87 + 10 * k + 7)) - (s (0 + 87 + 10 * k + 8))) (-(if (s 148) ≤ (s (0 + 87 + 10 * k + 4)) then (s 148) else (s (0 + 87 + 10 * k + 4)))) (if (s 148) ≤ (s (0 + 87 + 10 * k + 4)) then (s 148) else (s (0 + 87 + 10 * k + 4))))
def sp_X7_moved_s (s : Nat → Int32) (k : Nat) : Nat → Int32 := (upd (upd (upd s (0 + 87 + 10 * k + 8) ((s (0 + 87 + 10 * k + 8)) + (sp_moved_by s k))) (0 + 87 + 10 * k + 9) (((upd s (0 + 87 + 10 * k + 8) ((s (0 + 87 + 10 * k + 8)) + (sp_moved_by s k))) (0 + 87 + 10 * k + 9)) + (sp_X7_size (sp_moved_by s k)))) 148 (((upd (upd s (0 + 87 + 10 * k + 8) ((s (0 + 87 + 10 * k + 8)) + (sp_moved_by s k))) (0 + 87 + 10 * k + 9) (((upd s (0 + 87 + 10 * k + 8) ((s (0 + 87 + 10 * k + 8)) + (sp_moved_by s k))) (0 + 87 + 10 * k + 9)) + (sp_X7_size (sp_moved_by s k)))) 148) - (sp_X7_size (sp_moved_by s k))))
set_option maxRecDepth 100000 in
theorem k_X7_moved (l : Launch) (g : xGt) (am : Nat → Nat) (s fi tx dm : Nat → Int32) (th sa ln pa le sk nu : Int32) (h : Int64) (x_k : Int32) (k : Nat) (e_k : x_k = nI k) (hk : k < 6) : xM l g.1 (xT g) yX7_moved (ws_ yX7_moved cX7_moved 4 (some .int)) (xRm 1 24 0 0) 0 0 [.ref (am 0), .int x_k] (wMo g am s fi tx dm th sa ln pa le sk nu h) (fun r9 w9 => r9 = some (.int (sp_X7_size (sp_moved_by s k))) ∧ w9 = (wMo g am (sp_X7_moved_s s k) fi tx dm th sa ln pa le sk nu h)) (fun _ _ => False) := by
  subst e_k
  refine x_start (own := RX7) (nm := "moved") rfl rfl (by decide +kernel) rfl (nle rfl) (fun p e σ m args below meth c A C hno hr => ?_)
  refine x_lve (lv' := [(0, .ref (am 0)), (1, .int (nI k))]) rfl ?_
  refine x_aload_n C 0 rfl rfl dX7_moved_0 ?_
  refine x_iconst C 0 (by decide) dX7_moved_1 ?_
  refine x_iload_n C 1 rfl rfl dX7_moved_2 ?_
  refine x_bipush C 7 (by decide) dX7_moved_3 ?_
  refine x_FV (w1 := ([] : va_W)) (wc := (wMo g am s fi tx dm th sa ln pa le sk nu h)) (w2 := ([] : va_W)) [.int 0, .int (nI k), .int 7] [] (wMo g am s fi tx dm th sa ln pa le sk nu h) C (k_X7_of l g am s fi tx dm th sa ln pa le sk nu h 0 0 rfl (nI k) k rfl 7 7 rfl (by omega)) rfl yV_X7_of wML_X7_57 rfl 0 rfl rfl rfl rfl (nle rfl) (nle rfl) (nle rfl) (nle rfl) (nle rfl) dX7_moved_5 ?_
  refine x_aload_n C 0 rfl rfl dX7_moved_8 ?_
  refine x_iconst C 0 (by decide) dX7_moved_9 ?_
  refine x_iload_n C 1 rfl rfl dX7_moved_10 ?_
  refine x_bipush C 8 (by decide) dX7_moved_11 ?_
  refine x_FV (w1 := ([] : va_W)) (wc := (wMo g am s fi tx dm th sa ln pa le sk nu h)) (w2 := ([] : va_W)) [.int 0, .int (nI k), .int 8] [.int (s (0 + 87 + 10 * k + 7))] (wMo g am s fi tx dm th sa ln pa le sk nu h) C (k_X7_of l g am s fi tx dm th sa ln pa le sk nu h 0 0 rfl (nI k) k rfl 8 8 rfl (by omega)) rfl yV_X7_of wML_X7_57 rfl 0 rfl rfl rfl rfl (nle rfl) (nle rfl) (nle rfl) (nle rfl) (nle rfl) dX7_moved_13 ?_
  refine x_isub C dX7_moved_16 ?_
  refine x_istore_n C [(2, .int ((s (0 + 87 + 10 * k + 7)) - (s (0 + 87 + 10 * k + 8)))), (0, .ref (am 0)), (1, .int (nI k))] rfl rfl (by decide) dX7_moved_17 ?_
  refine x_aload_n C 1 rfl rfl dX7_moved_18 ?_
  refine x_iconst C 0 (by decide) dX7_moved_19 ?_
  refine x_iload_n C 2 rfl rfl dX7_moved_20 ?_
  refine x_iconst C 4 (by decide) dX7_moved_21 ?_
  refine x_FV (w1 := ([] : va_W)) (wc := (wMo g am s fi tx dm th sa ln pa le sk nu h)) (w2 := ([] : va_W)) [.int 0, .int (nI k), .int 4] [] (wMo g am s fi tx dm th sa ln pa le sk nu h) C (k_X7_of l g am s fi tx dm th sa ln pa le sk nu h 0 0 rfl (nI k) k rfl 4 4 rfl (by omega)) rfl yV_X7_of wML_X7_57 rfl 0 rfl rfl rfl rfl (nle rfl) (nle rfl) (nle rfl) (nle rfl) (nle rfl) dX7_moved_22 ?_
  refine x_aload_n C 1 rfl rfl dX7_moved_25 ?_
  refine x_get C 0 7 1 rfl rfl wLy_X7 wFL_X7_7 rfl (by decide) rfl dX7_moved_26 ?_
  refine x_sipush C 148 (by decide) dX7_moved_29 ?_
  refine x_ialdN (f := s) C 1 0 148 rfl rfl rfl (by omega) (by decide) dX7_moved_32 ?_
  suffices K2 : xW p l e _ σ m args below meth c g.1 A 4 0 0 _ (wMo g am s fi tx dm th sa ln pa le sk nu h) [(2, .int ((s (0 + 87 + 10 * k + 7)) - (s (0 + 87 + 10 * k + 8)))), (0, .ref (am 0)), (1, .int (nI k))] 54 [.int (if (s 148) ≤ (s (0 + 87 + 10 * k + 4)) then (s 148) else (s (0 + 87 + 10 * k + 4)))] by
    refine x_icmp_ge C 46 (by decide) dX7_moved_33 (fun h1 => ?_) (fun h1 => ?_)
    · refine x_aload_n C 1 rfl rfl dX7_moved_46 ?_
      refine x_get C 0 7 1 rfl rfl wLy_X7 wFL_X7_7 rfl (by decide) rfl dX7_moved_47 ?_
      refine x_sipush C 148 (by decide) dX7_moved_50 ?_
      refine x_ialdN (f := s) C 1 0 148 rfl rfl rfl (by omega) (by decide) dX7_moved_53 ?_
      refine x_st (st' := [.int (if (s 148) ≤ (s (0 + 87 + 10 * k + 4)) then (s 148) else (s (0 + 87 + 10 * k + 4)))]) (by simp only [if_pos h1]) ?_
      exact K2
    · refine x_aload_n C 1 rfl rfl dX7_moved_36 ?_
      refine x_iconst C 0 (by decide) dX7_moved_37 ?_
      refine x_iload_n C 2 rfl rfl dX7_moved_38 ?_
      refine x_iconst C 4 (by decide) dX7_moved_39 ?_
      refine x_FV (w1 := ([] : va_W)) (wc := (wMo g am s fi tx dm th sa ln pa le sk nu h)) (w2 := ([] : va_W)) [.int 0, .int (nI k), .int 4] [] (wMo g am s fi tx dm th sa ln pa le sk nu h) C (k_X7_of l g am s fi tx dm th sa ln pa le sk nu h 0 0 rfl (nI k) k rfl 4 4 rfl (by omega)) rfl yV_X7_of wML_X7_57 rfl 0 rfl rfl rfl rfl (nle rfl) (nle rfl) (nle rfl) (nle rfl) (nle rfl) dX7_moved_40 ?_
      refine x_goto C 54 (by decide) dX7_moved_43 ?_
      refine x_st (st' := [.int (if (s 148) ≤ (s (0 + 87 + 10 * k + 4)) then (s 148) else (s (0 + 87 + 10 * k + 4)))]) (by simp only [if_neg h1]) ?_
      exact K2
  refine x_istore_n C [(3, .int (if (s 148) ≤ (s (0 + 87 + 10 * k + 4)) then (s 148) else (s (0 + 87 + 10 * k + 4)))), (2, .int ((s (0 + 87 + 10 * k + 7)) - (s (0 + 87 + 10 * k + 8)))), (0, .ref (am 0)), (1, .int (nI k))] rfl rfl (by decide) dX7_moved_54 ?_
  refine x_iload_n C 1 rfl rfl dX7_moved_55 ?_
  refine x_iload_n C 0 rfl rfl dX7_moved_56 ?_
  refine x_ineg C dX7_moved_57 ?_
  refine x_iload_n C 0 rfl rfl dX7_moved_58 ?_
  refine x_FS (w1 := ([] : va_W)) (wc := ([] : va_W)) (w2 := (wMo g am s fi tx dm th sa ln pa le sk nu h)) [.int ((s (0 + 87 + 10 * k + 7)) - (s (0 + 87 + 10 * k + 8))), .int (-(if (s 148) ≤ (s (0 + 87 + 10 * k + 4)) then (s 148) else (s (0 + 87 + 10 * k + 4)))), .int (if (s 148) ≤ (s (0 + 87 + 10 * k + 4)) then (s 148) else (s (0 + 87 + 10 * k + 4)))] [] (wMo g am s fi tx dm th sa ln pa le sk nu h) C (k_X7_within l g ((s (0 + 87 + 10 * k + 7)) - (s (0 + 87 + 10 * k + 8))) (-(if (s 148) ≤ (s (0 + 87 + 10 * k + 4)) then (s 148) else (s (0 + 87 + 10 * k + 4)))) (if (s 148) ≤ (s (0 + 87 + 10 * k + 4)) then (s 148) else (s (0 + 87 + 10 * k + 4)))) rfl yS_X7_within wML_X7_54 rfl rfl rfl (nle rfl) (nle rfl) (nle rfl) (nle rfl) (nle rfl) dX7_moved_59 ?_
  refine x_istore_n C [(2, .int (sp_X7_within ((s (0 + 87 + 10 * k + 7)) - (s (0 + 87 + 10 * k + 8))) (-(if (s 148) ≤ (s (0 + 87 + 10 * k + 4)) then (s 148) else (s (0 + 87 + 10 * k + 4)))) (if (s 148) ≤ (s (0 + 87 + 10 * k + 4)) then (s 148) else (s (0 + 87 + 10 * k + 4))))), (3, .int (if (s 148) ≤ (s (0 + 87 + 10 * k + 4)) then (s 148) else (s (0 + 87 + 10 * k + 4)))), (0, .ref (am 0)), (1, .int (nI k))] rfl rfl (by decide) dX7_moved_62 ?_
  refine x_lve (lv' := [(2, .int (sp_moved_by s k)), (3, .int (if (s 148) ≤ (s (0 + 87 + 10 * k + 4)) then (s 148) else (s (0 + 87 + 10 * k + 4)))), (0, .ref (am 0)), (1, .int (nI k))]) rfl ?_
  refine x_aload_n C 2 rfl rfl dX7_moved_63 ?_
  refine x_iconst C 0 (by decide) dX7_moved_64 ?_
  refine x_iload_n C 3 rfl rfl dX7_moved_65 ?_
  refine x_bipush C 8 (by decide) dX7_moved_66 ?_
  refine x_aload_n C 2 rfl rfl dX7_moved_68 ?_
  refine x_iconst C 0 (by decide) dX7_moved_69 ?_
  refine x_iload_n C 3 rfl rfl dX7_moved_70 ?_
  refine x_bipush C 8 (by decide) dX7_moved_71 ?_
  refine x_FV (w1 := ([] : va_W)) (wc := (wMo g am s fi tx dm th sa ln pa le sk nu h)) (w2 := ([] : va_W)) [.int 0, .int (nI k), .int 8] [.int 8, .int (nI k), .int 0, .ref (am 0)] (wMo g am s fi tx dm th sa ln pa le sk nu h) C (k_X7_of l g am s fi tx dm th sa ln pa le sk nu h 0 0 rfl (nI k) k rfl 8 8 rfl (by omega)) rfl yV_X7_of wML_X7_57 rfl 0 rfl rfl rfl rfl (nle rfl) (nle rfl) (nle rfl) (nle rfl) (nle rfl) dX7_moved_73 ?_
  refine x_iload_n C 0 rfl rfl dX7_moved_76 ?_
  refine x_iadd C dX7_moved_77 ?_
  refine x_GV (w1 := ([] : va_W)) (wc := (wMo g am s fi tx dm th sa ln pa le sk nu h)) (w2 := ([] : va_W)) [.int 0, .int (nI k), .int 8, .int ((s (0 + 87 + 10 * k + 8)) + (sp_moved_by s k))] [] (wMo g am (upd s (0 + 87 + 10 * k + 8) ((s (0 + 87 + 10 * k + 8)) + (sp_moved_by s k))) fi tx dm th sa ln pa le sk nu h) C (k_X7_lay l g am s fi tx dm th sa ln pa le sk nu h 0 0 rfl (nI k) k rfl 8 8 rfl ((s (0 + 87 + 10 * k + 8)) + (sp_moved_by s k)) (by omega)) rfl yV_X7_lay wML_X7_27 rfl 0 rfl rfl rfl rfl (nle rfl) (nle rfl) (nle rfl) (nle rfl) (nle rfl) dX7_moved_78 ?_
  refine x_aload_n C 2 rfl rfl dX7_moved_81 ?_
  refine x_iconst C 0 (by decide) dX7_moved_82 ?_
  refine x_iload_n C 3 rfl rfl dX7_moved_83 ?_
  refine x_bipush C 9 (by decide) dX7_moved_84 ?_
  refine x_aload_n C 2 rfl rfl dX7_moved_86 ?_
  refine x_iconst C 0 (by decide) dX7_moved_87 ?_
  refine x_iload_n C 3 rfl rfl dX7_moved_88 ?_
  refine x_bipush C 9 (by decide) dX7_moved_89 ?_
  refine x_FV (w1 := ([] : va_W)) (wc := (wMo g am (upd s (0 + 87 + 10 * k + 8) ((s (0 + 87 + 10 * k + 8)) + (sp_moved_by s k))) fi tx dm th sa ln pa le sk nu h)) (w2 := ([] : va_W)) [.int 0, .int (nI k), .int 9] [.int 9, .int (nI k), .int 0, .ref (am 0)] (wMo g am (upd s (0 + 87 + 10 * k + 8) ((s (0 + 87 + 10 * k + 8)) + (sp_moved_by s k))) fi tx dm th sa ln pa le sk nu h) C (k_X7_of l g am (upd s (0 + 87 + 10 * k + 8) ((s (0 + 87 + 10 * k + 8)) + (sp_moved_by s k))) fi tx dm th sa ln pa le sk nu h 0 0 rfl (nI k) k rfl 9 9 rfl (by omega)) rfl yV_X7_of wML_X7_57 rfl 0 rfl rfl rfl rfl (nle rfl) (nle rfl) (nle rfl) (nle rfl) (nle rfl) dX7_moved_91 ?_
  refine x_iload_n C 0 rfl rfl dX7_moved_94 ?_
  refine x_FS (w1 := ([] : va_W)) (wc := ([] : va_W)) (w2 := (wMo g am (upd s (0 + 87 + 10 * k + 8) ((s (0 + 87 + 10 * k + 8)) + (sp_moved_by s k))) fi tx dm th sa ln pa le sk nu h)) [.int (sp_moved_by s k)] [.int ((upd s (0 + 87 + 10 * k + 8) ((s (0 + 87 + 10 * k + 8)) + (sp_moved_by s k))) (0 + 87 + 10 * k + 9)), .int 9, .int (nI k), .int 0, .ref (am 0)] (wMo g am (upd s (0 + 87 + 10 * k + 8) ((s (0 + 87 + 10 * k + 8)) + (sp_moved_by s k))) fi tx dm th sa ln pa le sk nu h) C (k_X7_size l g (sp_moved_by s k)) rfl yS_X7_size wML_X7_70 rfl rfl rfl (nle rfl) (nle rfl) (nle rfl) (nle rfl) (nle rfl) dX7_moved_95 ?_
  refine x_iadd C dX7_moved_98 ?_
  refine x_GV (w1 := ([] : va_W)) (wc := (wMo g am (upd s (0 + 87 + 10 * k + 8) ((s (0 + 87 + 10 * k + 8)) + (sp_moved_by s k))) fi tx dm th sa ln pa le sk nu h)) (w2 := ([] : va_W)) [.int 0, .int (nI k), .int 9, .int (((upd s (0 + 87 + 10 * k + 8) ((s (0 + 87 + 10 * k + 8)) + (sp_moved_by s k))) (0 + 87 + 10 * k + 9)) + (sp_X7_size (sp_moved_by s k)))] [] (wMo g am (upd (upd s (0 + 87 + 10 * k + 8) ((s (0 + 87 + 10 * k + 8)) + (sp_moved_by s k))) (0 + 87 + 10 * k + 9) (((upd s (0 + 87 + 10 * k + 8) ((s (0 + 87 + 10 * k + 8)) + (sp_moved_by s k))) (0 + 87 + 10 * k + 9)) + (sp_X7_size (sp_moved_by s k)))) fi tx dm th sa ln pa le sk nu h) C (k_X7_lay l g am (upd s (0 + 87 + 10 * k + 8) ((s (0 + 87 + 10 * k + 8)) + (sp_moved_by s k))) fi tx dm th sa ln pa le sk nu h 0 0 rfl (nI k) k rfl 9 9 rfl (((upd s (0 + 87 + 10 * k + 8) ((s (0 + 87 + 10 * k + 8)) + (sp_moved_by s k))) (0 + 87 + 10 * k + 9)) + (sp_X7_size (sp_moved_by s k))) (by omega)) rfl yV_X7_lay wML_X7_27 rfl 0 rfl rfl rfl rfl (nle rfl) (nle rfl) (nle rfl) (nle rfl) (nle rfl) dX7_moved_99 ?_
  refine x_aload_n C 2 rfl rfl dX7_moved_102 ?_
  refine x_get C 0 7 1 rfl rfl wLy_X7 wFL_X7_7 rfl (by decide) rfl dX7_moved_103 ?_
  refine x_sipush C 148 (by decide) dX7_moved_106 ?_
  refine x_dup2 C rfl rfl dX7_moved_109 ?_
  refine x_ialdN (f := (upd (upd s (0 + 87 + 10 * k + 8) ((s (0 + 87 + 10 * k + 8)) + (sp_moved_by s k))) (0 + 87 + 10 * k + 9) (((upd s (0 + 87 + 10 * k + 8) ((s (0 + 87 + 10 * k + 8)) + (sp_moved_by s k))) (0 + 87 + 10 * k + 9)) + (sp_X7_size (sp_moved_by s k))))) C 1 0 148 rfl rfl rfl (by omega) (by decide) dX7_moved_110 ?_
  refine x_iload_n C 0 rfl rfl dX7_moved_111 ?_
  refine x_FS (w1 := ([] : va_W)) (wc := ([] : va_W)) (w2 := (wMo g am (upd (upd s (0 + 87 + 10 * k + 8) ((s (0 + 87 + 10 * k + 8)) + (sp_moved_by s k))) (0 + 87 + 10 * k + 9) (((upd s (0 + 87 + 10 * k + 8) ((s (0 + 87 + 10 * k + 8)) + (sp_moved_by s k))) (0 + 87 + 10 * k + 9)) + (sp_X7_size (sp_moved_by s k)))) fi tx dm th sa ln pa le sk nu h)) [.int (sp_moved_by s k)] [.int ((upd (upd s (0 + 87 + 10 * k + 8) ((s (0 + 87 + 10 * k + 8)) + (sp_moved_by s k))) (0 + 87 + 10 * k + 9) (((upd s (0 + 87 + 10 * k + 8) ((s (0 + 87 + 10 * k + 8)) + (sp_moved_by s k))) (0 + 87 + 10 * k + 9)) + (sp_X7_size (sp_moved_by s k)))) 148), .int 148, .ref (am 1)] (wMo g am (upd (upd s (0 + 87 + 10 * k + 8) ((s (0 + 87 + 10 * k + 8)) + (sp_moved_by s k))) (0 + 87 + 10 * k + 9) (((upd s (0 + 87 + 10 * k + 8) ((s (0 + 87 + 10 * k + 8)) + (sp_moved_by s k))) (0 + 87 + 10 * k + 9)) + (sp_X7_size (sp_moved_by s k)))) fi tx dm th sa ln pa le sk nu h) C (k_X7_size l g (sp_moved_by s k)) rfl yS_X7_size wML_X7_70 rfl rfl rfl (nle rfl) (nle rfl) (nle rfl) (nle rfl) (nle rfl) dX7_moved_112 ?_
  refine x_isub C dX7_moved_115 ?_
  refine x_iastN (f := (upd (upd s (0 + 87 + 10 * k + 8) ((s (0 + 87 + 10 * k + 8)) + (sp_moved_by s k))) (0 + 87 + 10 * k + 9) (((upd s (0 + 87 + 10 * k + 8) ((s (0 + 87 + 10 * k + 8)) + (sp_moved_by s k))) (0 + 87 + 10 * k + 9)) + (sp_X7_size (sp_moved_by s k))))) C 1 0 148 (wMo g am (upd (upd (upd s (0 + 87 + 10 * k + 8) ((s (0 + 87 + 10 * k + 8)) + (sp_moved_by s k))) (0 + 87 + 10 * k + 9) (((upd s (0 + 87 + 10 * k + 8) ((s (0 + 87 + 10 * k + 8)) + (sp_moved_by s k))) (0 + 87 + 10 * k + 9)) + (sp_X7_size (sp_moved_by s k)))) 148 (((upd (upd s (0 + 87 + 10 * k + 8) ((s (0 + 87 + 10 * k + 8)) + (sp_moved_by s k))) (0 + 87 + 10 * k + 9) (((upd s (0 + 87 + 10 * k + 8) ((s (0 + 87 + 10 * k + 8)) + (sp_moved_by s k))) (0 + 87 + 10 * k + 9)) + (sp_X7_size (sp_moved_by s k)))) 148) - (sp_X7_size (sp_moved_by s k)))) fi tx dm th sa ln pa le sk nu h) rfl rfl rfl rfl (by omega) (by decide) dX7_moved_116 ?_
  refine x_iload_n C 0 rfl rfl dX7_moved_117 ?_
  refine x_FS (w1 := ([] : va_W)) (wc := ([] : va_W)) (w2 := (wMo g am (upd (upd (upd s (0 + 87 + 10 * k + 8) ((s (0 + 87 + 10 * k + 8)) + (sp_moved_by s k))) (0 + 87 + 10 * k + 9) (((upd s (0 + 87 + 10 * k + 8) ((s (0 + 87 + 10 * k + 8)) + (sp_moved_by s k))) (0 + 87 + 10 * k + 9)) + (sp_X7_size (sp_moved_by s k)))) 148 (((upd (upd s (0 + 87 + 10 * k + 8) ((s (0 + 87 + 10 * k + 8)) + (sp_moved_by s k))) (0 + 87 + 10 * k + 9) (((upd s (0 + 87 + 10 * k + 8) ((s (0 + 87 + 10 * k + 8)) + (sp_moved_by s k))) (0 + 87 + 10 * k + 9)) + (sp_X7_size (sp_moved_by s k)))) 148) - (sp_X7_size (sp_moved_by s k)))) fi tx dm th sa ln pa le sk nu h)) [.int (sp_moved_by s k)] [] (wMo g am (upd (upd (upd s (0 + 87 + 10 * k + 8) ((s (0 + 87 + 10 * k + 8)) + (sp_moved_by s k))) (0 + 87 + 10 * k + 9) (((upd s (0 + 87 + 10 * k + 8) ((s (0 + 87 + 10 * k + 8)) + (sp_moved_by s k))) (0 + 87 + 10 * k + 9)) + (sp_X7_size (sp_moved_by s k)))) 148 (((upd (upd s (0 + 87 + 10 * k + 8) ((s (0 + 87 + 10 * k + 8)) + (sp_moved_by s k))) (0 + 87 + 10 * k + 9) (((upd s (0 + 87 + 10 * k + 8) ((s (0 + 87 + 10 * k + 8)) + (sp_moved_by s k))) (0 + 87 + 10 * k + 9)) + (sp_X7_size (sp_moved_by s k)))) 148) - (sp_X7_size (sp_moved_by s k)))) fi tx dm th sa ln pa le sk nu h) C (k_X7_size l g (sp_moved_by s k)) rfl yS_X7_size wML_X7_70 rfl rfl rfl (nle rfl) (nle rfl) (nle rfl) (nle rfl) (nle rfl) dX7_moved_118 ?_
  exact x_iret C hr (nle rfl) (nle rfl) dX7_moved_121 ⟨rfl, (by first | (simp only [sp_X7_moved_s]; done) | (simp only [sp_X7_moved_s]; rfl))⟩
def sp_targ (s : Nat → Int32) (dm : Nat → Int32) (zr : Int32) (zo : Int32) (a0 : (Nat → Int32)) : Nat → (Nat → Int32)
  | 0 => a0
  | i1 + 1 => (upd (sp_targ s dm zr zo a0 i1) (0 + 87 + 10 * i1 + 7) (if (if zo = 0 then (0 : Int32) else (if ((sp_targ s dm zr zo a0 i1) (0 + 87 + 10 * i1 + 5)) = 1 then (1 : Int32) else 0)) = 0 then (if zr = 0 then ((sp_targ s dm zr zo a0 i1) (0 + 87 + 10 * i1 + 7)) else (sp_X7_within (sp_X7_raw (sp_targ s dm zr zo a0 i1) (sp_dems s 0 dm 6) 0 i1) ((sp_targ s dm zr zo a0 i1) (0 + 87 + 10 * i1 + 2)) ((sp_targ s dm zr zo a0 i1) (0 + 87 + 10 * i1 + 3)))) else (sp_X7_within ((sp_targ s dm zr zo a0 i1) (0 + 87 + 10 * i1 + 6)) ((sp_targ s dm zr zo a0 i1) (0 + 87 + 10 * i1 + 2)) ((sp_targ s dm zr zo a0 i1) (0 + 87 + 10 * i1 + 3)))))
set_option maxRecDepth 100000 in
theorem k_X7_targets (l : Launch) (g : xGt) (am : Nat → Nat) (s fi tx dm : Nat → Int32) (th sa ln pa le sk nu : Int32) (h : Int64) (zr : Int32) (b_zr : zr = 0 ∨ zr = 1) (zo : Int32) (b_zo : zo = 0 ∨ zo = 1) (hm : rOk s 0) : xM l g.1 (xT g) yX7_targets (ws_ yX7_targets cX7_targets 6 none) (xRm 4 94 0 0) 0 0 [.ref (am 0), .int zr, .int zo] (wMo g am s fi tx dm th sa ln pa le sk nu h) (fun r9 w9 => r9 = none ∧ w9 = (wMo g am (sp_targ s dm zr zo s 6) fi tx (sp_dems s 0 dm 6) th sa ln pa le sk nu h)) (fun _ _ => False) := by
  have hm2 := hm.2.1
  refine x_start (own := RX7) (nm := "targets") rfl rfl (by decide +kernel) rfl (nle rfl) (fun p e σ m args below meth c A C hno hr => ?_)
  refine x_lve (lv' := [(0, .ref (am 0)), (1, .int zr), (2, .int zo)]) rfl ?_
  refine x_aload_n C 0 rfl rfl dX7_targets_0 ?_
  refine x_iconst C 0 (by decide) dX7_targets_1 ?_
  refine x_GV (w1 := ([] : va_W)) (wc := (wMo g am s fi tx dm th sa ln pa le sk nu h)) (w2 := ([] : va_W)) [.int 0] [] (wMo g am s fi tx (sp_dems s 0 dm 6) th sa ln pa le sk nu h) C (k_X7_demandsLaid l g am s fi tx dm th sa ln pa le sk nu h 0 0 rfl (by omega) hm) rfl yV_X7_demandsLaid wML_X7_63 rfl 0 rfl rfl rfl rfl (nle rfl) (nle rfl) (nle rfl) (nle rfl) (nle rfl) dX7_targets_2 ?_
  refine x_iconst C 0 (by decide) dX7_targets_5 ?_
  refine x_istore_n C [(3, .int 0), (0, .ref (am 0)), (1, .int zr), (2, .int zo)] rfl rfl (by decide) dX7_targets_6 ?_
  suffices L1 : ∀ (n1 i1 : Nat), i1 + n1 = 6 → xW p l e _ σ m args below meth c g.1 A 6 0 0 _ (wMo g am (sp_targ s dm zr zo s i1) fi tx (sp_dems s 0 dm 6) th sa ln pa le sk nu h) [(3, .int (nI i1)), (0, .ref (am 0)), (1, .int zr), (2, .int zo)] 7 [] by
    exact L1 (6) 0 (by omega)
  intro n1
  induction n1 with
  | zero =>
    intro i1 hn1
    obtain rfl : i1 = 6 := by omega
    refine x_iload_n C 0 rfl rfl dX7_targets_7 ?_
    refine x_bipush C 6 (by decide) dX7_targets_8 ?_
    refine x_icmp_ge C 107 (by decide) dX7_targets_10 (fun _ => ?_) (fun hz => absurd (xge (show (6 : Int32) = nI 6 from rfl) rfl (by omega) (by omega)) hz)
    exact x_vret C hr (nle rfl) (nle rfl) dX7_targets_107 ⟨rfl, rfl⟩
  | succ n1 ih1 =>
    intro i1 hn1
    refine x_iload_n C 0 rfl rfl dX7_targets_7 ?_
    refine x_bipush C 6 (by decide) dX7_targets_8 ?_
    refine x_icmp_ge C 107 (by decide) dX7_targets_10 (fun hz => absurd hz (xnge (show (6 : Int32) = nI 6 from rfl) rfl (by omega) (by omega))) (fun _ => ?_)
    refine x_iload_n C 2 rfl rfl dX7_targets_13 ?_
    suffices K3 : xW p l e _ σ m args below meth c g.1 A 6 0 0 _ (wMo g am (sp_targ s dm zr zo s i1) fi tx (sp_dems s 0 dm 6) th sa ln pa le sk nu h) [(3, .int (nI i1)), (0, .ref (am 0)), (1, .int zr), (2, .int zo)] 34 [.int (if zr = 0 then ((sp_targ s dm zr zo s i1) (0 + 87 + 10 * i1 + 7)) else (sp_X7_within (sp_X7_raw (sp_targ s dm zr zo s i1) (sp_dems s 0 dm 6) 0 i1) ((sp_targ s dm zr zo s i1) (0 + 87 + 10 * i1 + 2)) ((sp_targ s dm zr zo s i1) (0 + 87 + 10 * i1 + 3))))] by
      refine x_if_eq C 26 (by decide) dX7_targets_14 (fun h2 => ?_) (fun h2 => ?_)
      · refine x_aload_n C 1 rfl rfl dX7_targets_26 ?_
        refine x_iconst C 0 (by decide) dX7_targets_27 ?_
        refine x_iload_n C 0 rfl rfl dX7_targets_28 ?_
        refine x_bipush C 7 (by decide) dX7_targets_29 ?_
        refine x_FV (w1 := ([] : va_W)) (wc := (wMo g am (sp_targ s dm zr zo s i1) fi tx (sp_dems s 0 dm 6) th sa ln pa le sk nu h)) (w2 := ([] : va_W)) [.int 0, .int (nI i1), .int 7] [] (wMo g am (sp_targ s dm zr zo s i1) fi tx (sp_dems s 0 dm 6) th sa ln pa le sk nu h) C (k_X7_of l g am (sp_targ s dm zr zo s i1) fi tx (sp_dems s 0 dm 6) th sa ln pa le sk nu h 0 0 rfl (nI i1) i1 rfl 7 7 rfl (by omega)) rfl yV_X7_of wML_X7_57 rfl 0 rfl rfl rfl rfl (nle rfl) (nle rfl) (nle rfl) (nle rfl) (nle rfl) dX7_targets_31 ?_
        refine x_st (st' := [.int (if zr = 0 then ((sp_targ s dm zr zo s i1) (0 + 87 + 10 * i1 + 7)) else (sp_X7_within (sp_X7_raw (sp_targ s dm zr zo s i1) (sp_dems s 0 dm 6) 0 i1) ((sp_targ s dm zr zo s i1) (0 + 87 + 10 * i1 + 2)) ((sp_targ s dm zr zo s i1) (0 + 87 + 10 * i1 + 3))))]) (by simp only [if_pos h2]) ?_
        exact K3
      · refine x_aload_n C 1 rfl rfl dX7_targets_17 ?_
        refine x_iconst C 0 (by decide) dX7_targets_18 ?_
        refine x_iload_n C 0 rfl rfl dX7_targets_19 ?_
        refine x_FV (w1 := ([] : va_W)) (wc := (wMo g am (sp_targ s dm zr zo s i1) fi tx (sp_dems s 0 dm 6) th sa ln pa le sk nu h)) (w2 := ([] : va_W)) [.int 0, .int (nI i1)] [] (wMo g am (sp_targ s dm zr zo s i1) fi tx (sp_dems s 0 dm 6) th sa ln pa le sk nu h) C (k_X7_aimed l g am (sp_targ s dm zr zo s i1) fi tx (sp_dems s 0 dm 6) th sa ln pa le sk nu h 0 0 rfl (nI i1) i1 rfl (by omega) (by omega)) rfl yV_X7_aimed wML_X7_67 rfl 0 rfl rfl rfl rfl (nle rfl) (nle rfl) (nle rfl) (nle rfl) (nle rfl) dX7_targets_20 ?_
        refine x_goto C 34 (by decide) dX7_targets_23 ?_
        refine x_st (st' := [.int (if zr = 0 then ((sp_targ s dm zr zo s i1) (0 + 87 + 10 * i1 + 7)) else (sp_X7_within (sp_X7_raw (sp_targ s dm zr zo s i1) (sp_dems s 0 dm 6) 0 i1) ((sp_targ s dm zr zo s i1) (0 + 87 + 10 * i1 + 2)) ((sp_targ s dm zr zo s i1) (0 + 87 + 10 * i1 + 3))))]) (by simp only [if_neg h2]) ?_
        exact K3
    refine x_istore C [(4, .int (if zr = 0 then ((sp_targ s dm zr zo s i1) (0 + 87 + 10 * i1 + 7)) else (sp_X7_within (sp_X7_raw (sp_targ s dm zr zo s i1) (sp_dems s 0 dm 6) 0 i1) ((sp_targ s dm zr zo s i1) (0 + 87 + 10 * i1 + 2)) ((sp_targ s dm zr zo s i1) (0 + 87 + 10 * i1 + 3))))), (3, .int (nI i1)), (0, .ref (am 0)), (1, .int zr), (2, .int zo)] rfl (by decide) dX7_targets_34 ?_
    refine x_iload_n C 4 rfl rfl dX7_targets_36 ?_
    suffices K5 : xW p l e _ σ m args below meth c g.1 A 6 0 0 _ (wMo g am (sp_targ s dm zr zo s i1) fi tx (sp_dems s 0 dm 6) th sa ln pa le sk nu h) [(4, .int (if zr = 0 then ((sp_targ s dm zr zo s i1) (0 + 87 + 10 * i1 + 7)) else (sp_X7_within (sp_X7_raw (sp_targ s dm zr zo s i1) (sp_dems s 0 dm 6) 0 i1) ((sp_targ s dm zr zo s i1) (0 + 87 + 10 * i1 + 2)) ((sp_targ s dm zr zo s i1) (0 + 87 + 10 * i1 + 3))))), (3, .int (nI i1)), (0, .ref (am 0)), (1, .int zr), (2, .int zo)] 56 [.int (if zo = 0 then (0 : Int32) else (if ((sp_targ s dm zr zo s i1) (0 + 87 + 10 * i1 + 5)) = 1 then (1 : Int32) else 0))] by
      refine x_if_eq C 55 (by decide) dX7_targets_37 (fun h4 => ?_) (fun h4 => ?_)
      · refine x_iconst C 0 (by decide) dX7_targets_55 ?_
        refine x_st (st' := [.int (if zo = 0 then (0 : Int32) else (if ((sp_targ s dm zr zo s i1) (0 + 87 + 10 * i1 + 5)) = 1 then (1 : Int32) else 0))]) (by simp only [if_pos h4]) ?_
        exact K5
      · refine x_aload_n C 2 rfl rfl dX7_targets_40 ?_
        refine x_iconst C 0 (by decide) dX7_targets_41 ?_
        refine x_iload_n C 1 rfl rfl dX7_targets_42 ?_
        refine x_iconst C 5 (by decide) dX7_targets_43 ?_
        refine x_FV (w1 := ([] : va_W)) (wc := (wMo g am (sp_targ s dm zr zo s i1) fi tx (sp_dems s 0 dm 6) th sa ln pa le sk nu h)) (w2 := ([] : va_W)) [.int 0, .int (nI i1), .int 5] [] (wMo g am (sp_targ s dm zr zo s i1) fi tx (sp_dems s 0 dm 6) th sa ln pa le sk nu h) C (k_X7_of l g am (sp_targ s dm zr zo s i1) fi tx (sp_dems s 0 dm 6) th sa ln pa le sk nu h 0 0 rfl (nI i1) i1 rfl 5 5 rfl (by omega)) rfl yV_X7_of wML_X7_57 rfl 0 rfl rfl rfl rfl (nle rfl) (nle rfl) (nle rfl) (nle rfl) (nle rfl) dX7_targets_44 ?_
        refine x_iconst C 1 (by decide) dX7_targets_47 ?_
        refine x_icmp_ne C 55 (by decide) dX7_targets_48 (fun h5 => ?_) (fun h5 => ?_)
        · refine x_iconst C 0 (by decide) dX7_targets_55 ?_
          refine x_st (st' := [.int (if zo = 0 then (0 : Int32) else (if ((sp_targ s dm zr zo s i1) (0 + 87 + 10 * i1 + 5)) = 1 then (1 : Int32) else 0))]) (by simp only [if_neg h4, if_neg h5]) ?_
          exact K5
        · refine x_iconst C 1 (by decide) dX7_targets_51 ?_
          refine x_goto C 56 (by decide) dX7_targets_52 ?_
          refine x_st (st' := [.int (if zo = 0 then (0 : Int32) else (if ((sp_targ s dm zr zo s i1) (0 + 87 + 10 * i1 + 5)) = 1 then (1 : Int32) else 0))]) (by simp only [if_neg h4, if_pos h5]) ?_
          exact K5
    refine x_istore C [(5, .int (if zo = 0 then (0 : Int32) else (if ((sp_targ s dm zr zo s i1) (0 + 87 + 10 * i1 + 5)) = 1 then (1 : Int32) else 0))), (4, .int (if zr = 0 then ((sp_targ s dm zr zo s i1) (0 + 87 + 10 * i1 + 7)) else (sp_X7_within (sp_X7_raw (sp_targ s dm zr zo s i1) (sp_dems s 0 dm 6) 0 i1) ((sp_targ s dm zr zo s i1) (0 + 87 + 10 * i1 + 2)) ((sp_targ s dm zr zo s i1) (0 + 87 + 10 * i1 + 3))))), (3, .int (nI i1)), (0, .ref (am 0)), (1, .int zr), (2, .int zo)] rfl (by decide) dX7_targets_56 ?_
    refine x_aload_n C 3 rfl rfl dX7_targets_58 ?_
    refine x_iconst C 0 (by decide) dX7_targets_59 ?_
    refine x_iload_n C 2 rfl rfl dX7_targets_60 ?_
    refine x_bipush C 7 (by decide) dX7_targets_61 ?_
    refine x_iload C 0 rfl dX7_targets_63 ?_
    suffices K8 : xW p l e _ σ m args below meth c g.1 A 6 0 0 _ (wMo g am (sp_targ s dm zr zo s i1) fi tx (sp_dems s 0 dm 6) th sa ln pa le sk nu h) [(5, .int (if zo = 0 then (0 : Int32) else (if ((sp_targ s dm zr zo s i1) (0 + 87 + 10 * i1 + 5)) = 1 then (1 : Int32) else 0))), (4, .int (if zr = 0 then ((sp_targ s dm zr zo s i1) (0 + 87 + 10 * i1 + 7)) else (sp_X7_within (sp_X7_raw (sp_targ s dm zr zo s i1) (sp_dems s 0 dm 6) 0 i1) ((sp_targ s dm zr zo s i1) (0 + 87 + 10 * i1 + 2)) ((sp_targ s dm zr zo s i1) (0 + 87 + 10 * i1 + 3))))), (3, .int (nI i1)), (0, .ref (am 0)), (1, .int zr), (2, .int zo)] 98 [.int (if (if zo = 0 then (0 : Int32) else (if ((sp_targ s dm zr zo s i1) (0 + 87 + 10 * i1 + 5)) = 1 then (1 : Int32) else 0)) = 0 then (if zr = 0 then ((sp_targ s dm zr zo s i1) (0 + 87 + 10 * i1 + 7)) else (sp_X7_within (sp_X7_raw (sp_targ s dm zr zo s i1) (sp_dems s 0 dm 6) 0 i1) ((sp_targ s dm zr zo s i1) (0 + 87 + 10 * i1 + 2)) ((sp_targ s dm zr zo s i1) (0 + 87 + 10 * i1 + 3)))) else (sp_X7_within ((sp_targ s dm zr zo s i1) (0 + 87 + 10 * i1 + 6)) ((sp_targ s dm zr zo s i1) (0 + 87 + 10 * i1 + 2)) ((sp_targ s dm zr zo s i1) (0 + 87 + 10 * i1 + 3)))), .int 7, .int (nI i1), .int 0, .ref (am 0)] by
      refine x_if_eq C 96 (by decide) dX7_targets_65 (fun h7 => ?_) (fun h7 => ?_)
      · refine x_iload C 1 rfl dX7_targets_96 ?_
        refine x_st (st' := [.int (if (if zo = 0 then (0 : Int32) else (if ((sp_targ s dm zr zo s i1) (0 + 87 + 10 * i1 + 5)) = 1 then (1 : Int32) else 0)) = 0 then (if zr = 0 then ((sp_targ s dm zr zo s i1) (0 + 87 + 10 * i1 + 7)) else (sp_X7_within (sp_X7_raw (sp_targ s dm zr zo s i1) (sp_dems s 0 dm 6) 0 i1) ((sp_targ s dm zr zo s i1) (0 + 87 + 10 * i1 + 2)) ((sp_targ s dm zr zo s i1) (0 + 87 + 10 * i1 + 3)))) else (sp_X7_within ((sp_targ s dm zr zo s i1) (0 + 87 + 10 * i1 + 6)) ((sp_targ s dm zr zo s i1) (0 + 87 + 10 * i1 + 2)) ((sp_targ s dm zr zo s i1) (0 + 87 + 10 * i1 + 3)))), .int 7, .int (nI i1), .int 0, .ref (am 0)]) (by simp only [if_pos h7]) ?_
        exact K8
      · refine x_aload_n C 3 rfl rfl dX7_targets_68 ?_
        refine x_iconst C 0 (by decide) dX7_targets_69 ?_
        refine x_iload_n C 2 rfl rfl dX7_targets_70 ?_
        refine x_bipush C 6 (by decide) dX7_targets_71 ?_
        refine x_FV (w1 := ([] : va_W)) (wc := (wMo g am (sp_targ s dm zr zo s i1) fi tx (sp_dems s 0 dm 6) th sa ln pa le sk nu h)) (w2 := ([] : va_W)) [.int 0, .int (nI i1), .int 6] [.int 7, .int (nI i1), .int 0, .ref (am 0)] (wMo g am (sp_targ s dm zr zo s i1) fi tx (sp_dems s 0 dm 6) th sa ln pa le sk nu h) C (k_X7_of l g am (sp_targ s dm zr zo s i1) fi tx (sp_dems s 0 dm 6) th sa ln pa le sk nu h 0 0 rfl (nI i1) i1 rfl 6 6 rfl (by omega)) rfl yV_X7_of wML_X7_57 rfl 0 rfl rfl rfl rfl (nle rfl) (nle rfl) (nle rfl) (nle rfl) (nle rfl) dX7_targets_73 ?_
        refine x_aload_n C 3 rfl rfl dX7_targets_76 ?_
        refine x_iconst C 0 (by decide) dX7_targets_77 ?_
        refine x_iload_n C 2 rfl rfl dX7_targets_78 ?_
        refine x_iconst C 2 (by decide) dX7_targets_79 ?_
        refine x_FV (w1 := ([] : va_W)) (wc := (wMo g am (sp_targ s dm zr zo s i1) fi tx (sp_dems s 0 dm 6) th sa ln pa le sk nu h)) (w2 := ([] : va_W)) [.int 0, .int (nI i1), .int 2] [.int ((sp_targ s dm zr zo s i1) (0 + 87 + 10 * i1 + 6)), .int 7, .int (nI i1), .int 0, .ref (am 0)] (wMo g am (sp_targ s dm zr zo s i1) fi tx (sp_dems s 0 dm 6) th sa ln pa le sk nu h) C (k_X7_of l g am (sp_targ s dm zr zo s i1) fi tx (sp_dems s 0 dm 6) th sa ln pa le sk nu h 0 0 rfl (nI i1) i1 rfl 2 2 rfl (by omega)) rfl yV_X7_of wML_X7_57 rfl 0 rfl rfl rfl rfl (nle rfl) (nle rfl) (nle rfl) (nle rfl) (nle rfl) dX7_targets_80 ?_
        refine x_aload_n C 3 rfl rfl dX7_targets_83 ?_
        refine x_iconst C 0 (by decide) dX7_targets_84 ?_
        refine x_iload_n C 2 rfl rfl dX7_targets_85 ?_
        refine x_iconst C 3 (by decide) dX7_targets_86 ?_
        refine x_FV (w1 := ([] : va_W)) (wc := (wMo g am (sp_targ s dm zr zo s i1) fi tx (sp_dems s 0 dm 6) th sa ln pa le sk nu h)) (w2 := ([] : va_W)) [.int 0, .int (nI i1), .int 3] [.int ((sp_targ s dm zr zo s i1) (0 + 87 + 10 * i1 + 2)), .int ((sp_targ s dm zr zo s i1) (0 + 87 + 10 * i1 + 6)), .int 7, .int (nI i1), .int 0, .ref (am 0)] (wMo g am (sp_targ s dm zr zo s i1) fi tx (sp_dems s 0 dm 6) th sa ln pa le sk nu h) C (k_X7_of l g am (sp_targ s dm zr zo s i1) fi tx (sp_dems s 0 dm 6) th sa ln pa le sk nu h 0 0 rfl (nI i1) i1 rfl 3 3 rfl (by omega)) rfl yV_X7_of wML_X7_57 rfl 0 rfl rfl rfl rfl (nle rfl) (nle rfl) (nle rfl) (nle rfl) (nle rfl) dX7_targets_87 ?_
        refine x_FS (w1 := ([] : va_W)) (wc := ([] : va_W)) (w2 := (wMo g am (sp_targ s dm zr zo s i1) fi tx (sp_dems s 0 dm 6) th sa ln pa le sk nu h)) [.int ((sp_targ s dm zr zo s i1) (0 + 87 + 10 * i1 + 6)), .int ((sp_targ s dm zr zo s i1) (0 + 87 + 10 * i1 + 2)), .int ((sp_targ s dm zr zo s i1) (0 + 87 + 10 * i1 + 3))] [.int 7, .int (nI i1), .int 0, .ref (am 0)] (wMo g am (sp_targ s dm zr zo s i1) fi tx (sp_dems s 0 dm 6) th sa ln pa le sk nu h) C (k_X7_within l g ((sp_targ s dm zr zo s i1) (0 + 87 + 10 * i1 + 6)) ((sp_targ s dm zr zo s i1) (0 + 87 + 10 * i1 + 2)) ((sp_targ s dm zr zo s i1) (0 + 87 + 10 * i1 + 3))) rfl yS_X7_within wML_X7_54 rfl rfl rfl (nle rfl) (nle rfl) (nle rfl) (nle rfl) (nle rfl) dX7_targets_90 ?_
        refine x_goto C 98 (by decide) dX7_targets_93 ?_
        refine x_st (st' := [.int (if (if zo = 0 then (0 : Int32) else (if ((sp_targ s dm zr zo s i1) (0 + 87 + 10 * i1 + 5)) = 1 then (1 : Int32) else 0)) = 0 then (if zr = 0 then ((sp_targ s dm zr zo s i1) (0 + 87 + 10 * i1 + 7)) else (sp_X7_within (sp_X7_raw (sp_targ s dm zr zo s i1) (sp_dems s 0 dm 6) 0 i1) ((sp_targ s dm zr zo s i1) (0 + 87 + 10 * i1 + 2)) ((sp_targ s dm zr zo s i1) (0 + 87 + 10 * i1 + 3)))) else (sp_X7_within ((sp_targ s dm zr zo s i1) (0 + 87 + 10 * i1 + 6)) ((sp_targ s dm zr zo s i1) (0 + 87 + 10 * i1 + 2)) ((sp_targ s dm zr zo s i1) (0 + 87 + 10 * i1 + 3)))), .int 7, .int (nI i1), .int 0, .ref (am 0)]) (by simp only [if_neg h7]) ?_
        exact K8
    refine x_GV (w1 := ([] : va_W)) (wc := (wMo g am (sp_targ s dm zr zo s i1) fi tx (sp_dems s 0 dm 6) th sa ln pa le sk nu h)) (w2 := ([] : va_W)) [.int 0, .int (nI i1), .int 7, .int (if (if zo = 0 then (0 : Int32) else (if ((sp_targ s dm zr zo s i1) (0 + 87 + 10 * i1 + 5)) = 1 then (1 : Int32) else 0)) = 0 then (if zr = 0 then ((sp_targ s dm zr zo s i1) (0 + 87 + 10 * i1 + 7)) else (sp_X7_within (sp_X7_raw (sp_targ s dm zr zo s i1) (sp_dems s 0 dm 6) 0 i1) ((sp_targ s dm zr zo s i1) (0 + 87 + 10 * i1 + 2)) ((sp_targ s dm zr zo s i1) (0 + 87 + 10 * i1 + 3)))) else (sp_X7_within ((sp_targ s dm zr zo s i1) (0 + 87 + 10 * i1 + 6)) ((sp_targ s dm zr zo s i1) (0 + 87 + 10 * i1 + 2)) ((sp_targ s dm zr zo s i1) (0 + 87 + 10 * i1 + 3))))] [] (wMo g am (upd (sp_targ s dm zr zo s i1) (0 + 87 + 10 * i1 + 7) (if (if zo = 0 then (0 : Int32) else (if ((sp_targ s dm zr zo s i1) (0 + 87 + 10 * i1 + 5)) = 1 then (1 : Int32) else 0)) = 0 then (if zr = 0 then ((sp_targ s dm zr zo s i1) (0 + 87 + 10 * i1 + 7)) else (sp_X7_within (sp_X7_raw (sp_targ s dm zr zo s i1) (sp_dems s 0 dm 6) 0 i1) ((sp_targ s dm zr zo s i1) (0 + 87 + 10 * i1 + 2)) ((sp_targ s dm zr zo s i1) (0 + 87 + 10 * i1 + 3)))) else (sp_X7_within ((sp_targ s dm zr zo s i1) (0 + 87 + 10 * i1 + 6)) ((sp_targ s dm zr zo s i1) (0 + 87 + 10 * i1 + 2)) ((sp_targ s dm zr zo s i1) (0 + 87 + 10 * i1 + 3))))) fi tx (sp_dems s 0 dm 6) th sa ln pa le sk nu h) C (k_X7_lay l g am (sp_targ s dm zr zo s i1) fi tx (sp_dems s 0 dm 6) th sa ln pa le sk nu h 0 0 rfl (nI i1) i1 rfl 7 7 rfl (if (if zo = 0 then (0 : Int32) else (if ((sp_targ s dm zr zo s i1) (0 + 87 + 10 * i1 + 5)) = 1 then (1 : Int32) else 0)) = 0 then (if zr = 0 then ((sp_targ s dm zr zo s i1) (0 + 87 + 10 * i1 + 7)) else (sp_X7_within (sp_X7_raw (sp_targ s dm zr zo s i1) (sp_dems s 0 dm 6) 0 i1) ((sp_targ s dm zr zo s i1) (0 + 87 + 10 * i1 + 2)) ((sp_targ s dm zr zo s i1) (0 + 87 + 10 * i1 + 3)))) else (sp_X7_within ((sp_targ s dm zr zo s i1) (0 + 87 + 10 * i1 + 6)) ((sp_targ s dm zr zo s i1) (0 + 87 + 10 * i1 + 2)) ((sp_targ s dm zr zo s i1) (0 + 87 + 10 * i1 + 3)))) (by omega)) rfl yV_X7_lay wML_X7_27 rfl 0 rfl rfl rfl rfl (nle rfl) (nle rfl) (nle rfl) (nle rfl) (nle rfl) dX7_targets_98 ?_
    refine x_iinc C 2 (nI (i1 + 1)) [(3, .int (nI (i1 + 1))), (5, .int (if zo = 0 then (0 : Int32) else (if ((sp_targ s dm zr zo s i1) (0 + 87 + 10 * i1 + 5)) = 1 then (1 : Int32) else 0))), (4, .int (if zr = 0 then ((sp_targ s dm zr zo s i1) (0 + 87 + 10 * i1 + 7)) else (sp_X7_within (sp_X7_raw (sp_targ s dm zr zo s i1) (sp_dems s 0 dm 6) 0 i1) ((sp_targ s dm zr zo s i1) (0 + 87 + 10 * i1 + 2)) ((sp_targ s dm zr zo s i1) (0 + 87 + 10 * i1 + 3))))), (0, .ref (am 0)), (1, .int zr), (2, .int zo)] rfl (nI_add _ _) rfl (by decide) dX7_targets_101 ?_
    refine x_goto C 7 (by decide) dX7_targets_104 ?_
    refine x_lv [(3, .int (nI (i1 + 1))), (0, .ref (am 0)), (1, .int zr), (2, .int zo)] [0, 3, 4, 5] rfl ?_
    exact ih1 (i1 + 1) (by omega)
def sp_frr (s : Nat → Int32) (z : Int32) : Int32 := (if z = 0 then (0 : Int32) else (if (s 148) ≤ 0 then (0 : Int32) else 1))
theorem sp_frr_b (s : Nat → Int32) (z : Int32) : sp_frr s z = 0 ∨ sp_frr s z = 1 := by
  unfold sp_frr
  (repeat' split) <;> first | with_reducible exact Or.inl rfl | with_reducible exact Or.inr rfl
def sp_fr1 (s : Nat → Int32) (z : Int32) : Nat → Int32 := (upd (upd (upd (upd s 150 ((s 150) + 1)) 152 ((s 152) + (if (s 148) = 0 then (1 : Int32) else 0))) 151 ((s 151) + (if (sp_frr s z) = 0 then (1 : Int32) else 0))) 153 (if (sp_frr s z) = 0 then ((s 153) + 1) else 0))
def sp_fro (s : Nat → Int32) (z : Int32) : Int32 := (if (if (sp_frr s z) = 0 then ((s 153) + 1) else 0) < (s 147) then (0 : Int32) else 1)
theorem sp_fro_b (s : Nat → Int32) (z : Int32) : sp_fro s z = 0 ∨ sp_fro s z = 1 := by
  unfold sp_fro
  (repeat' split) <;> first | with_reducible exact Or.inl rfl | with_reducible exact Or.inr rfl
def sp_fr2 (s : Nat → Int32) (dm : Nat → Int32) (z : Int32) : Nat → Int32 := (sp_targ (sp_fr1 s z) dm (sp_frr s z) (sp_fro s z) (sp_fr1 s z) 6)
def sp_fr3 (s : Nat → Int32) (dm : Nat → Int32) (z : Int32) : Nat → Int32 := (upd (upd (upd (sp_fr2 s dm z) 154 (((sp_fr2 s dm z) 154) + (if (sp_fro s z) = 0 then (0 : Int32) else (if ((sp_fr2 s dm z) 155) = 0 then (1 : Int32) else 0)))) 155 (if (sp_fro s z) = 0 then (0 : Int32) else 1)) 148 (((sp_fr2 s dm z) 148) - (if ((sp_fr2 s dm z) 148) ≤ 0 then (0 : Int32) else 1)))
def sp_frs (s : Nat → Int32) (z : Int32) (a0 : (Nat → Int32)) (a1 : Int32) : Nat → (Nat → Int32) × Int32
  | 0 => (a0, a1)
  | i19 + 1 => ((if (sp_fro s z) = 0 then (sp_X7_moved_s ((sp_frs s z a0 a1 i19).1) i19) else (if (((sp_frs s z a0 a1 i19).1) (0 + 87 + 10 * i19 + 5)) = 2 then ((sp_frs s z a0 a1 i19).1) else (sp_X7_moved_s ((sp_frs s z a0 a1 i19).1) i19))), (((sp_frs s z a0 a1 i19).2) + (if (sp_fro s z) = 0 then (sp_X7_size (sp_moved_by ((sp_frs s z a0 a1 i19).1) i19)) else (if (((sp_frs s z a0 a1 i19).1) (0 + 87 + 10 * i19 + 5)) = 2 then (0 : Int32) else (sp_X7_size (sp_moved_by ((sp_frs s z a0 a1 i19).1) i19))))))
theorem sp_fr1_lo (s : Nat → Int32) (z : Int32) (k : Nat) (hk : k < 87) : sp_fr1 s z k = s k := by
  unfold sp_fr1
  simp only [upd]
  repeat' rw [if_neg (by omega)]
theorem sp_fr1_ok {s : Nat → Int32} (z : Int32) (hm : rOk s 0) : rOk (sp_fr1 s z) 0 := rOk_of (fun k _ h2 => sp_fr1_lo s z k (by omega)) hm
set_option maxRecDepth 100000 in
theorem k_X7_frame (l : Launch) (g : xGt) (am : Nat → Nat) (s fi tx dm : Nat → Int32) (th sa ln pa le sk nu : Int32) (h : Int64) (z : Int32) (b_z : z = 0 ∨ z = 1) (hm : rOk s 0) : xM l g.1 (xT g) yX7_frame (ws_ yX7_frame cX7_frame 6 (some .int)) (xRm 5 119 0 0) 0 0 [.ref (am 0), .int z] (wMo g am s fi tx dm th sa ln pa le sk nu h) (fun r9 w9 => r9 = some (.int ((sp_frs s z (sp_fr3 s dm z) 0 6).2)) ∧ w9 = (wMo g am ((sp_frs s z (sp_fr3 s dm z) 0 6).1) fi tx (sp_dems (sp_fr1 s z) 0 dm 6) th sa ln pa le sk nu h)) (fun _ _ => False) := by
  refine x_start (own := RX7) (nm := "frame") rfl rfl (by decide +kernel) rfl (nle rfl) (fun p e σ m args below meth c A C hno hr => ?_)
  refine x_lve (lv' := [(0, .ref (am 0)), (1, .int z)]) rfl ?_
  refine x_iload_n C 1 rfl rfl dX7_frame_0 ?_
  suffices K2 : xW p l e _ σ m args below meth c g.1 A 6 0 0 _ (wMo g am s fi tx dm th sa ln pa le sk nu h) [(0, .ref (am 0)), (1, .int z)] 20 [.int (if z = 0 then (0 : Int32) else (if (s 148) ≤ 0 then (0 : Int32) else 1))] by
    refine x_if_eq C 19 (by decide) dX7_frame_1 (fun h1 => ?_) (fun h1 => ?_)
    · refine x_iconst C 0 (by decide) dX7_frame_19 ?_
      refine x_st (st' := [.int (if z = 0 then (0 : Int32) else (if (s 148) ≤ 0 then (0 : Int32) else 1))]) (by simp only [if_pos h1]) ?_
      exact K2
    · refine x_aload_n C 0 rfl rfl dX7_frame_4 ?_
      refine x_get C 0 7 1 rfl rfl wLy_X7 wFL_X7_7 rfl (by decide) rfl dX7_frame_5 ?_
      refine x_sipush C 148 (by decide) dX7_frame_8 ?_
      refine x_ialdN (f := s) C 1 0 148 rfl rfl rfl (by omega) (by decide) dX7_frame_11 ?_
      refine x_if_le C 19 (by decide) dX7_frame_12 (fun h2 => ?_) (fun h2 => ?_)
      · refine x_iconst C 0 (by decide) dX7_frame_19 ?_
        refine x_st (st' := [.int (if z = 0 then (0 : Int32) else (if (s 148) ≤ 0 then (0 : Int32) else 1))]) (by simp only [if_neg h1, if_pos h2]) ?_
        exact K2
      · refine x_iconst C 1 (by decide) dX7_frame_15 ?_
        refine x_goto C 20 (by decide) dX7_frame_16 ?_
        refine x_st (st' := [.int (if z = 0 then (0 : Int32) else (if (s 148) ≤ 0 then (0 : Int32) else 1))]) (by simp only [if_neg h1, if_neg h2]) ?_
        exact K2
  refine x_istore_n C [(2, .int (if z = 0 then (0 : Int32) else (if (s 148) ≤ 0 then (0 : Int32) else 1))), (0, .ref (am 0)), (1, .int z)] rfl rfl (by decide) dX7_frame_20 ?_
  refine x_lve (lv' := [(2, .int (sp_frr s z)), (0, .ref (am 0)), (1, .int z)]) rfl ?_
  refine x_aload_n C 1 rfl rfl dX7_frame_21 ?_
  refine x_get C 0 7 1 rfl rfl wLy_X7 wFL_X7_7 rfl (by decide) rfl dX7_frame_22 ?_
  refine x_sipush C 150 (by decide) dX7_frame_25 ?_
  refine x_dup2 C rfl rfl dX7_frame_28 ?_
  refine x_ialdN (f := s) C 1 0 150 rfl rfl rfl (by omega) (by decide) dX7_frame_29 ?_
  refine x_iconst C 1 (by decide) dX7_frame_30 ?_
  refine x_iadd C dX7_frame_31 ?_
  refine x_iastN (f := s) C 1 0 150 (wMo g am (upd s 150 ((s 150) + 1)) fi tx dm th sa ln pa le sk nu h) rfl rfl rfl rfl (by omega) (by decide) dX7_frame_32 ?_
  refine x_aload_n C 1 rfl rfl dX7_frame_33 ?_
  refine x_get C 0 7 1 rfl rfl wLy_X7 wFL_X7_7 rfl (by decide) rfl dX7_frame_34 ?_
  refine x_sipush C 152 (by decide) dX7_frame_37 ?_
  refine x_dup2 C rfl rfl dX7_frame_40 ?_
  refine x_ialdNE (f := (upd s 150 ((s 150) + 1))) C 1 0 152 (s 152) (up_ne rfl) rfl rfl rfl (by omega) (by decide) dX7_frame_41 ?_
  refine x_aload_n C 1 rfl rfl dX7_frame_42 ?_
  refine x_get C 0 7 1 rfl rfl wLy_X7 wFL_X7_7 rfl (by decide) rfl dX7_frame_43 ?_
  refine x_sipush C 148 (by decide) dX7_frame_46 ?_
  refine x_ialdNE (f := (upd s 150 ((s 150) + 1))) C 1 0 148 (s 148) (up_ne rfl) rfl rfl rfl (by omega) (by decide) dX7_frame_49 ?_
  suffices K5 : xW p l e _ σ m args below meth c g.1 A 6 0 0 _ (wMo g am (upd s 150 ((s 150) + 1)) fi tx dm th sa ln pa le sk nu h) [(2, .int (sp_frr s z)), (0, .ref (am 0)), (1, .int z)] 58 [.int (if (s 148) = 0 then (1 : Int32) else 0), .int (s 152), .int 152, .ref (am 1)] by
    refine x_if_ne C 57 (by decide) dX7_frame_50 (fun h4 => ?_) (fun h4 => ?_)
    · refine x_iconst C 0 (by decide) dX7_frame_57 ?_
      refine x_st (st' := [.int (if (s 148) = 0 then (1 : Int32) else 0), .int (s 152), .int 152, .ref (am 1)]) (by simp only [if_neg h4]) ?_
      exact K5
    · refine x_iconst C 1 (by decide) dX7_frame_53 ?_
      refine x_goto C 58 (by decide) dX7_frame_54 ?_
      refine x_st (st' := [.int (if (s 148) = 0 then (1 : Int32) else 0), .int (s 152), .int 152, .ref (am 1)]) (by simp only [if_pos h4]) ?_
      exact K5
  refine x_iadd C dX7_frame_58 ?_
  refine x_iastN (f := (upd s 150 ((s 150) + 1))) C 1 0 152 (wMo g am (upd (upd s 150 ((s 150) + 1)) 152 ((s 152) + (if (s 148) = 0 then (1 : Int32) else 0))) fi tx dm th sa ln pa le sk nu h) rfl rfl rfl rfl (by omega) (by decide) dX7_frame_59 ?_
  refine x_aload_n C 1 rfl rfl dX7_frame_60 ?_
  refine x_get C 0 7 1 rfl rfl wLy_X7 wFL_X7_7 rfl (by decide) rfl dX7_frame_61 ?_
  refine x_sipush C 151 (by decide) dX7_frame_64 ?_
  refine x_dup2 C rfl rfl dX7_frame_67 ?_
  refine x_ialdNE (f := (upd (upd s 150 ((s 150) + 1)) 152 ((s 152) + (if (s 148) = 0 then (1 : Int32) else 0)))) C 1 0 151 (s 151) ((up_ne rfl).trans (up_ne rfl)) rfl rfl rfl (by omega) (by decide) dX7_frame_68 ?_
  refine x_iload_n C 0 rfl rfl dX7_frame_69 ?_
  suffices K7 : xW p l e _ σ m args below meth c g.1 A 6 0 0 _ (wMo g am (upd (upd s 150 ((s 150) + 1)) 152 ((s 152) + (if (s 148) = 0 then (1 : Int32) else 0))) fi tx dm th sa ln pa le sk nu h) [(2, .int (sp_frr s z)), (0, .ref (am 0)), (1, .int z)] 78 [.int (if (sp_frr s z) = 0 then (1 : Int32) else 0), .int (s 151), .int 151, .ref (am 1)] by
    refine x_if_eq C 77 (by decide) dX7_frame_70 (fun h6 => ?_) (fun h6 => ?_)
    · refine x_iconst C 1 (by decide) dX7_frame_77 ?_
      refine x_st (st' := [.int (if (sp_frr s z) = 0 then (1 : Int32) else 0), .int (s 151), .int 151, .ref (am 1)]) (by simp only [if_pos h6]) ?_
      exact K7
    · refine x_iconst C 0 (by decide) dX7_frame_73 ?_
      refine x_goto C 78 (by decide) dX7_frame_74 ?_
      refine x_st (st' := [.int (if (sp_frr s z) = 0 then (1 : Int32) else 0), .int (s 151), .int 151, .ref (am 1)]) (by simp only [if_neg h6]) ?_
      exact K7
  refine x_iadd C dX7_frame_78 ?_
  refine x_iastN (f := (upd (upd s 150 ((s 150) + 1)) 152 ((s 152) + (if (s 148) = 0 then (1 : Int32) else 0)))) C 1 0 151 (wMo g am (upd (upd (upd s 150 ((s 150) + 1)) 152 ((s 152) + (if (s 148) = 0 then (1 : Int32) else 0))) 151 ((s 151) + (if (sp_frr s z) = 0 then (1 : Int32) else 0))) fi tx dm th sa ln pa le sk nu h) rfl rfl rfl rfl (by omega) (by decide) dX7_frame_79 ?_
  refine x_aload_n C 1 rfl rfl dX7_frame_80 ?_
  refine x_get C 0 7 1 rfl rfl wLy_X7 wFL_X7_7 rfl (by decide) rfl dX7_frame_81 ?_
  refine x_sipush C 153 (by decide) dX7_frame_84 ?_
  refine x_iload_n C 0 rfl rfl dX7_frame_87 ?_
  suffices K9 : xW p l e _ σ m args below meth c g.1 A 6 0 0 _ (wMo g am (upd (upd (upd s 150 ((s 150) + 1)) 152 ((s 152) + (if (s 148) = 0 then (1 : Int32) else 0))) 151 ((s 151) + (if (sp_frr s z) = 0 then (1 : Int32) else 0))) fi tx dm th sa ln pa le sk nu h) [(2, .int (sp_frr s z)), (0, .ref (am 0)), (1, .int z)] 105 [.int (if (sp_frr s z) = 0 then ((s 153) + 1) else 0), .int 153, .ref (am 1)] by
    refine x_if_eq C 95 (by decide) dX7_frame_88 (fun h8 => ?_) (fun h8 => ?_)
    · refine x_aload_n C 1 rfl rfl dX7_frame_95 ?_
      refine x_get C 0 7 1 rfl rfl wLy_X7 wFL_X7_7 rfl (by decide) rfl dX7_frame_96 ?_
      refine x_sipush C 153 (by decide) dX7_frame_99 ?_
      refine x_ialdNE (f := (upd (upd (upd s 150 ((s 150) + 1)) 152 ((s 152) + (if (s 148) = 0 then (1 : Int32) else 0))) 151 ((s 151) + (if (sp_frr s z) = 0 then (1 : Int32) else 0)))) C 1 0 153 (s 153) ((up_ne rfl).trans ((up_ne rfl).trans (up_ne rfl))) rfl rfl rfl (by omega) (by decide) dX7_frame_102 ?_
      refine x_iconst C 1 (by decide) dX7_frame_103 ?_
      refine x_iadd C dX7_frame_104 ?_
      refine x_st (st' := [.int (if (sp_frr s z) = 0 then ((s 153) + 1) else 0), .int 153, .ref (am 1)]) (by simp only [if_pos h8]) ?_
      exact K9
    · refine x_iconst C 0 (by decide) dX7_frame_91 ?_
      refine x_goto C 105 (by decide) dX7_frame_92 ?_
      refine x_st (st' := [.int (if (sp_frr s z) = 0 then ((s 153) + 1) else 0), .int 153, .ref (am 1)]) (by simp only [if_neg h8]) ?_
      exact K9
  refine x_iastN (f := (upd (upd (upd s 150 ((s 150) + 1)) 152 ((s 152) + (if (s 148) = 0 then (1 : Int32) else 0))) 151 ((s 151) + (if (sp_frr s z) = 0 then (1 : Int32) else 0)))) C 1 0 153 (wMo g am (upd (upd (upd (upd s 150 ((s 150) + 1)) 152 ((s 152) + (if (s 148) = 0 then (1 : Int32) else 0))) 151 ((s 151) + (if (sp_frr s z) = 0 then (1 : Int32) else 0))) 153 (if (sp_frr s z) = 0 then ((s 153) + 1) else 0)) fi tx dm th sa ln pa le sk nu h) rfl rfl rfl rfl (by omega) (by decide) dX7_frame_105 ?_
  refine x_aload_n C 1 rfl rfl dX7_frame_106 ?_
  refine x_get C 0 7 1 rfl rfl wLy_X7 wFL_X7_7 rfl (by decide) rfl dX7_frame_107 ?_
  refine x_sipush C 153 (by decide) dX7_frame_110 ?_
  refine x_ialdNE (f := (upd (upd (upd (upd s 150 ((s 150) + 1)) 152 ((s 152) + (if (s 148) = 0 then (1 : Int32) else 0))) 151 ((s 151) + (if (sp_frr s z) = 0 then (1 : Int32) else 0))) 153 (if (sp_frr s z) = 0 then ((s 153) + 1) else 0))) C 1 0 153 (if (sp_frr s z) = 0 then ((s 153) + 1) else 0) up_eq rfl rfl rfl (by omega) (by decide) dX7_frame_113 ?_
  refine x_aload_n C 1 rfl rfl dX7_frame_114 ?_
  refine x_get C 0 7 1 rfl rfl wLy_X7 wFL_X7_7 rfl (by decide) rfl dX7_frame_115 ?_
  refine x_sipush C 147 (by decide) dX7_frame_118 ?_
  refine x_ialdNE (f := (upd (upd (upd (upd s 150 ((s 150) + 1)) 152 ((s 152) + (if (s 148) = 0 then (1 : Int32) else 0))) 151 ((s 151) + (if (sp_frr s z) = 0 then (1 : Int32) else 0))) 153 (if (sp_frr s z) = 0 then ((s 153) + 1) else 0))) C 1 0 147 (s 147) ((up_ne rfl).trans ((up_ne rfl).trans ((up_ne rfl).trans (up_ne rfl)))) rfl rfl rfl (by omega) (by decide) dX7_frame_121 ?_
  suffices K11 : xW p l e _ σ m args below meth c g.1 A 6 0 0 _ (wMo g am (upd (upd (upd (upd s 150 ((s 150) + 1)) 152 ((s 152) + (if (s 148) = 0 then (1 : Int32) else 0))) 151 ((s 151) + (if (sp_frr s z) = 0 then (1 : Int32) else 0))) 153 (if (sp_frr s z) = 0 then ((s 153) + 1) else 0)) fi tx dm th sa ln pa le sk nu h) [(2, .int (sp_frr s z)), (0, .ref (am 0)), (1, .int z)] 130 [.int (if (if (sp_frr s z) = 0 then ((s 153) + 1) else 0) < (s 147) then (0 : Int32) else 1)] by
    refine x_icmp_lt C 129 (by decide) dX7_frame_122 (fun h10 => ?_) (fun h10 => ?_)
    · refine x_iconst C 0 (by decide) dX7_frame_129 ?_
      refine x_st (st' := [.int (if (if (sp_frr s z) = 0 then ((s 153) + 1) else 0) < (s 147) then (0 : Int32) else 1)]) (by simp only [if_pos h10]) ?_
      exact K11
    · refine x_iconst C 1 (by decide) dX7_frame_125 ?_
      refine x_goto C 130 (by decide) dX7_frame_126 ?_
      refine x_st (st' := [.int (if (if (sp_frr s z) = 0 then ((s 153) + 1) else 0) < (s 147) then (0 : Int32) else 1)]) (by simp only [if_neg h10]) ?_
      exact K11
  refine x_istore_n C [(3, .int (if (if (sp_frr s z) = 0 then ((s 153) + 1) else 0) < (s 147) then (0 : Int32) else 1)), (2, .int (sp_frr s z)), (0, .ref (am 0)), (1, .int z)] rfl rfl (by decide) dX7_frame_130 ?_
  refine x_ws (ws' := (wMo g am (sp_fr1 s z) fi tx dm th sa ln pa le sk nu h)) rfl ?_
  refine x_lve (lv' := [(3, .int (sp_fro s z)), (2, .int (sp_frr s z)), (0, .ref (am 0)), (1, .int z)]) rfl ?_
  refine x_aload_n C 2 rfl rfl dX7_frame_131 ?_
  refine x_iload_n C 1 rfl rfl dX7_frame_132 ?_
  refine x_iload_n C 0 rfl rfl dX7_frame_133 ?_
  refine x_GV (w1 := ([] : va_W)) (wc := (wMo g am (sp_fr1 s z) fi tx dm th sa ln pa le sk nu h)) (w2 := ([] : va_W)) [.int (sp_frr s z), .int (sp_fro s z)] [] (wMo g am (sp_targ (sp_fr1 s z) dm (sp_frr s z) (sp_fro s z) (sp_fr1 s z) 6) fi tx (sp_dems (sp_fr1 s z) 0 dm 6) th sa ln pa le sk nu h) C (k_X7_targets l g am (sp_fr1 s z) fi tx dm th sa ln pa le sk nu h (sp_frr s z) (sp_frr_b s z) (sp_fro s z) (sp_fro_b s z) (sp_fr1_ok z hm)) rfl yV_X7_targets wML_X7_74 rfl 0 rfl rfl rfl rfl (nle rfl) (nle rfl) (nle rfl) (nle rfl) (nle rfl) dX7_frame_134 ?_
  refine x_ws (ws' := (wMo g am (sp_fr2 s dm z) fi tx (sp_dems (sp_fr1 s z) 0 dm 6) th sa ln pa le sk nu h)) rfl ?_
  refine x_aload_n C 2 rfl rfl dX7_frame_137 ?_
  refine x_get C 0 7 1 rfl rfl wLy_X7 wFL_X7_7 rfl (by decide) rfl dX7_frame_138 ?_
  refine x_sipush C 154 (by decide) dX7_frame_141 ?_
  refine x_dup2 C rfl rfl dX7_frame_144 ?_
  refine x_ialdN (f := (sp_fr2 s dm z)) C 1 0 154 rfl rfl rfl (by omega) (by decide) dX7_frame_145 ?_
  refine x_iload_n C 0 rfl rfl dX7_frame_146 ?_
  suffices K13 : xW p l e _ σ m args below meth c g.1 A 6 0 0 _ (wMo g am (sp_fr2 s dm z) fi tx (sp_dems (sp_fr1 s z) 0 dm 6) th sa ln pa le sk nu h) [(3, .int (sp_fro s z)), (2, .int (sp_frr s z)), (0, .ref (am 0)), (1, .int z)] 166 [.int (if (sp_fro s z) = 0 then (0 : Int32) else (if ((sp_fr2 s dm z) 155) = 0 then (1 : Int32) else 0)), .int ((sp_fr2 s dm z) 154), .int 154, .ref (am 1)] by
    refine x_if_eq C 165 (by decide) dX7_frame_147 (fun h12 => ?_) (fun h12 => ?_)
    · refine x_iconst C 0 (by decide) dX7_frame_165 ?_
      refine x_st (st' := [.int (if (sp_fro s z) = 0 then (0 : Int32) else (if ((sp_fr2 s dm z) 155) = 0 then (1 : Int32) else 0)), .int ((sp_fr2 s dm z) 154), .int 154, .ref (am 1)]) (by simp only [if_pos h12]) ?_
      exact K13
    · refine x_aload_n C 2 rfl rfl dX7_frame_150 ?_
      refine x_get C 0 7 1 rfl rfl wLy_X7 wFL_X7_7 rfl (by decide) rfl dX7_frame_151 ?_
      refine x_sipush C 155 (by decide) dX7_frame_154 ?_
      refine x_ialdN (f := (sp_fr2 s dm z)) C 1 0 155 rfl rfl rfl (by omega) (by decide) dX7_frame_157 ?_
      refine x_if_ne C 165 (by decide) dX7_frame_158 (fun h13 => ?_) (fun h13 => ?_)
      · refine x_iconst C 0 (by decide) dX7_frame_165 ?_
        refine x_st (st' := [.int (if (sp_fro s z) = 0 then (0 : Int32) else (if ((sp_fr2 s dm z) 155) = 0 then (1 : Int32) else 0)), .int ((sp_fr2 s dm z) 154), .int 154, .ref (am 1)]) (by simp only [if_neg h12, if_neg h13]) ?_
        exact K13
      · refine x_iconst C 1 (by decide) dX7_frame_161 ?_
        refine x_goto C 166 (by decide) dX7_frame_162 ?_
        refine x_st (st' := [.int (if (sp_fro s z) = 0 then (0 : Int32) else (if ((sp_fr2 s dm z) 155) = 0 then (1 : Int32) else 0)), .int ((sp_fr2 s dm z) 154), .int 154, .ref (am 1)]) (by simp only [if_neg h12, if_pos h13]) ?_
        exact K13
  refine x_iadd C dX7_frame_166 ?_
  refine x_iastN (f := (sp_fr2 s dm z)) C 1 0 154 (wMo g am (upd (sp_fr2 s dm z) 154 (((sp_fr2 s dm z) 154) + (if (sp_fro s z) = 0 then (0 : Int32) else (if ((sp_fr2 s dm z) 155) = 0 then (1 : Int32) else 0)))) fi tx (sp_dems (sp_fr1 s z) 0 dm 6) th sa ln pa le sk nu h) rfl rfl rfl rfl (by omega) (by decide) dX7_frame_167 ?_
  refine x_aload_n C 2 rfl rfl dX7_frame_168 ?_
  refine x_get C 0 7 1 rfl rfl wLy_X7 wFL_X7_7 rfl (by decide) rfl dX7_frame_169 ?_
  refine x_sipush C 155 (by decide) dX7_frame_172 ?_
  refine x_iload_n C 0 rfl rfl dX7_frame_175 ?_
  suffices K16 : xW p l e _ σ m args below meth c g.1 A 6 0 0 _ (wMo g am (upd (sp_fr2 s dm z) 154 (((sp_fr2 s dm z) 154) + (if (sp_fro s z) = 0 then (0 : Int32) else (if ((sp_fr2 s dm z) 155) = 0 then (1 : Int32) else 0)))) fi tx (sp_dems (sp_fr1 s z) 0 dm 6) th sa ln pa le sk nu h) [(3, .int (sp_fro s z)), (2, .int (sp_frr s z)), (0, .ref (am 0)), (1, .int z)] 184 [.int (if (sp_fro s z) = 0 then (0 : Int32) else 1), .int 155, .ref (am 1)] by
    refine x_if_eq C 183 (by decide) dX7_frame_176 (fun h15 => ?_) (fun h15 => ?_)
    · refine x_iconst C 0 (by decide) dX7_frame_183 ?_
      refine x_st (st' := [.int (if (sp_fro s z) = 0 then (0 : Int32) else 1), .int 155, .ref (am 1)]) (by simp only [if_pos h15]) ?_
      exact K16
    · refine x_iconst C 1 (by decide) dX7_frame_179 ?_
      refine x_goto C 184 (by decide) dX7_frame_180 ?_
      refine x_st (st' := [.int (if (sp_fro s z) = 0 then (0 : Int32) else 1), .int 155, .ref (am 1)]) (by simp only [if_neg h15]) ?_
      exact K16
  refine x_iastN (f := (upd (sp_fr2 s dm z) 154 (((sp_fr2 s dm z) 154) + (if (sp_fro s z) = 0 then (0 : Int32) else (if ((sp_fr2 s dm z) 155) = 0 then (1 : Int32) else 0))))) C 1 0 155 (wMo g am (upd (upd (sp_fr2 s dm z) 154 (((sp_fr2 s dm z) 154) + (if (sp_fro s z) = 0 then (0 : Int32) else (if ((sp_fr2 s dm z) 155) = 0 then (1 : Int32) else 0)))) 155 (if (sp_fro s z) = 0 then (0 : Int32) else 1)) fi tx (sp_dems (sp_fr1 s z) 0 dm 6) th sa ln pa le sk nu h) rfl rfl rfl rfl (by omega) (by decide) dX7_frame_184 ?_
  refine x_aload_n C 2 rfl rfl dX7_frame_185 ?_
  refine x_get C 0 7 1 rfl rfl wLy_X7 wFL_X7_7 rfl (by decide) rfl dX7_frame_186 ?_
  refine x_sipush C 148 (by decide) dX7_frame_189 ?_
  refine x_dup2 C rfl rfl dX7_frame_192 ?_
  refine x_ialdNE (f := (upd (upd (sp_fr2 s dm z) 154 (((sp_fr2 s dm z) 154) + (if (sp_fro s z) = 0 then (0 : Int32) else (if ((sp_fr2 s dm z) 155) = 0 then (1 : Int32) else 0)))) 155 (if (sp_fro s z) = 0 then (0 : Int32) else 1))) C 1 0 148 ((sp_fr2 s dm z) 148) ((up_ne rfl).trans (up_ne rfl)) rfl rfl rfl (by omega) (by decide) dX7_frame_193 ?_
  refine x_aload_n C 2 rfl rfl dX7_frame_194 ?_
  refine x_get C 0 7 1 rfl rfl wLy_X7 wFL_X7_7 rfl (by decide) rfl dX7_frame_195 ?_
  refine x_sipush C 148 (by decide) dX7_frame_198 ?_
  refine x_ialdNE (f := (upd (upd (sp_fr2 s dm z) 154 (((sp_fr2 s dm z) 154) + (if (sp_fro s z) = 0 then (0 : Int32) else (if ((sp_fr2 s dm z) 155) = 0 then (1 : Int32) else 0)))) 155 (if (sp_fro s z) = 0 then (0 : Int32) else 1))) C 1 0 148 ((sp_fr2 s dm z) 148) ((up_ne rfl).trans (up_ne rfl)) rfl rfl rfl (by omega) (by decide) dX7_frame_201 ?_
  suffices K18 : xW p l e _ σ m args below meth c g.1 A 6 0 0 _ (wMo g am (upd (upd (sp_fr2 s dm z) 154 (((sp_fr2 s dm z) 154) + (if (sp_fro s z) = 0 then (0 : Int32) else (if ((sp_fr2 s dm z) 155) = 0 then (1 : Int32) else 0)))) 155 (if (sp_fro s z) = 0 then (0 : Int32) else 1)) fi tx (sp_dems (sp_fr1 s z) 0 dm 6) th sa ln pa le sk nu h) [(3, .int (sp_fro s z)), (2, .int (sp_frr s z)), (0, .ref (am 0)), (1, .int z)] 210 [.int (if ((sp_fr2 s dm z) 148) ≤ 0 then (0 : Int32) else 1), .int ((sp_fr2 s dm z) 148), .int 148, .ref (am 1)] by
    refine x_if_le C 209 (by decide) dX7_frame_202 (fun h17 => ?_) (fun h17 => ?_)
    · refine x_iconst C 0 (by decide) dX7_frame_209 ?_
      refine x_st (st' := [.int (if ((sp_fr2 s dm z) 148) ≤ 0 then (0 : Int32) else 1), .int ((sp_fr2 s dm z) 148), .int 148, .ref (am 1)]) (by simp only [if_pos h17]) ?_
      exact K18
    · refine x_iconst C 1 (by decide) dX7_frame_205 ?_
      refine x_goto C 210 (by decide) dX7_frame_206 ?_
      refine x_st (st' := [.int (if ((sp_fr2 s dm z) 148) ≤ 0 then (0 : Int32) else 1), .int ((sp_fr2 s dm z) 148), .int 148, .ref (am 1)]) (by simp only [if_neg h17]) ?_
      exact K18
  refine x_isub C dX7_frame_210 ?_
  refine x_iastN (f := (upd (upd (sp_fr2 s dm z) 154 (((sp_fr2 s dm z) 154) + (if (sp_fro s z) = 0 then (0 : Int32) else (if ((sp_fr2 s dm z) 155) = 0 then (1 : Int32) else 0)))) 155 (if (sp_fro s z) = 0 then (0 : Int32) else 1))) C 1 0 148 (wMo g am (upd (upd (upd (sp_fr2 s dm z) 154 (((sp_fr2 s dm z) 154) + (if (sp_fro s z) = 0 then (0 : Int32) else (if ((sp_fr2 s dm z) 155) = 0 then (1 : Int32) else 0)))) 155 (if (sp_fro s z) = 0 then (0 : Int32) else 1)) 148 (((sp_fr2 s dm z) 148) - (if ((sp_fr2 s dm z) 148) ≤ 0 then (0 : Int32) else 1))) fi tx (sp_dems (sp_fr1 s z) 0 dm 6) th sa ln pa le sk nu h) rfl rfl rfl rfl (by omega) (by decide) dX7_frame_211 ?_
  refine x_ws (ws' := (wMo g am (sp_fr3 s dm z) fi tx (sp_dems (sp_fr1 s z) 0 dm 6) th sa ln pa le sk nu h)) rfl ?_
  refine x_iconst C 0 (by decide) dX7_frame_212 ?_
  refine x_istore C [(4, .int 0), (3, .int (sp_fro s z)), (2, .int (sp_frr s z)), (0, .ref (am 0)), (1, .int z)] rfl (by decide) dX7_frame_213 ?_
  refine x_iconst C 0 (by decide) dX7_frame_215 ?_
  refine x_istore C [(5, .int 0), (4, .int 0), (3, .int (sp_fro s z)), (2, .int (sp_frr s z)), (0, .ref (am 0)), (1, .int z)] rfl (by decide) dX7_frame_216 ?_
  suffices L19 : ∀ (n19 i19 : Nat), i19 + n19 = 6 → xW p l e _ σ m args below meth c g.1 A 6 0 0 _ (wMo g am ((sp_frs s z (sp_fr3 s dm z) 0 i19).1) fi tx (sp_dems (sp_fr1 s z) 0 dm 6) th sa ln pa le sk nu h) [(5, .int (nI i19)), (4, .int ((sp_frs s z (sp_fr3 s dm z) 0 i19).2)), (3, .int (sp_fro s z)), (2, .int (sp_frr s z)), (0, .ref (am 0)), (1, .int z)] 218 [] by
    exact L19 (6) 0 (by omega)
  intro n19
  induction n19 with
  | zero =>
    intro i19 hn19
    obtain rfl : i19 = 6 := by omega
    refine x_iload C 0 rfl dX7_frame_218 ?_
    refine x_bipush C 6 (by decide) dX7_frame_220 ?_
    refine x_icmp_ge C 262 (by decide) dX7_frame_222 (fun _ => ?_) (fun hz => absurd (xge (show (6 : Int32) = nI 6 from rfl) rfl (by omega) (by omega)) hz)
    refine x_iload C 1 rfl dX7_frame_262 ?_
    exact x_iret C hr (nle rfl) (nle rfl) dX7_frame_264 ⟨rfl, rfl⟩
  | succ n19 ih19 =>
    intro i19 hn19
    refine x_iload C 0 rfl dX7_frame_218 ?_
    refine x_bipush C 6 (by decide) dX7_frame_220 ?_
    refine x_icmp_ge C 262 (by decide) dX7_frame_222 (fun hz => absurd hz (xnge (show (6 : Int32) = nI 6 from rfl) rfl (by omega) (by omega))) (fun _ => ?_)
    refine x_iload C 1 rfl dX7_frame_225 ?_
    refine x_iload_n C 2 rfl rfl dX7_frame_227 ?_
    suffices K21 : xW p l e _ σ m args below meth c g.1 A 6 0 0 _ (wMo g am (if (sp_fro s z) = 0 then (sp_X7_moved_s ((sp_frs s z (sp_fr3 s dm z) 0 i19).1) i19) else (if (((sp_frs s z (sp_fr3 s dm z) 0 i19).1) (0 + 87 + 10 * i19 + 5)) = 2 then ((sp_frs s z (sp_fr3 s dm z) 0 i19).1) else (sp_X7_moved_s ((sp_frs s z (sp_fr3 s dm z) 0 i19).1) i19))) fi tx (sp_dems (sp_fr1 s z) 0 dm 6) th sa ln pa le sk nu h) [(5, .int (nI i19)), (4, .int ((sp_frs s z (sp_fr3 s dm z) 0 i19).2)), (3, .int (sp_fro s z)), (2, .int (sp_frr s z)), (0, .ref (am 0)), (1, .int z)] 253 [.int (if (sp_fro s z) = 0 then (sp_X7_size (sp_moved_by ((sp_frs s z (sp_fr3 s dm z) 0 i19).1) i19)) else (if (((sp_frs s z (sp_fr3 s dm z) 0 i19).1) (0 + 87 + 10 * i19 + 5)) = 2 then (0 : Int32) else (sp_X7_size (sp_moved_by ((sp_frs s z (sp_fr3 s dm z) 0 i19).1) i19)))), .int ((sp_frs s z (sp_fr3 s dm z) 0 i19).2)] by
      refine x_if_eq C 247 (by decide) dX7_frame_228 (fun h20 => ?_) (fun h20 => ?_)
      · refine x_aload_n C 4 rfl rfl dX7_frame_247 ?_
        refine x_iload C 0 rfl dX7_frame_248 ?_
        refine x_FV (w1 := ([] : va_W)) (wc := (wMo g am ((sp_frs s z (sp_fr3 s dm z) 0 i19).1) fi tx (sp_dems (sp_fr1 s z) 0 dm 6) th sa ln pa le sk nu h)) (w2 := ([] : va_W)) [.int (nI i19)] [.int ((sp_frs s z (sp_fr3 s dm z) 0 i19).2)] (wMo g am (sp_X7_moved_s ((sp_frs s z (sp_fr3 s dm z) 0 i19).1) i19) fi tx (sp_dems (sp_fr1 s z) 0 dm 6) th sa ln pa le sk nu h) C (k_X7_moved l g am ((sp_frs s z (sp_fr3 s dm z) 0 i19).1) fi tx (sp_dems (sp_fr1 s z) 0 dm 6) th sa ln pa le sk nu h (nI i19) i19 rfl (by omega)) rfl yV_X7_moved wML_X7_78 rfl 0 rfl rfl rfl rfl (nle rfl) (nle rfl) (nle rfl) (nle rfl) (nle rfl) dX7_frame_250 ?_
        refine x_st (st' := [.int (if (sp_fro s z) = 0 then (sp_X7_size (sp_moved_by ((sp_frs s z (sp_fr3 s dm z) 0 i19).1) i19)) else (if (((sp_frs s z (sp_fr3 s dm z) 0 i19).1) (0 + 87 + 10 * i19 + 5)) = 2 then (0 : Int32) else (sp_X7_size (sp_moved_by ((sp_frs s z (sp_fr3 s dm z) 0 i19).1) i19)))), .int ((sp_frs s z (sp_fr3 s dm z) 0 i19).2)]) (by simp only [if_pos h20]) ?_
        refine x_ws (ws' := (wMo g am (if (sp_fro s z) = 0 then (sp_X7_moved_s ((sp_frs s z (sp_fr3 s dm z) 0 i19).1) i19) else (if (((sp_frs s z (sp_fr3 s dm z) 0 i19).1) (0 + 87 + 10 * i19 + 5)) = 2 then ((sp_frs s z (sp_fr3 s dm z) 0 i19).1) else (sp_X7_moved_s ((sp_frs s z (sp_fr3 s dm z) 0 i19).1) i19))) fi tx (sp_dems (sp_fr1 s z) 0 dm 6) th sa ln pa le sk nu h)) (by first | (simp only [if_pos h20]; done) | (simp only [if_pos h20]; rfl)) ?_
        exact K21
      · refine x_aload_n C 4 rfl rfl dX7_frame_231 ?_
        refine x_iconst C 0 (by decide) dX7_frame_232 ?_
        refine x_iload C 0 rfl dX7_frame_233 ?_
        refine x_iconst C 5 (by decide) dX7_frame_235 ?_
        refine x_FV (w1 := ([] : va_W)) (wc := (wMo g am ((sp_frs s z (sp_fr3 s dm z) 0 i19).1) fi tx (sp_dems (sp_fr1 s z) 0 dm 6) th sa ln pa le sk nu h)) (w2 := ([] : va_W)) [.int 0, .int (nI i19), .int 5] [.int ((sp_frs s z (sp_fr3 s dm z) 0 i19).2)] (wMo g am ((sp_frs s z (sp_fr3 s dm z) 0 i19).1) fi tx (sp_dems (sp_fr1 s z) 0 dm 6) th sa ln pa le sk nu h) C (k_X7_of l g am ((sp_frs s z (sp_fr3 s dm z) 0 i19).1) fi tx (sp_dems (sp_fr1 s z) 0 dm 6) th sa ln pa le sk nu h 0 0 rfl (nI i19) i19 rfl 5 5 rfl (by omega)) rfl yV_X7_of wML_X7_57 rfl 0 rfl rfl rfl rfl (nle rfl) (nle rfl) (nle rfl) (nle rfl) (nle rfl) dX7_frame_236 ?_
        refine x_iconst C 2 (by decide) dX7_frame_239 ?_
        refine x_icmp_ne C 247 (by decide) dX7_frame_240 (fun h21 => ?_) (fun h21 => ?_)
        · refine x_aload_n C 4 rfl rfl dX7_frame_247 ?_
          refine x_iload C 0 rfl dX7_frame_248 ?_
          refine x_FV (w1 := ([] : va_W)) (wc := (wMo g am ((sp_frs s z (sp_fr3 s dm z) 0 i19).1) fi tx (sp_dems (sp_fr1 s z) 0 dm 6) th sa ln pa le sk nu h)) (w2 := ([] : va_W)) [.int (nI i19)] [.int ((sp_frs s z (sp_fr3 s dm z) 0 i19).2)] (wMo g am (sp_X7_moved_s ((sp_frs s z (sp_fr3 s dm z) 0 i19).1) i19) fi tx (sp_dems (sp_fr1 s z) 0 dm 6) th sa ln pa le sk nu h) C (k_X7_moved l g am ((sp_frs s z (sp_fr3 s dm z) 0 i19).1) fi tx (sp_dems (sp_fr1 s z) 0 dm 6) th sa ln pa le sk nu h (nI i19) i19 rfl (by omega)) rfl yV_X7_moved wML_X7_78 rfl 0 rfl rfl rfl rfl (nle rfl) (nle rfl) (nle rfl) (nle rfl) (nle rfl) dX7_frame_250 ?_
          refine x_st (st' := [.int (if (sp_fro s z) = 0 then (sp_X7_size (sp_moved_by ((sp_frs s z (sp_fr3 s dm z) 0 i19).1) i19)) else (if (((sp_frs s z (sp_fr3 s dm z) 0 i19).1) (0 + 87 + 10 * i19 + 5)) = 2 then (0 : Int32) else (sp_X7_size (sp_moved_by ((sp_frs s z (sp_fr3 s dm z) 0 i19).1) i19)))), .int ((sp_frs s z (sp_fr3 s dm z) 0 i19).2)]) (by simp only [if_neg h20, if_neg h21]) ?_
          refine x_ws (ws' := (wMo g am (if (sp_fro s z) = 0 then (sp_X7_moved_s ((sp_frs s z (sp_fr3 s dm z) 0 i19).1) i19) else (if (((sp_frs s z (sp_fr3 s dm z) 0 i19).1) (0 + 87 + 10 * i19 + 5)) = 2 then ((sp_frs s z (sp_fr3 s dm z) 0 i19).1) else (sp_X7_moved_s ((sp_frs s z (sp_fr3 s dm z) 0 i19).1) i19))) fi tx (sp_dems (sp_fr1 s z) 0 dm 6) th sa ln pa le sk nu h)) (by first | (simp only [if_neg h20, if_neg h21]; done) | (simp only [if_neg h20, if_neg h21]; rfl)) ?_
          exact K21
        · refine x_iconst C 0 (by decide) dX7_frame_243 ?_
          refine x_goto C 253 (by decide) dX7_frame_244 ?_
          refine x_st (st' := [.int (if (sp_fro s z) = 0 then (sp_X7_size (sp_moved_by ((sp_frs s z (sp_fr3 s dm z) 0 i19).1) i19)) else (if (((sp_frs s z (sp_fr3 s dm z) 0 i19).1) (0 + 87 + 10 * i19 + 5)) = 2 then (0 : Int32) else (sp_X7_size (sp_moved_by ((sp_frs s z (sp_fr3 s dm z) 0 i19).1) i19)))), .int ((sp_frs s z (sp_fr3 s dm z) 0 i19).2)]) (by simp only [if_neg h20, if_pos h21]) ?_
          refine x_ws (ws' := (wMo g am (if (sp_fro s z) = 0 then (sp_X7_moved_s ((sp_frs s z (sp_fr3 s dm z) 0 i19).1) i19) else (if (((sp_frs s z (sp_fr3 s dm z) 0 i19).1) (0 + 87 + 10 * i19 + 5)) = 2 then ((sp_frs s z (sp_fr3 s dm z) 0 i19).1) else (sp_X7_moved_s ((sp_frs s z (sp_fr3 s dm z) 0 i19).1) i19))) fi tx (sp_dems (sp_fr1 s z) 0 dm 6) th sa ln pa le sk nu h)) (by first | (simp only [if_neg h20, if_pos h21]; done) | (simp only [if_neg h20, if_pos h21]; rfl)) ?_
          exact K21
    refine x_iadd C dX7_frame_253 ?_
    refine x_istore C [(4, .int (((sp_frs s z (sp_fr3 s dm z) 0 i19).2) + (if (sp_fro s z) = 0 then (sp_X7_size (sp_moved_by ((sp_frs s z (sp_fr3 s dm z) 0 i19).1) i19)) else (if (((sp_frs s z (sp_fr3 s dm z) 0 i19).1) (0 + 87 + 10 * i19 + 5)) = 2 then (0 : Int32) else (sp_X7_size (sp_moved_by ((sp_frs s z (sp_fr3 s dm z) 0 i19).1) i19)))))), (5, .int (nI i19)), (3, .int (sp_fro s z)), (2, .int (sp_frr s z)), (0, .ref (am 0)), (1, .int z)] rfl (by decide) dX7_frame_254 ?_
    refine x_iinc C 1 (nI (i19 + 1)) [(5, .int (nI (i19 + 1))), (4, .int (((sp_frs s z (sp_fr3 s dm z) 0 i19).2) + (if (sp_fro s z) = 0 then (sp_X7_size (sp_moved_by ((sp_frs s z (sp_fr3 s dm z) 0 i19).1) i19)) else (if (((sp_frs s z (sp_fr3 s dm z) 0 i19).1) (0 + 87 + 10 * i19 + 5)) = 2 then (0 : Int32) else (sp_X7_size (sp_moved_by ((sp_frs s z (sp_fr3 s dm z) 0 i19).1) i19)))))), (3, .int (sp_fro s z)), (2, .int (sp_frr s z)), (0, .ref (am 0)), (1, .int z)] rfl (nI_add _ _) rfl (by decide) dX7_frame_256 ?_
    refine x_goto C 218 (by decide) dX7_frame_259 ?_
    have es19 : (sp_frs s z (sp_fr3 s dm z) 0 (i19 + 1)) = ((if (sp_fro s z) = 0 then (sp_X7_moved_s ((sp_frs s z (sp_fr3 s dm z) 0 i19).1) i19) else (if (((sp_frs s z (sp_fr3 s dm z) 0 i19).1) (0 + 87 + 10 * i19 + 5)) = 2 then ((sp_frs s z (sp_fr3 s dm z) 0 i19).1) else (sp_X7_moved_s ((sp_frs s z (sp_fr3 s dm z) 0 i19).1) i19))), (((sp_frs s z (sp_fr3 s dm z) 0 i19).2) + (if (sp_fro s z) = 0 then (sp_X7_size (sp_moved_by ((sp_frs s z (sp_fr3 s dm z) 0 i19).1) i19)) else (if (((sp_frs s z (sp_fr3 s dm z) 0 i19).1) (0 + 87 + 10 * i19 + 5)) = 2 then (0 : Int32) else (sp_X7_size (sp_moved_by ((sp_frs s z (sp_fr3 s dm z) 0 i19).1) i19)))))) := rfl
    refine x_lve (lv' := [(5, .int (nI (i19 + 1))), (4, .int ((sp_frs s z (sp_fr3 s dm z) 0 (i19 + 1)).2)), (3, .int (sp_fro s z)), (2, .int (sp_frr s z)), (0, .ref (am 0)), (1, .int z)]) (by rw [es19]) ?_
    refine x_ws (ws' := (wMo g am ((sp_frs s z (sp_fr3 s dm z) 0 (i19 + 1)).1) fi tx (sp_dems (sp_fr1 s z) 0 dm 6) th sa ln pa le sk nu h)) (by rw [es19]) ?_
    exact ih19 (i19 + 1) (by omega)
