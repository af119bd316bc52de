set_option maxRecDepth 100000 in
set_option maxHeartbeats 400000 in
theorem k_X0_begin (l : Launch) (g : xGt) (ar : Nat) (rp : Int32) (rl : Int32) (rs : Int32) (rm : Int32) (rn : Int32) (rz : Int32)  : xM l g.1 (xT g) yX0_begin (ws_ yX0_begin cX0_begin 1 none) (xRm 0 0 0 0) 0 0 [.ref ar] (wRd g ar rp rl rs rm rn rz) (fun r9 w9 => r9 = none ∧ w9 = (wRd g ar 0 rl rs rm 0 0)) (fun _ _ => False) := by
  refine x_start (own := RX0) (nm := "begin") rfl rfl (by decide +kernel) rfl (nle rfl) (fun p e σ m args below meth c A C hno hr => ?_)
  refine x_lve (lv' := [(0, .ref ar)]) rfl ?_
  refine x_aload_n C 0 rfl rfl dX0_begin_0 ?_
  refine x_iconst C 0 (by decide) dX0_begin_1 ?_
  refine x_put C 0 0 0 tyX0 (wRd g ar 0 rl rs rm rn rz) rfl rfl rfl wLy_X0 tyX0_ok nmX0 wFL_X0_11 rfl (by decide) rfl rfl rfl rfl (nlt rfl) dX0_begin_2 ?_
  refine x_aload_n C 0 rfl rfl dX0_begin_5 ?_
  refine x_iconst C 0 (by decide) dX0_begin_6 ?_
  refine x_put C 0 0 4 tyX0 (wRd g ar 0 rl rs rm 0 rz) rfl rfl rfl wLy_X0 tyX0_ok nmX0 wFL_X0_15 rfl (by decide) rfl rfl rfl rfl (nlt rfl) dX0_begin_7 ?_
  refine x_aload_n C 0 rfl rfl dX0_begin_10 ?_
  refine x_iconst C 0 (by decide) dX0_begin_11 ?_
  refine x_put C 0 0 5 tyX0 (wRd g ar 0 rl rs rm 0 0) rfl rfl rfl wLy_X0 tyX0_ok nmX0 wFL_X0_19 rfl (by decide) rfl rfl rfl rfl (nlt rfl) dX0_begin_12 ?_
  exact x_vret C hr (nle rfl) (nle rfl) dX0_begin_15 ⟨rfl, rfl⟩
set_option maxRecDepth 100000 in
set_option maxHeartbeats 400000 in
theorem k_X0_goesTo (l : Launch) (g : xGt) (ar : Nat) (rp : Int32) (rl : Int32) (rs : Int32) (rm : Int32) (rn : Int32) (rz : Int32) (nx : Int32) : xM l g.1 (xT g) yX0_goesTo (ws_ yX0_goesTo cX0_goesTo 2 (some .boolean)) (xRm 0 0 0 0) 0 0 [.ref ar, .int nx] (wRd g ar rp rl rs rm rn rz) (fun r9 w9 => r9 = some (.int 1) ∧ w9 = (wRd g ar nx rl rs rm rn rz)) (fun _ _ => False) := by
  refine x_start (own := RX0) (nm := "goesTo") rfl rfl (by decide +kernel) rfl (nle rfl) (fun p e σ m args below meth c A C hno hr => ?_)
  refine x_lve (lv' := [(0, .ref ar), (1, .int nx)]) rfl ?_
  refine x_aload_n C 0 rfl rfl dX0_goesTo_0 ?_
  refine x_iload_n C 1 rfl rfl dX0_goesTo_1 ?_
  refine x_put C 0 0 0 tyX0 (wRd g ar nx rl rs rm rn rz) rfl rfl rfl wLy_X0 tyX0_ok nmX0 wFL_X0_11 rfl (by decide) rfl rfl rfl rfl (nlt rfl) dX0_goesTo_2 ?_
  refine x_iconst C 1 (by decide) dX0_goesTo_5 ?_
  exact x_zret C hr rfl (nle rfl) (nle rfl) dX0_goesTo_6 ⟨rfl, rfl⟩
def sp_X0_isAtCommandEnd (rp : Int32) : Int32 := (if rp = 5 then (1 : Int32) else (if rp = 6 then (1 : Int32) else 0))
theorem spb_X0_isAtCommandEnd (rp : Int32)  : (sp_X0_isAtCommandEnd rp) = 0 ∨ (sp_X0_isAtCommandEnd rp) = 1 := by
  unfold sp_X0_isAtCommandEnd
  exact (bool_ite (Or.inr rfl) (bool_ite (Or.inr rfl) (Or.inl rfl)))
set_option maxRecDepth 100000 in
set_option maxHeartbeats 400000 in
theorem k_X0_isAtCommandEnd (l : Launch) (g : xGt) (ar : Nat) (rp : Int32) (rl : Int32) (rs : Int32) (rm : Int32) (rn : Int32) (rz : Int32)  : xM l g.1 (xT g) yX0_isAtCommandEnd (ws_ yX0_isAtCommandEnd cX0_isAtCommandEnd 1 (some .boolean)) (xRm 0 0 0 0) 0 0 [.ref ar] (wRd g ar rp rl rs rm rn rz) (fun r9 w9 => r9 = some (.int (sp_X0_isAtCommandEnd rp)) ∧ w9 = (wRd g ar rp rl rs rm rn rz)) (fun _ _ => False) := by
  refine x_start (own := RX0) (nm := "isAtCommandEnd") rfl rfl (by decide +kernel) rfl (nle rfl) (fun p e σ m args below meth c A C hno hr => ?_)
  refine x_lve (lv' := [(0, .ref ar)]) rfl ?_
  refine x_aload_n C 0 rfl rfl dX0_isAtCommandEnd_0 ?_
  refine x_get C 0 0 0 rfl rfl wLy_X0 wFL_X0_11 rfl (by decide) rfl dX0_isAtCommandEnd_1 ?_
  refine x_iconst C 5 (by decide) dX0_isAtCommandEnd_4 ?_
  suffices K2 : xW p l e _ σ m args below meth c g.1 A 1 0 0 _ (wRd g ar rp rl rs rm rn rz) [(0, .ref ar)] 22 [.int (if rp = 5 then (1 : Int32) else (if rp = 6 then (1 : Int32) else 0))] by
    refine x_icmp_eq C 17 (by decide) dX0_isAtCommandEnd_5 (fun h1 => ?_) (fun h1 => ?_)
    · refine x_iconst C 1 (by decide) dX0_isAtCommandEnd_17 ?_
      refine x_goto C 22 (by decide) dX0_isAtCommandEnd_18 ?_
      refine x_st (st' := [.int (if rp = 5 then (1 : Int32) else (if rp = 6 then (1 : Int32) else 0))]) (by simp only [if_pos h1]) ?_
      exact K2
    · refine x_aload_n C 0 rfl rfl dX0_isAtCommandEnd_8 ?_
      refine x_get C 0 0 0 rfl rfl wLy_X0 wFL_X0_11 rfl (by decide) rfl dX0_isAtCommandEnd_9 ?_
      refine x_bipush C 6 (by decide) dX0_isAtCommandEnd_12 ?_
      refine x_icmp_ne C 21 (by decide) dX0_isAtCommandEnd_14 (fun h2 => ?_) (fun h2 => ?_)
      · refine x_iconst C 0 (by decide) dX0_isAtCommandEnd_21 ?_
        refine x_st (st' := [.int (if rp = 5 then (1 : Int32) else (if rp = 6 then (1 : Int32) else 0))]) (by simp only [if_neg h1, if_neg h2]) ?_
        exact K2
      · refine x_iconst C 1 (by decide) dX0_isAtCommandEnd_17 ?_
        refine x_goto C 22 (by decide) dX0_isAtCommandEnd_18 ?_
        refine x_st (st' := [.int (if rp = 5 then (1 : Int32) else (if rp = 6 then (1 : Int32) else 0))]) (by simp only [if_neg h1, if_pos h2]) ?_
        exact K2
  exact x_zret C hr (xnz (bool_ite (Or.inr rfl) (bool_ite (Or.inr rfl) (Or.inl rfl)))) (nle rfl) (nle rfl) dX0_isAtCommandEnd_22 ⟨(by first | (simp only [sp_X0_isAtCommandEnd]; done) | (simp only [sp_X0_isAtCommandEnd]; rfl)), rfl⟩
def sp_X0_signedNumber (rn : Int32) (rz : Int32) : Int32 := (if rn = 0 then rz else (-rz))
set_option maxRecDepth 100000 in
set_option maxHeartbeats 400000 in
theorem k_X0_signedNumber (l : Launch) (g : xGt) (ar : Nat) (rp : Int32) (rl : Int32) (rs : Int32) (rm : Int32) (rn : Int32) (rz : Int32)  : xM l g.1 (xT g) yX0_signedNumber (ws_ yX0_signedNumber cX0_signedNumber 1 (some .int)) (xRm 0 0 0 0) 0 0 [.ref ar] (wRd g ar rp rl rs rm rn rz) (fun r9 w9 => r9 = some (.int (sp_X0_signedNumber rn rz)) ∧ w9 = (wRd g ar rp rl rs rm rn rz)) (fun _ _ => False) := by
  refine x_start (own := RX0) (nm := "signedNumber") rfl rfl (by decide +kernel) rfl (nle rfl) (fun p e σ m args below meth c A C hno hr => ?_)
  refine x_lve (lv' := [(0, .ref ar)]) rfl ?_
  refine x_aload_n C 0 rfl rfl dX0_signedNumber_0 ?_
  refine x_get C 0 0 4 rfl rfl wLy_X0 wFL_X0_15 rfl (by decide) rfl dX0_signedNumber_1 ?_
  suffices K2 : xW p l e _ σ m args below meth c g.1 A 1 0 0 _ (wRd g ar rp rl rs rm rn rz) [(0, .ref ar)] 19 [.int (if rn = 0 then rz else (-rz))] by
    refine x_if_eq C 15 (by decide) dX0_signedNumber_4 (fun h1 => ?_) (fun h1 => ?_)
    · refine x_aload_n C 0 rfl rfl dX0_signedNumber_15 ?_
      refine x_get C 0 0 5 rfl rfl wLy_X0 wFL_X0_19 rfl (by decide) rfl dX0_signedNumber_16 ?_
      refine x_st (st' := [.int (if rn = 0 then rz else (-rz))]) (by simp only [if_pos h1]) ?_
      exact K2
    · refine x_aload_n C 0 rfl rfl dX0_signedNumber_7 ?_
      refine x_get C 0 0 5 rfl rfl wLy_X0 wFL_X0_19 rfl (by decide) rfl dX0_signedNumber_8 ?_
      refine x_ineg C dX0_signedNumber_11 ?_
      refine x_goto C 19 (by decide) dX0_signedNumber_12 ?_
      refine x_st (st' := [.int (if rn = 0 then rz else (-rz))]) (by simp only [if_neg h1]) ?_
      exact K2
  exact x_iret C hr (nle rfl) (nle rfl) dX0_signedNumber_19 ⟨(by first | (simp only [sp_X0_signedNumber]; done) | (simp only [sp_X0_signedNumber]; rfl)), rfl⟩
def sp_X0_takesLetter (cq : Int32) : Int32 := (if cq = 99 then 1 else (if cq = 102 then 1 else (if cq = 108 then 1 else (if cq = 114 then 1 else (if cq = 115 then 1 else (if cq = 116 then 1 else 0))))))
def sp_X0_takesLetter_rp (rp : Int32) (cq : Int32) : Int32 := (if cq = 99 then 6 else (if cq = 102 then 3 else (if cq = 108 then 3 else (if cq = 114 then 6 else (if cq = 115 then 1 else (if cq = 116 then 1 else rp))))))
def sp_X0_takesLetter_rl (cq : Int32) : Int32 := cq
def sp_X0_takesLetter_rm (rm : Int32) (cq : Int32) : Int32 := (if cq = 99 then rm else (if cq = 102 then 50 else (if cq = 108 then 50 else (if cq = 114 then rm else (if cq = 115 then 100 else (if cq = 116 then 25 else rm))))))
theorem spb_X0_takesLetter (cq : Int32)  : (sp_X0_takesLetter cq) = 0 ∨ (sp_X0_takesLetter cq) = 1 := by
  unfold sp_X0_takesLetter
  exact (bool_ite (Or.inr rfl) (bool_ite (Or.inr rfl) (bool_ite (Or.inr rfl) (bool_ite (Or.inr rfl) (bool_ite (Or.inr rfl) (bool_ite (Or.inr rfl) (Or.inl rfl)))))))
set_option maxRecDepth 100000 in
set_option maxHeartbeats 400000 in
theorem k_X0_takesLetter (l : Launch) (g : xGt) (ar : Nat) (rp : Int32) (rl : Int32) (rs : Int32) (rm : Int32) (rn : Int32) (rz : Int32) (cq : Int32) : xM l g.1 (xT g) yX0_takesLetter (ws_ yX0_takesLetter cX0_takesLetter 2 (some .boolean)) (xRm 1 21 0 0) 0 0 [.ref ar, .int cq] (wRd g ar rp rl rs rm rn rz) (fun r9 w9 => r9 = some (.int (sp_X0_takesLetter cq)) ∧ w9 = (wRd g ar (sp_X0_takesLetter_rp rp cq) (sp_X0_takesLetter_rl cq) rs (sp_X0_takesLetter_rm rm cq) rn rz)) (fun _ _ => False) := by
  refine x_start (own := RX0) (nm := "takesLetter") rfl rfl (by decide +kernel) rfl (nle rfl) (fun p e σ m args below meth c A C hno hr => ?_)
  refine x_lve (lv' := [(0, .ref ar), (1, .int cq)]) rfl ?_
  refine x_aload_n C 0 rfl rfl dX0_takesLetter_0 ?_
  refine x_iload_n C 1 rfl rfl dX0_takesLetter_1 ?_
  refine x_put C 0 0 1 tyX0 (wRd g ar rp cq rs rm rn rz) rfl rfl rfl wLy_X0 tyX0_ok nmX0 wFL_X0_42 rfl (by decide) rfl rfl rfl rfl (nlt rfl) dX0_takesLetter_2 ?_
  refine x_iload_n C 1 rfl rfl dX0_takesLetter_5 ?_
  by_cases h1 : cq = 99
  · refine x_tabIn C 116 dX0_takesLetter_6 (by rw [h1]; decide) (by rw [h1]; decide) (by rw [h1]; rfl) (by decide) ?_
    refine x_aload_n C 0 rfl rfl dX0_takesLetter_116 ?_
    refine x_bipush C 6 (by decide) dX0_takesLetter_117 ?_
    refine x_FV (w1 := ([] : va_W)) (wc := _) (w2 := ([] : va_W)) [.int 6] [] (wRd g ar 6 cq rs rm rn rz) C (k_X0_goesTo l g ar rp cq rs rm rn rz 6) rfl yV_X0_goesTo wML_X0_29 rfl 0 rfl rfl rfl rfl (nle rfl) (nle rfl) (nle rfl) (nle rfl) (nle rfl) dX0_takesLetter_119 ?_
    exact x_zret C hr rfl (nle rfl) (nle rfl) dX0_takesLetter_122 ⟨(by first | (simp only [sp_X0_takesLetter, if_pos h1]; done) | (simp only [sp_X0_takesLetter, if_pos h1]; rfl)), (by first | (simp only [sp_X0_takesLetter_rp, sp_X0_takesLetter_rl, sp_X0_takesLetter_rm, if_pos h1]; done) | (simp only [sp_X0_takesLetter_rp, sp_X0_takesLetter_rl, sp_X0_takesLetter_rm, if_pos h1]; rfl))⟩
  · by_cases h2 : cq = 102
    · refine x_tabIn C 123 dX0_takesLetter_6 (by rw [h2]; decide) (by rw [h2]; decide) (by rw [h2]; rfl) (by decide) ?_
      refine x_aload_n C 0 rfl rfl dX0_takesLetter_123 ?_
      refine x_bipush C 50 (by decide) dX0_takesLetter_124 ?_
      refine x_put C 0 0 3 tyX0 (wRd g ar rp cq rs 50 rn rz) rfl rfl rfl wLy_X0 tyX0_ok nmX0 wFL_X0_45 rfl (by decide) rfl rfl rfl rfl (nlt rfl) dX0_takesLetter_126 ?_
      refine x_aload_n C 0 rfl rfl dX0_takesLetter_129 ?_
      refine x_iconst C 3 (by decide) dX0_takesLetter_130 ?_
      refine x_FV (w1 := ([] : va_W)) (wc := _) (w2 := ([] : va_W)) [.int 3] [] (wRd g ar 3 cq rs 50 rn rz) C (k_X0_goesTo l g ar rp cq rs 50 rn rz 3) rfl yV_X0_goesTo wML_X0_29 rfl 0 rfl rfl rfl rfl (nle rfl) (nle rfl) (nle rfl) (nle rfl) (nle rfl) dX0_takesLetter_131 ?_
      exact x_zret C hr rfl (nle rfl) (nle rfl) dX0_takesLetter_134 ⟨(by first | (simp only [sp_X0_takesLetter, if_neg h1, if_pos h2]; done) | (simp only [sp_X0_takesLetter, if_neg h1, if_pos h2]; rfl)), (by first | (simp only [sp_X0_takesLetter_rp, sp_X0_takesLetter_rl, sp_X0_takesLetter_rm, if_neg h1, if_pos h2]; done) | (simp only [sp_X0_takesLetter_rp, sp_X0_takesLetter_rl, sp_X0_takesLetter_rm, if_neg h1, if_pos h2]; rfl))⟩
    · by_cases h3 : cq = 108
      · refine x_tabIn C 123 dX0_takesLetter_6 (by rw [h3]; decide) (by rw [h3]; decide) (by rw [h3]; rfl) (by decide) ?_
        refine x_aload_n C 0 rfl rfl dX0_takesLetter_123 ?_
        refine x_bipush C 50 (by decide) dX0_takesLetter_124 ?_
        refine x_put C 0 0 3 tyX0 (wRd g ar rp cq rs 50 rn rz) rfl rfl rfl wLy_X0 tyX0_ok nmX0 wFL_X0_45 rfl (by decide) rfl rfl rfl rfl (nlt rfl) dX0_takesLetter_126 ?_
        refine x_aload_n C 0 rfl rfl dX0_takesLetter_129 ?_
        refine x_iconst C 3 (by decide) dX0_takesLetter_130 ?_
        refine x_FV (w1 := ([] : va_W)) (wc := _) (w2 := ([] : va_W)) [.int 3] [] (wRd g ar 3 cq rs 50 rn rz) C (k_X0_goesTo l g ar rp cq rs 50 rn rz 3) rfl yV_X0_goesTo wML_X0_29 rfl 0 rfl rfl rfl rfl (nle rfl) (nle rfl) (nle rfl) (nle rfl) (nle rfl) dX0_takesLetter_131 ?_
        exact x_zret C hr rfl (nle rfl) (nle rfl) dX0_takesLetter_134 ⟨(by first | (simp only [sp_X0_takesLetter, if_neg h1, if_neg h2, if_pos h3]; done) | (simp only [sp_X0_takesLetter, if_neg h1, if_neg h2, if_pos h3]; rfl)), (by first | (simp only [sp_X0_takesLetter_rp, sp_X0_takesLetter_rl, sp_X0_takesLetter_rm, if_neg h1, if_neg h2, if_pos h3]; done) | (simp only [sp_X0_takesLetter_rp, sp_X0_takesLetter_rl, sp_X0_takesLetter_rm, if_neg h1, if_neg h2, if_pos h3]; rfl))⟩
      · by_cases h4 : cq = 114
        · refine x_tabIn C 116 dX0_takesLetter_6 (by rw [h4]; decide) (by rw [h4]; decide) (by rw [h4]; rfl) (by decide) ?_
          refine x_aload_n C 0 rfl rfl dX0_takesLetter_116 ?_
          refine x_bipush C 6 (by decide) dX0_takesLetter_117 ?_
          refine x_FV (w1 := ([] : va_W)) (wc := _) (w2 := ([] : va_W)) [.int 6] [] (wRd g ar 6 cq rs rm rn rz) C (k_X0_goesTo l g ar rp cq rs rm rn rz 6) rfl yV_X0_goesTo wML_X0_29 rfl 0 rfl rfl rfl rfl (nle rfl) (nle rfl) (nle rfl) (nle rfl) (nle rfl) dX0_takesLetter_119 ?_
          exact x_zret C hr rfl (nle rfl) (nle rfl) dX0_takesLetter_122 ⟨(by first | (simp only [sp_X0_takesLetter, if_neg h1, if_neg h2, if_neg h3, if_pos h4]; done) | (simp only [sp_X0_takesLetter, if_neg h1, if_neg h2, if_neg h3, if_pos h4]; rfl)), (by first | (simp only [sp_X0_takesLetter_rp, sp_X0_takesLetter_rl, sp_X0_takesLetter_rm, if_neg h1, if_neg h2, if_neg h3, if_pos h4]; done) | (simp only [sp_X0_takesLetter_rp, sp_X0_takesLetter_rl, sp_X0_takesLetter_rm, if_neg h1, if_neg h2, if_neg h3, if_pos h4]; rfl))⟩
        · by_cases h5 : cq = 115
          · refine x_tabIn C 92 dX0_takesLetter_6 (by rw [h5]; decide) (by rw [h5]; decide) (by rw [h5]; rfl) (by decide) ?_
            refine x_aload_n C 0 rfl rfl dX0_takesLetter_92 ?_
            refine x_bipush C 100 (by decide) dX0_takesLetter_93 ?_
            refine x_put C 0 0 3 tyX0 (wRd g ar rp cq rs 100 rn rz) rfl rfl rfl wLy_X0 tyX0_ok nmX0 wFL_X0_45 rfl (by decide) rfl rfl rfl rfl (nlt rfl) dX0_takesLetter_95 ?_
            refine x_aload_n C 0 rfl rfl dX0_takesLetter_98 ?_
            refine x_iconst C 1 (by decide) dX0_takesLetter_99 ?_
            refine x_FV (w1 := ([] : va_W)) (wc := _) (w2 := ([] : va_W)) [.int 1] [] (wRd g ar 1 cq rs 100 rn rz) C (k_X0_goesTo l g ar rp cq rs 100 rn rz 1) rfl yV_X0_goesTo wML_X0_29 rfl 0 rfl rfl rfl rfl (nle rfl) (nle rfl) (nle rfl) (nle rfl) (nle rfl) dX0_takesLetter_100 ?_
            exact x_zret C hr rfl (nle rfl) (nle rfl) dX0_takesLetter_103 ⟨(by first | (simp only [sp_X0_takesLetter, if_neg h1, if_neg h2, if_neg h3, if_neg h4, if_pos h5]; done) | (simp only [sp_X0_takesLetter, if_neg h1, if_neg h2, if_neg h3, if_neg h4, if_pos h5]; rfl)), (by first | (simp only [sp_X0_takesLetter_rp, sp_X0_takesLetter_rl, sp_X0_takesLetter_rm, if_neg h1, if_neg h2, if_neg h3, if_neg h4, if_pos h5]; done) | (simp only [sp_X0_takesLetter_rp, sp_X0_takesLetter_rl, sp_X0_takesLetter_rm, if_neg h1, if_neg h2, if_neg h3, if_neg h4, if_pos h5]; rfl))⟩
          · by_cases h6 : cq = 116
            · refine x_tabIn C 104 dX0_takesLetter_6 (by rw [h6]; decide) (by rw [h6]; decide) (by rw [h6]; rfl) (by decide) ?_
              refine x_aload_n C 0 rfl rfl dX0_takesLetter_104 ?_
              refine x_bipush C 25 (by decide) dX0_takesLetter_105 ?_
              refine x_put C 0 0 3 tyX0 (wRd g ar rp cq rs 25 rn rz) rfl rfl rfl wLy_X0 tyX0_ok nmX0 wFL_X0_45 rfl (by decide) rfl rfl rfl rfl (nlt rfl) dX0_takesLetter_107 ?_
              refine x_aload_n C 0 rfl rfl dX0_takesLetter_110 ?_
              refine x_iconst C 1 (by decide) dX0_takesLetter_111 ?_
              refine x_FV (w1 := ([] : va_W)) (wc := _) (w2 := ([] : va_W)) [.int 1] [] (wRd g ar 1 cq rs 25 rn rz) C (k_X0_goesTo l g ar rp cq rs 25 rn rz 1) rfl yV_X0_goesTo wML_X0_29 rfl 0 rfl rfl rfl rfl (nle rfl) (nle rfl) (nle rfl) (nle rfl) (nle rfl) dX0_takesLetter_112 ?_
              exact x_zret C hr rfl (nle rfl) (nle rfl) dX0_takesLetter_115 ⟨(by first | (simp only [sp_X0_takesLetter, if_neg h1, if_neg h2, if_neg h3, if_neg h4, if_neg h5, if_pos h6]; done) | (simp only [sp_X0_takesLetter, if_neg h1, if_neg h2, if_neg h3, if_neg h4, if_neg h5, if_pos h6]; rfl)), (by first | (simp only [sp_X0_takesLetter_rp, sp_X0_takesLetter_rl, sp_X0_takesLetter_rm, if_neg h1, if_neg h2, if_neg h3, if_neg h4, if_neg h5, if_pos h6]; done) | (simp only [sp_X0_takesLetter_rp, sp_X0_takesLetter_rl, sp_X0_takesLetter_rm, if_neg h1, if_neg h2, if_neg h3, if_neg h4, if_neg h5, if_pos h6]; rfl))⟩
            · refine x_tabNo C 135 dX0_takesLetter_6 (by decide) (by intro i0 hi0 hd0 e0; rcases (show i0 = 0 ∨ i0 = 1 ∨ i0 = 2 ∨ i0 = 3 ∨ i0 = 4 ∨ i0 = 5 ∨ i0 = 6 ∨ i0 = 7 ∨ i0 = 8 ∨ i0 = 9 ∨ i0 = 10 ∨ i0 = 11 ∨ i0 = 12 ∨ i0 = 13 ∨ i0 = 14 ∨ i0 = 15 ∨ i0 = 16 ∨ i0 = 17 by have : i0 < 18 := hi0; omega) with rfl | rfl | rfl | rfl | rfl | rfl | rfl | rfl | rfl | rfl | rfl | rfl | rfl | rfl | rfl | rfl | rfl | rfl <;> first | exact hd0 rfl | exact absurd ((lk_ne e0.symm).symm.trans (by decide)) h1 | exact absurd ((lk_ne e0.symm).symm.trans (by decide)) h2 | exact absurd ((lk_ne e0.symm).symm.trans (by decide)) h3 | exact absurd ((lk_ne e0.symm).symm.trans (by decide)) h4 | exact absurd ((lk_ne e0.symm).symm.trans (by decide)) h5 | exact absurd ((lk_ne e0.symm).symm.trans (by decide)) h6) (by decide) ?_
              refine x_iconst C 0 (by decide) dX0_takesLetter_135 ?_
              exact x_zret C hr rfl (nle rfl) (nle rfl) dX0_takesLetter_136 ⟨(by first | (simp only [sp_X0_takesLetter, if_neg h1, if_neg h2, if_neg h3, if_neg h4, if_neg h5, if_neg h6]; done) | (simp only [sp_X0_takesLetter, if_neg h1, if_neg h2, if_neg h3, if_neg h4, if_neg h5, if_neg h6]; rfl)), (by first | (simp only [sp_X0_takesLetter_rp, sp_X0_takesLetter_rl, sp_X0_takesLetter_rm, if_neg h1, if_neg h2, if_neg h3, if_neg h4, if_neg h5, if_neg h6]; done) | (simp only [sp_X0_takesLetter_rp, sp_X0_takesLetter_rl, sp_X0_takesLetter_rm, if_neg h1, if_neg h2, if_neg h3, if_neg h4, if_neg h5, if_neg h6]; rfl))⟩
def sp_X0_takesStick (cq : Int32) : Int32 := (if cq < 48 then 0 else (if cq < 52 then 1 else 0))
def sp_X0_takesStick_rp (rp : Int32) (cq : Int32) : Int32 := (if cq < 48 then rp else (if cq < 52 then 2 else rp))
def sp_X0_takesStick_rs (rs : Int32) (cq : Int32) : Int32 := (if cq < 48 then rs else (if cq < 52 then (cq - 48) else rs))
theorem spb_X0_takesStick (cq : Int32)  : (sp_X0_takesStick cq) = 0 ∨ (sp_X0_takesStick cq) = 1 := by
  unfold sp_X0_takesStick
  exact (bool_ite (Or.inl rfl) (bool_ite (Or.inr rfl) (Or.inl rfl)))
set_option maxRecDepth 100000 in
set_option maxHeartbeats 400000 in
theorem k_X0_takesStick (l : Launch) (g : xGt) (ar : Nat) (rp : Int32) (rl : Int32) (rs : Int32) (rm : Int32) (rn : Int32) (rz : Int32) (cq : Int32) : xM l g.1 (xT g) yX0_takesStick (ws_ yX0_takesStick cX0_takesStick 2 (some .boolean)) (xRm 1 21 0 0) 0 0 [.ref ar, .int cq] (wRd g ar rp rl rs rm rn rz) (fun r9 w9 => r9 = some (.int (sp_X0_takesStick cq)) ∧ w9 = (wRd g ar (sp_X0_takesStick_rp rp cq) rl (sp_X0_takesStick_rs rs cq) rm rn rz)) (fun _ _ => False) := by
  refine x_start (own := RX0) (nm := "takesStick") rfl rfl (by decide +kernel) rfl (nle rfl) (fun p e σ m args below meth c A C hno hr => ?_)
  refine x_lve (lv' := [(0, .ref ar), (1, .int cq)]) rfl ?_
  refine x_iload_n C 1 rfl rfl dX0_takesStick_0 ?_
  refine x_bipush C 48 (by decide) dX0_takesStick_1 ?_
  refine x_icmp_lt C 12 (by decide) dX0_takesStick_3 (fun h1 => ?_) (fun h1 => ?_)
  · refine x_iconst C 0 (by decide) dX0_takesStick_12 ?_
    exact x_zret C hr rfl (nle rfl) (nle rfl) dX0_takesStick_13 ⟨(by first | (simp only [sp_X0_takesStick, if_pos h1]; done) | (simp only [sp_X0_takesStick, if_pos h1]; rfl)), (by first | (simp only [sp_X0_takesStick_rp, sp_X0_takesStick_rs, if_pos h1]; done) | (simp only [sp_X0_takesStick_rp, sp_X0_takesStick_rs, if_pos h1]; rfl))⟩
  · refine x_iload_n C 1 rfl rfl dX0_takesStick_6 ?_
    refine x_bipush C 52 (by decide) dX0_takesStick_7 ?_
    refine x_icmp_lt C 14 (by decide) dX0_takesStick_9 (fun h2 => ?_) (fun h2 => ?_)
    · refine x_aload_n C 0 rfl rfl dX0_takesStick_14 ?_
      refine x_iload_n C 1 rfl rfl dX0_takesStick_15 ?_
      refine x_bipush C 48 (by decide) dX0_takesStick_16 ?_
      refine x_isub C dX0_takesStick_18 ?_
      refine x_put C 0 0 2 tyX0 (wRd g ar rp rl (cq - 48) rm rn rz) rfl rfl rfl wLy_X0 tyX0_ok nmX0 wFL_X0_48 rfl (by decide) rfl rfl rfl rfl (nlt rfl) dX0_takesStick_19 ?_
      refine x_aload_n C 0 rfl rfl dX0_takesStick_22 ?_
      refine x_iconst C 2 (by decide) dX0_takesStick_23 ?_
      refine x_FV (w1 := ([] : va_W)) (wc := _) (w2 := ([] : va_W)) [.int 2] [] (wRd g ar 2 rl (cq - 48) rm rn rz) C (k_X0_goesTo l g ar rp rl (cq - 48) rm rn rz 2) rfl yV_X0_goesTo wML_X0_29 rfl 0 rfl rfl rfl rfl (nle rfl) (nle rfl) (nle rfl) (nle rfl) (nle rfl) dX0_takesStick_24 ?_
      exact x_zret C hr rfl (nle rfl) (nle rfl) dX0_takesStick_27 ⟨(by first | (simp only [sp_X0_takesStick, if_neg h1, if_pos h2]; done) | (simp only [sp_X0_takesStick, if_neg h1, if_pos h2]; rfl)), (by first | (simp only [sp_X0_takesStick_rp, sp_X0_takesStick_rs, if_neg h1, if_pos h2]; done) | (simp only [sp_X0_takesStick_rp, sp_X0_takesStick_rs, if_neg h1, if_pos h2]; rfl))⟩
    · refine x_iconst C 0 (by decide) dX0_takesStick_12 ?_
      exact x_zret C hr rfl (nle rfl) (nle rfl) dX0_takesStick_13 ⟨(by first | (simp only [sp_X0_takesStick, if_neg h1, if_neg h2]; done) | (simp only [sp_X0_takesStick, if_neg h1, if_neg h2]; rfl)), (by first | (simp only [sp_X0_takesStick_rp, sp_X0_takesStick_rs, if_neg h1, if_neg h2]; done) | (simp only [sp_X0_takesStick_rp, sp_X0_takesStick_rs, if_neg h1, if_neg h2]; rfl))⟩
def sp_X0_takesDigit (rm : Int32) (rz : Int32) (cq : Int32) (lst : Int32) : Int32 := (if (cq - 48) < lst then 0 else (if 9 < (cq - 48) then 0 else (if ((rz * 10) + (cq - 48)) ≤ rm then 1 else 0)))
def sp_X0_takesDigit_rp (rp : Int32) (rm : Int32) (rz : Int32) (cq : Int32) (lst : Int32) : Int32 := (if (cq - 48) < lst then rp else (if 9 < (cq - 48) then rp else (if ((rz * 10) + (cq - 48)) ≤ rm then 5 else rp)))
def sp_X0_takesDigit_rz (rm : Int32) (rz : Int32) (cq : Int32) (lst : Int32) : Int32 := (if (cq - 48) < lst then rz else (if 9 < (cq - 48) then rz else (if ((rz * 10) + (cq - 48)) ≤ rm then ((rz * 10) + (cq - 48)) else rz)))
theorem spb_X0_takesDigit (rm : Int32) (rz : Int32) (cq : Int32) (lst : Int32)  : (sp_X0_takesDigit rm rz cq lst) = 0 ∨ (sp_X0_takesDigit rm rz cq lst) = 1 := by
  unfold sp_X0_takesDigit
  exact (bool_ite (Or.inl rfl) (bool_ite (Or.inl rfl) (bool_ite (Or.inr rfl) (Or.inl rfl))))
set_option maxRecDepth 100000 in
set_option maxHeartbeats 400000 in
theorem k_X0_takesDigit (l : Launch) (g : xGt) (ar : Nat) (rp : Int32) (rl : Int32) (rs : Int32) (rm : Int32) (rn : Int32) (rz : Int32) (cq : Int32) (lst : Int32) : xM l g.1 (xT g) yX0_takesDigit (ws_ yX0_takesDigit cX0_takesDigit 4 (some .boolean)) (xRm 1 21 0 0) 0 0 [.ref ar, .int cq, .int lst] (wRd g ar rp rl rs rm rn rz) (fun r9 w9 => r9 = some (.int (sp_X0_takesDigit rm rz cq lst)) ∧ w9 = (wRd g ar (sp_X0_takesDigit_rp rp rm rz cq lst) rl rs rm rn (sp_X0_takesDigit_rz rm rz cq lst))) (fun _ _ => False) := by
  refine x_start (own := RX0) (nm := "takesDigit") rfl rfl (by decide +kernel) rfl (nle rfl) (fun p e σ m args below meth c A C hno hr => ?_)
  refine x_lve (lv' := [(0, .ref ar), (1, .int cq), (2, .int lst)]) rfl ?_
  refine x_iload_n C 1 rfl rfl dX0_takesDigit_0 ?_
  refine x_bipush C 48 (by decide) dX0_takesDigit_1 ?_
  refine x_isub C dX0_takesDigit_3 ?_
  refine x_istore_n C [(3, .int (cq - 48)), (0, .ref ar), (1, .int cq), (2, .int lst)] rfl rfl (by decide) dX0_takesDigit_4 ?_
  refine x_iload_n C 0 rfl rfl dX0_takesDigit_5 ?_
  refine x_iload_n C 3 rfl rfl dX0_takesDigit_6 ?_
  refine x_icmp_lt C 32 (by decide) dX0_takesDigit_7 (fun h1 => ?_) (fun h1 => ?_)
  · refine x_iconst C 0 (by decide) dX0_takesDigit_32 ?_
    exact x_zret C hr rfl (nle rfl) (nle rfl) dX0_takesDigit_33 ⟨(by first | (simp only [sp_X0_takesDigit, if_pos h1]; done) | (simp only [sp_X0_takesDigit, if_pos h1]; rfl)), (by first | (simp only [sp_X0_takesDigit_rp, sp_X0_takesDigit_rz, if_pos h1]; done) | (simp only [sp_X0_takesDigit_rp, sp_X0_takesDigit_rz, if_pos h1]; rfl))⟩
  · refine x_iload_n C 0 rfl rfl dX0_takesDigit_10 ?_
    refine x_bipush C 9 (by decide) dX0_takesDigit_11 ?_
    refine x_icmp_gt C 32 (by decide) dX0_takesDigit_13 (fun h2 => ?_) (fun h2 => ?_)
    · refine x_iconst C 0 (by decide) dX0_takesDigit_32 ?_
      exact x_zret C hr rfl (nle rfl) (nle rfl) dX0_takesDigit_33 ⟨(by first | (simp only [sp_X0_takesDigit, if_neg h1, if_pos h2]; done) | (simp only [sp_X0_takesDigit, if_neg h1, if_pos h2]; rfl)), (by first | (simp only [sp_X0_takesDigit_rp, sp_X0_takesDigit_rz, if_neg h1, if_pos h2]; done) | (simp only [sp_X0_takesDigit_rp, sp_X0_takesDigit_rz, if_neg h1, if_pos h2]; rfl))⟩
    · refine x_aload_n C 1 rfl rfl dX0_takesDigit_16 ?_
      refine x_get C 0 0 5 rfl rfl wLy_X0 wFL_X0_19 rfl (by decide) rfl dX0_takesDigit_17 ?_
      refine x_bipush C 10 (by decide) dX0_takesDigit_20 ?_
      refine x_imul C dX0_takesDigit_22 ?_
      refine x_iload_n C 0 rfl rfl dX0_takesDigit_23 ?_
      refine x_iadd C dX0_takesDigit_24 ?_
      refine x_aload_n C 1 rfl rfl dX0_takesDigit_25 ?_
      refine x_get C 0 0 3 rfl rfl wLy_X0 wFL_X0_45 rfl (by decide) rfl dX0_takesDigit_26 ?_
      refine x_icmp_le C 34 (by decide) dX0_takesDigit_29 (fun h3 => ?_) (fun h3 => ?_)
      · refine x_aload_n C 1 rfl rfl dX0_takesDigit_34 ?_
        refine x_aload_n C 1 rfl rfl dX0_takesDigit_35 ?_
        refine x_get C 0 0 5 rfl rfl wLy_X0 wFL_X0_19 rfl (by decide) rfl dX0_takesDigit_36 ?_
        refine x_bipush C 10 (by decide) dX0_takesDigit_39 ?_
        refine x_imul C dX0_takesDigit_41 ?_
        refine x_iload_n C 0 rfl rfl dX0_takesDigit_42 ?_
        refine x_iadd C dX0_takesDigit_43 ?_
        refine x_put C 0 0 5 tyX0 (wRd g ar rp rl rs rm rn ((rz * 10) + (cq - 48))) rfl rfl rfl wLy_X0 tyX0_ok nmX0 wFL_X0_19 rfl (by decide) rfl rfl rfl rfl (nlt rfl) dX0_takesDigit_44 ?_
        refine x_aload_n C 1 rfl rfl dX0_takesDigit_47 ?_
        refine x_iconst C 5 (by decide) dX0_takesDigit_48 ?_
        refine x_FV (w1 := ([] : va_W)) (wc := _) (w2 := ([] : va_W)) [.int 5] [] (wRd g ar 5 rl rs rm rn ((rz * 10) + (cq - 48))) C (k_X0_goesTo l g ar rp rl rs rm rn ((rz * 10) + (cq - 48)) 5) rfl yV_X0_goesTo wML_X0_29 rfl 0 rfl rfl rfl rfl (nle rfl) (nle rfl) (nle rfl) (nle rfl) (nle rfl) dX0_takesDigit_49 ?_
        exact x_zret C hr rfl (nle rfl) (nle rfl) dX0_takesDigit_52 ⟨(by first | (simp only [sp_X0_takesDigit, if_neg h1, if_neg h2, if_pos h3]; done) | (simp only [sp_X0_takesDigit, if_neg h1, if_neg h2, if_pos h3]; rfl)), (by first | (simp only [sp_X0_takesDigit_rp, sp_X0_takesDigit_rz, if_neg h1, if_neg h2, if_pos h3]; done) | (simp only [sp_X0_takesDigit_rp, sp_X0_takesDigit_rz, if_neg h1, if_neg h2, if_pos h3]; rfl))⟩
      · refine x_iconst C 0 (by decide) dX0_takesDigit_32 ?_
        exact x_zret C hr rfl (nle rfl) (nle rfl) dX0_takesDigit_33 ⟨(by first | (simp only [sp_X0_takesDigit, if_neg h1, if_neg h2, if_neg h3]; done) | (simp only [sp_X0_takesDigit, if_neg h1, if_neg h2, if_neg h3]; rfl)), (by first | (simp only [sp_X0_takesDigit_rp, sp_X0_takesDigit_rz, if_neg h1, if_neg h2, if_neg h3]; done) | (simp only [sp_X0_takesDigit_rp, sp_X0_takesDigit_rz, if_neg h1, if_neg h2, if_neg h3]; rfl))⟩
def sp_X0_takesNumberStart (rl : Int32) (rm : Int32) (rz : Int32) (cq : Int32) : Int32 := (if (if rl = 115 then (1 : Int32) else (if rl = 116 then (1 : Int32) else 0)) = 0 then (sp_X0_takesDigit rm rz cq 1) else (if cq = 45 then 1 else (if cq = 48 then 1 else (sp_X0_takesDigit rm rz cq 1))))
def sp_X0_takesNumberStart_rp (rp : Int32) (rl : Int32) (rm : Int32) (rz : Int32) (cq : Int32) : Int32 := (if (if rl = 115 then (1 : Int32) else (if rl = 116 then (1 : Int32) else 0)) = 0 then (sp_X0_takesDigit_rp rp rm rz cq 1) else (if cq = 45 then 4 else (if cq = 48 then 6 else (sp_X0_takesDigit_rp rp rm rz cq 1))))
def sp_X0_takesNumberStart_rn (rl : Int32) (rn : Int32) (cq : Int32) : Int32 := (if (if rl = 115 then (1 : Int32) else (if rl = 116 then (1 : Int32) else 0)) = 0 then rn else (if cq = 45 then 1 else rn))
def sp_X0_takesNumberStart_rz (rl : Int32) (rm : Int32) (rz : Int32) (cq : Int32) : Int32 := (if (if rl = 115 then (1 : Int32) else (if rl = 116 then (1 : Int32) else 0)) = 0 then (sp_X0_takesDigit_rz rm rz cq 1) else (if cq = 45 then rz else (if cq = 48 then rz else (sp_X0_takesDigit_rz rm rz cq 1))))
theorem spb_X0_takesNumberStart (rl : Int32) (rm : Int32) (rz : Int32) (cq : Int32)  : (sp_X0_takesNumberStart rl rm rz cq) = 0 ∨ (sp_X0_takesNumberStart rl rm rz cq) = 1 := by
  unfold sp_X0_takesNumberStart
  exact (bool_ite (spb_X0_takesDigit rm rz cq 1) (bool_ite (Or.inr rfl) (bool_ite (Or.inr rfl) (spb_X0_takesDigit rm rz cq 1))))
set_option maxRecDepth 100000 in
set_option maxHeartbeats 400000 in
theorem k_X0_takesNumberStart (l : Launch) (g : xGt) (ar : Nat) (rp : Int32) (rl : Int32) (rs : Int32) (rm : Int32) (rn : Int32) (rz : Int32) (cq : Int32) : xM l g.1 (xT g) yX0_takesNumberStart (ws_ yX0_takesNumberStart cX0_takesNumberStart 3 (some .boolean)) (xRm 2 44 0 0) 0 0 [.ref ar, .int cq] (wRd g ar rp rl rs rm rn rz) (fun r9 w9 => r9 = some (.int (sp_X0_takesNumberStart rl rm rz cq)) ∧ w9 = (wRd g ar (sp_X0_takesNumberStart_rp rp rl rm rz cq) rl rs rm (sp_X0_takesNumberStart_rn rl rn cq) (sp_X0_takesNumberStart_rz rl rm rz cq))) (fun _ _ => False) := by
  refine x_start (own := RX0) (nm := "takesNumberStart") rfl rfl (by decide +kernel) rfl (nle rfl) (fun p e σ m args below meth c A C hno hr => ?_)
  refine x_lve (lv' := [(0, .ref ar), (1, .int cq)]) rfl ?_
  refine x_aload_n C 0 rfl rfl dX0_takesNumberStart_0 ?_
  refine x_get C 0 0 1 rfl rfl wLy_X0 wFL_X0_42 rfl (by decide) rfl dX0_takesNumberStart_1 ?_
  refine x_bipush C 115 (by decide) dX0_takesNumberStart_4 ?_
  suffices K2 : xW p l e _ σ m args below meth c g.1 A 3 0 0 _ (wRd g ar rp rl rs rm rn rz) [(0, .ref ar), (1, .int cq)] 23 [.int (if rl = 115 then (1 : Int32) else (if rl = 116 then (1 : Int32) else 0))] by
    refine x_icmp_eq C 18 (by decide) dX0_takesNumberStart_6 (fun h1 => ?_) (fun h1 => ?_)
    · refine x_iconst C 1 (by decide) dX0_takesNumberStart_18 ?_
      refine x_goto C 23 (by decide) dX0_takesNumberStart_19 ?_
      refine x_st (st' := [.int (if rl = 115 then (1 : Int32) else (if rl = 116 then (1 : Int32) else 0))]) (by simp only [if_pos h1]) ?_
      exact K2
    · refine x_aload_n C 0 rfl rfl dX0_takesNumberStart_9 ?_
      refine x_get C 0 0 1 rfl rfl wLy_X0 wFL_X0_42 rfl (by decide) rfl dX0_takesNumberStart_10 ?_
      refine x_bipush C 116 (by decide) dX0_takesNumberStart_13 ?_
      refine x_icmp_ne C 22 (by decide) dX0_takesNumberStart_15 (fun h2 => ?_) (fun h2 => ?_)
      · refine x_iconst C 0 (by decide) dX0_takesNumberStart_22 ?_
        refine x_st (st' := [.int (if rl = 115 then (1 : Int32) else (if rl = 116 then (1 : Int32) else 0))]) (by simp only [if_neg h1, if_neg h2]) ?_
        exact K2
      · refine x_iconst C 1 (by decide) dX0_takesNumberStart_18 ?_
        refine x_goto C 23 (by decide) dX0_takesNumberStart_19 ?_
        refine x_st (st' := [.int (if rl = 115 then (1 : Int32) else (if rl = 116 then (1 : Int32) else 0))]) (by simp only [if_neg h1, if_pos h2]) ?_
        exact K2
  refine x_istore_n C [(2, .int (if rl = 115 then (1 : Int32) else (if rl = 116 then (1 : Int32) else 0))), (0, .ref ar), (1, .int cq)] rfl rfl (by decide) dX0_takesNumberStart_23 ?_
  refine x_iload_n C 0 rfl rfl dX0_takesNumberStart_24 ?_
  refine x_if_eq C 45 (by decide) dX0_takesNumberStart_25 (fun h4 => ?_) (fun h4 => ?_)
  · refine x_iload_n C 0 rfl rfl dX0_takesNumberStart_45 ?_
    refine x_if_eq C 62 (by decide) dX0_takesNumberStart_46 (fun _ => ?_) (fun hz => absurd h4 hz)
    refine x_aload_n C 1 rfl rfl dX0_takesNumberStart_62 ?_
    refine x_iload_n C 2 rfl rfl dX0_takesNumberStart_63 ?_
    refine x_iconst C 1 (by decide) dX0_takesNumberStart_64 ?_
    refine x_FV (w1 := ([] : va_W)) (wc := _) (w2 := ([] : va_W)) [.int cq, .int 1] [] (wRd g ar (sp_X0_takesDigit_rp rp rm rz cq 1) rl rs rm rn (sp_X0_takesDigit_rz rm rz cq 1)) C (k_X0_takesDigit l g ar rp rl rs rm rn rz cq 1) rfl yV_X0_takesDigit wML_X0_35 rfl 0 rfl rfl rfl rfl (nle rfl) (nle rfl) (nle rfl) (nle rfl) (nle rfl) dX0_takesNumberStart_65 ?_
    exact x_zret C hr (xnz (spb_X0_takesDigit rm rz cq 1)) (nle rfl) (nle rfl) dX0_takesNumberStart_68 ⟨(by first | (simp only [sp_X0_takesNumberStart, if_pos h4]; done) | (simp only [sp_X0_takesNumberStart, if_pos h4]; rfl)), (by first | (simp only [sp_X0_takesNumberStart_rp, sp_X0_takesNumberStart_rn, sp_X0_takesNumberStart_rz, if_pos h4]; done) | (simp only [sp_X0_takesNumberStart_rp, sp_X0_takesNumberStart_rn, sp_X0_takesNumberStart_rz, if_pos h4]; rfl))⟩
  · refine x_iload_n C 2 rfl rfl dX0_takesNumberStart_28 ?_
    refine x_bipush C 45 (by decide) dX0_takesNumberStart_29 ?_
    refine x_icmp_ne C 45 (by decide) dX0_takesNumberStart_31 (fun h5 => ?_) (fun h5 => ?_)
    · refine x_iload_n C 0 rfl rfl dX0_takesNumberStart_45 ?_
      refine x_if_eq C 62 (by decide) dX0_takesNumberStart_46 (fun hz => absurd hz h4) (fun _ => ?_)
      refine x_iload_n C 2 rfl rfl dX0_takesNumberStart_49 ?_
      refine x_bipush C 48 (by decide) dX0_takesNumberStart_50 ?_
      refine x_icmp_ne C 62 (by decide) dX0_takesNumberStart_52 (fun h6 => ?_) (fun h6 => ?_)
      · refine x_aload_n C 1 rfl rfl dX0_takesNumberStart_62 ?_
        refine x_iload_n C 2 rfl rfl dX0_takesNumberStart_63 ?_
        refine x_iconst C 1 (by decide) dX0_takesNumberStart_64 ?_
        refine x_FV (w1 := ([] : va_W)) (wc := _) (w2 := ([] : va_W)) [.int cq, .int 1] [] (wRd g ar (sp_X0_takesDigit_rp rp rm rz cq 1) rl rs rm rn (sp_X0_takesDigit_rz rm rz cq 1)) C (k_X0_takesDigit l g ar rp rl rs rm rn rz cq 1) rfl yV_X0_takesDigit wML_X0_35 rfl 0 rfl rfl rfl rfl (nle rfl) (nle rfl) (nle rfl) (nle rfl) (nle rfl) dX0_takesNumberStart_65 ?_
        exact x_zret C hr (xnz (spb_X0_takesDigit rm rz cq 1)) (nle rfl) (nle rfl) dX0_takesNumberStart_68 ⟨(by first | (simp only [sp_X0_takesNumberStart, if_neg h4, if_neg h5, if_neg h6]; done) | (simp only [sp_X0_takesNumberStart, if_neg h4, if_neg h5, if_neg h6]; rfl)), (by first | (simp only [sp_X0_takesNumberStart_rp, sp_X0_takesNumberStart_rn, sp_X0_takesNumberStart_rz, if_neg h4, if_neg h5, if_neg h6]; done) | (simp only [sp_X0_takesNumberStart_rp, sp_X0_takesNumberStart_rn, sp_X0_takesNumberStart_rz, if_neg h4, if_neg h5, if_neg h6]; rfl))⟩
      · refine x_aload_n C 1 rfl rfl dX0_takesNumberStart_55 ?_
        refine x_bipush C 6 (by decide) dX0_takesNumberStart_56 ?_
        refine x_FV (w1 := ([] : va_W)) (wc := _) (w2 := ([] : va_W)) [.int 6] [] (wRd g ar 6 rl rs rm rn rz) C (k_X0_goesTo l g ar rp rl rs rm rn rz 6) rfl yV_X0_goesTo wML_X0_29 rfl 0 rfl rfl rfl rfl (nle rfl) (nle rfl) (nle rfl) (nle rfl) (nle rfl) dX0_takesNumberStart_58 ?_
        exact x_zret C hr rfl (nle rfl) (nle rfl) dX0_takesNumberStart_61 ⟨(by first | (simp only [sp_X0_takesNumberStart, if_neg h4, if_neg h5, if_pos h6]; done) | (simp only [sp_X0_takesNumberStart, if_neg h4, if_neg h5, if_pos h6]; rfl)), (by first | (simp only [sp_X0_takesNumberStart_rp, sp_X0_takesNumberStart_rn, sp_X0_takesNumberStart_rz, if_neg h4, if_neg h5, if_pos h6]; done) | (simp only [sp_X0_takesNumberStart_rp, sp_X0_takesNumberStart_rn, sp_X0_takesNumberStart_rz, if_neg h4, if_neg h5, if_pos h6]; rfl))⟩
    · refine x_aload_n C 1 rfl rfl dX0_takesNumberStart_34 ?_
      refine x_iconst C 1 (by decide) dX0_takesNumberStart_35 ?_
      refine x_put C 0 0 4 tyX0 (wRd g ar rp rl rs rm 1 rz) rfl rfl rfl wLy_X0 tyX0_ok nmX0 wFL_X0_15 rfl (by decide) rfl rfl rfl rfl (nlt rfl) dX0_takesNumberStart_36 ?_
      refine x_aload_n C 1 rfl rfl dX0_takesNumberStart_39 ?_
      refine x_iconst C 4 (by decide) dX0_takesNumberStart_40 ?_
      refine x_FV (w1 := ([] : va_W)) (wc := _) (w2 := ([] : va_W)) [.int 4] [] (wRd g ar 4 rl rs rm 1 rz) C (k_X0_goesTo l g ar rp rl rs rm 1 rz 4) rfl yV_X0_goesTo wML_X0_29 rfl 0 rfl rfl rfl rfl (nle rfl) (nle rfl) (nle rfl) (nle rfl) (nle rfl) dX0_takesNumberStart_41 ?_
      exact x_zret C hr rfl (nle rfl) (nle rfl) dX0_takesNumberStart_44 ⟨(by first | (simp only [sp_X0_takesNumberStart, if_neg h4, if_pos h5]; done) | (simp only [sp_X0_takesNumberStart, if_neg h4, if_pos h5]; rfl)), (by first | (simp only [sp_X0_takesNumberStart_rp, sp_X0_takesNumberStart_rn, sp_X0_takesNumberStart_rz, if_neg h4, if_pos h5]; done) | (simp only [sp_X0_takesNumberStart_rp, sp_X0_takesNumberStart_rn, sp_X0_takesNumberStart_rz, if_neg h4, if_pos h5]; rfl))⟩
def sp_X0_takesSeparator (cq : Int32) : Int32 := (if cq = 59 then 1 else 0)
def sp_X0_takesSeparator_rp (rp : Int32) (cq : Int32) : Int32 := (if cq = 59 then 0 else rp)
def sp_X0_takesSeparator_rn (rn : Int32) (cq : Int32) : Int32 := (if cq = 59 then 0 else rn)
def sp_X0_takesSeparator_rz (rz : Int32) (cq : Int32) : Int32 := (if cq = 59 then 0 else rz)
theorem spb_X0_takesSeparator (cq : Int32)  : (sp_X0_takesSeparator cq) = 0 ∨ (sp_X0_takesSeparator cq) = 1 := by
  unfold sp_X0_takesSeparator
  exact (bool_ite (Or.inr rfl) (Or.inl rfl))
set_option maxRecDepth 100000 in
set_option maxHeartbeats 400000 in
theorem k_X0_takesSeparator (l : Launch) (g : xGt) (ar : Nat) (rp : Int32) (rl : Int32) (rs : Int32) (rm : Int32) (rn : Int32) (rz : Int32) (cq : Int32) : xM l g.1 (xT g) yX0_takesSeparator (ws_ yX0_takesSeparator cX0_takesSeparator 2 (some .boolean)) (xRm 1 20 0 0) 0 0 [.ref ar, .int cq] (wRd g ar rp rl rs rm rn rz) (fun r9 w9 => r9 = some (.int (sp_X0_takesSeparator cq)) ∧ w9 = (wRd g ar (sp_X0_takesSeparator_rp rp cq) rl rs rm (sp_X0_takesSeparator_rn rn cq) (sp_X0_takesSeparator_rz rz cq))) (fun _ _ => False) := by
  refine x_start (own := RX0) (nm := "takesSeparator") rfl rfl (by decide +kernel) rfl (nle rfl) (fun p e σ m args below meth c A C hno hr => ?_)
  refine x_lve (lv' := [(0, .ref ar), (1, .int cq)]) rfl ?_
  refine x_iload_n C 1 rfl rfl dX0_takesSeparator_0 ?_
  refine x_bipush C 59 (by decide) dX0_takesSeparator_1 ?_
  refine x_icmp_eq C 8 (by decide) dX0_takesSeparator_3 (fun h1 => ?_) (fun h1 => ?_)
  · refine x_aload_n C 0 rfl rfl dX0_takesSeparator_8 ?_
    refine x_GV (w1 := ([] : va_W)) (wc := _) (w2 := ([] : va_W)) [] [] (wRd g ar 0 rl rs rm 0 0) C (k_X0_begin l g ar rp rl rs rm rn rz) rfl yV_X0_begin wML_X0_51 rfl 0 rfl rfl rfl rfl (nle rfl) (nle rfl) (nle rfl) (nle rfl) (nle rfl) dX0_takesSeparator_9 ?_
    refine x_iconst C 1 (by decide) dX0_takesSeparator_12 ?_
    exact x_zret C hr rfl (nle rfl) (nle rfl) dX0_takesSeparator_13 ⟨(by first | (simp only [sp_X0_takesSeparator, if_pos h1]; done) | (simp only [sp_X0_takesSeparator, if_pos h1]; rfl)), (by first | (simp only [sp_X0_takesSeparator_rp, sp_X0_takesSeparator_rn, sp_X0_takesSeparator_rz, if_pos h1]; done) | (simp only [sp_X0_takesSeparator_rp, sp_X0_takesSeparator_rn, sp_X0_takesSeparator_rz, if_pos h1]; rfl))⟩
  · refine x_iconst C 0 (by decide) dX0_takesSeparator_6 ?_
    exact x_zret C hr rfl (nle rfl) (nle rfl) dX0_takesSeparator_7 ⟨(by first | (simp only [sp_X0_takesSeparator, if_neg h1]; done) | (simp only [sp_X0_takesSeparator, if_neg h1]; rfl)), (by first | (simp only [sp_X0_takesSeparator_rp, sp_X0_takesSeparator_rn, sp_X0_takesSeparator_rz, if_neg h1]; done) | (simp only [sp_X0_takesSeparator_rp, sp_X0_takesSeparator_rn, sp_X0_takesSeparator_rz, if_neg h1]; rfl))⟩
def sp_X0_takes (rp : Int32) (rl : Int32) (rm : Int32) (rz : Int32) (cq : Int32) : Int32 := (if rp = 0 then (sp_X0_takesLetter cq) else (if rp = 1 then (sp_X0_takesStick cq) else (if rp = 2 then (if cq = 61 then (1 : Int32) else 0) else (if rp = 3 then (sp_X0_takesNumberStart rl rm rz cq) else (if rp = 4 then (sp_X0_takesDigit rm rz cq 1) else (if rp = 5 then (if cq = 59 then (sp_X0_takesSeparator cq) else (sp_X0_takesDigit rm rz cq 0)) else (sp_X0_takesSeparator cq)))))))
def sp_X0_takes_rp (rp : Int32) (rl : Int32) (rm : Int32) (rz : Int32) (cq : Int32) : Int32 := (if rp = 0 then (sp_X0_takesLetter_rp rp cq) else (if rp = 1 then (sp_X0_takesStick_rp rp cq) else (if rp = 2 then (if cq = 61 then (3 : Int32) else rp) else (if rp = 3 then (sp_X0_takesNumberStart_rp rp rl rm rz cq) else (if rp = 4 then (sp_X0_takesDigit_rp rp rm rz cq 1) else (if rp = 5 then (if cq = 59 then (sp_X0_takesSeparator_rp rp cq) else (sp_X0_takesDigit_rp rp rm rz cq 0)) else (sp_X0_takesSeparator_rp rp cq)))))))
def sp_X0_takes_rl (rp : Int32) (rl : Int32) (cq : Int32) : Int32 := (if rp = 0 then (sp_X0_takesLetter_rl cq) else rl)
def sp_X0_takes_rs (rp : Int32) (rs : Int32) (cq : Int32) : Int32 := (if rp = 0 then rs else (if rp = 1 then (sp_X0_takesStick_rs rs cq) else rs))
def sp_X0_takes_rm (rp : Int32) (rm : Int32) (cq : Int32) : Int32 := (if rp = 0 then (sp_X0_takesLetter_rm rm cq) else rm)
def sp_X0_takes_rn (rp : Int32) (rl : Int32) (rn : Int32) (cq : Int32) : Int32 := (if rp = 0 then rn else (if rp = 1 then rn else (if rp = 2 then rn else (if rp = 3 then (sp_X0_takesNumberStart_rn rl rn cq) else (if rp = 4 then rn else (if rp = 5 then (if cq = 59 then (sp_X0_takesSeparator_rn rn cq) else rn) else (sp_X0_takesSeparator_rn rn cq)))))))
def sp_X0_takes_rz (rp : Int32) (rl : Int32) (rm : Int32) (rz : Int32) (cq : Int32) : Int32 := (if rp = 0 then rz else (if rp = 1 then rz else (if rp = 2 then rz else (if rp = 3 then (sp_X0_takesNumberStart_rz rl rm rz cq) else (if rp = 4 then (sp_X0_takesDigit_rz rm rz cq 1) else (if rp = 5 then (if cq = 59 then (sp_X0_takesSeparator_rz rz cq) else (sp_X0_takesDigit_rz rm rz cq 0)) else (sp_X0_takesSeparator_rz rz cq)))))))
theorem spb_X0_takes (rp : Int32) (rl : Int32) (rm : Int32) (rz : Int32) (cq : Int32)  : (sp_X0_takes rp rl rm rz cq) = 0 ∨ (sp_X0_takes rp rl rm rz cq) = 1 := by
  unfold sp_X0_takes
  exact (bool_ite (spb_X0_takesLetter cq) (bool_ite (spb_X0_takesStick cq) (bool_ite (bool_ite (Or.inr rfl) (Or.inl rfl)) (bool_ite (spb_X0_takesNumberStart rl rm rz cq) (bool_ite (spb_X0_takesDigit rm rz cq 1) (bool_ite (bool_ite (spb_X0_takesSeparator cq) (spb_X0_takesDigit rm rz cq 0)) (spb_X0_takesSeparator cq)))))))
set_option maxRecDepth 100000 in
set_option maxHeartbeats 400000 in
theorem k_X0_takes (l : Launch) (g : xGt) (ar : Nat) (rp : Int32) (rl : Int32) (rs : Int32) (rm : Int32) (rn : Int32) (rz : Int32) (cq : Int32) : xM l g.1 (xT g) yX0_takes (ws_ yX0_takes cX0_takes 2 (some .boolean)) (xRm 3 66 0 0) 0 0 [.ref ar, .int cq] (wRd g ar rp rl rs rm rn rz) (fun r9 w9 => r9 = some (.int (sp_X0_takes rp rl rm rz cq)) ∧ w9 = (wRd g ar (sp_X0_takes_rp rp rl rm rz cq) (sp_X0_takes_rl rp rl cq) (sp_X0_takes_rs rp rs cq) (sp_X0_takes_rm rp rm cq) (sp_X0_takes_rn rp rl rn cq) (sp_X0_takes_rz rp rl rm rz cq))) (fun _ _ => False) := by
  refine x_start (own := RX0) (nm := "takes") rfl rfl (by decide +kernel) rfl (nle rfl) (fun p e σ m args below meth c A C hno hr => ?_)
  refine x_lve (lv' := [(0, .ref ar), (1, .int cq)]) rfl ?_
  refine x_aload_n C 0 rfl rfl dX0_takes_0 ?_
  refine x_get C 0 0 0 rfl rfl wLy_X0 wFL_X0_11 rfl (by decide) rfl dX0_takes_1 ?_
  by_cases h1 : rp = 0
  · refine x_tabIn C 44 dX0_takes_4 (by rw [h1]; decide) (by rw [h1]; decide) (by rw [h1]; rfl) (by decide) ?_
    refine x_aload_n C 0 rfl rfl dX0_takes_44 ?_
    refine x_iload_n C 1 rfl rfl dX0_takes_45 ?_
    refine x_FV (w1 := ([] : va_W)) (wc := _) (w2 := ([] : va_W)) [.int cq] [] (wRd g ar (sp_X0_takesLetter_rp rp cq) (sp_X0_takesLetter_rl cq) rs (sp_X0_takesLetter_rm rm cq) rn rz) C (k_X0_takesLetter l g ar rp rl rs rm rn rz cq) rfl yV_X0_takesLetter wML_X0_22 rfl 0 rfl rfl rfl rfl (nle rfl) (nle rfl) (nle rfl) (nle rfl) (nle rfl) dX0_takes_46 ?_
    exact x_zret C hr (xnz (spb_X0_takesLetter cq)) (nle rfl) (nle rfl) dX0_takes_49 ⟨(by first | (simp only [sp_X0_takes, if_pos h1]; done) | (simp only [sp_X0_takes, if_pos h1]; rfl)), (by first | (simp only [sp_X0_takes_rp, sp_X0_takes_rl, sp_X0_takes_rs, sp_X0_takes_rm, sp_X0_takes_rn, sp_X0_takes_rz, if_pos h1]; done) | (simp only [sp_X0_takes_rp, sp_X0_takes_rl, sp_X0_takes_rs, sp_X0_takes_rm, sp_X0_takes_rn, sp_X0_takes_rz, if_pos h1]; rfl))⟩
  · by_cases h2 : rp = 1
    · refine x_tabIn C 50 dX0_takes_4 (by rw [h2]; decide) (by rw [h2]; decide) (by rw [h2]; rfl) (by decide) ?_
      refine x_aload_n C 0 rfl rfl dX0_takes_50 ?_
      refine x_iload_n C 1 rfl rfl dX0_takes_51 ?_
      refine x_FV (w1 := ([] : va_W)) (wc := _) (w2 := ([] : va_W)) [.int cq] [] (wRd g ar (sp_X0_takesStick_rp rp cq) rl (sp_X0_takesStick_rs rs cq) rm rn rz) C (k_X0_takesStick l g ar rp rl rs rm rn rz cq) rfl yV_X0_takesStick wML_X0_26 rfl 0 rfl rfl rfl rfl (nle rfl) (nle rfl) (nle rfl) (nle rfl) (nle rfl) dX0_takes_52 ?_
      exact x_zret C hr (xnz (spb_X0_takesStick cq)) (nle rfl) (nle rfl) dX0_takes_55 ⟨(by first | (simp only [sp_X0_takes, if_neg h1, if_pos h2]; done) | (simp only [sp_X0_takes, if_neg h1, if_pos h2]; rfl)), (by first | (simp only [sp_X0_takes_rp, sp_X0_takes_rl, sp_X0_takes_rs, sp_X0_takes_rm, sp_X0_takes_rn, sp_X0_takes_rz, if_neg h1, if_pos h2]; done) | (simp only [sp_X0_takes_rp, sp_X0_takes_rl, sp_X0_takes_rs, sp_X0_takes_rm, sp_X0_takes_rn, sp_X0_takes_rz, if_neg h1, if_pos h2]; rfl))⟩
    · by_cases h3 : rp = 2
      · refine x_tabIn C 56 dX0_takes_4 (by rw [h3]; decide) (by rw [h3]; decide) (by rw [h3]; rfl) (by decide) ?_
        refine x_iload_n C 1 rfl rfl dX0_takes_56 ?_
        refine x_bipush C 61 (by decide) dX0_takes_57 ?_
        suffices K5 : xW p l e _ σ m args below meth c g.1 A 2 0 0 _ (wRd g ar (if cq = 61 then (3 : Int32) else rp) rl rs rm rn rz) [(0, .ref ar), (1, .int cq)] 75 [.int (if cq = 61 then (1 : Int32) else 0)] by
          refine x_icmp_ne C 74 (by decide) dX0_takes_59 (fun h4 => ?_) (fun h4 => ?_)
          · refine x_iconst C 0 (by decide) dX0_takes_74 ?_
            refine x_st (st' := [.int (if cq = 61 then (1 : Int32) else 0)]) (by simp only [if_neg h4]) ?_
            refine x_ws (ws' := (wRd g ar (if cq = 61 then (3 : Int32) else rp) rl rs rm rn rz)) (by first | (simp only [if_neg h4]; done) | (simp only [if_neg h4]; rfl)) ?_
            exact K5
          · refine x_aload_n C 0 rfl rfl dX0_takes_62 ?_
            refine x_iconst C 3 (by decide) dX0_takes_63 ?_
            refine x_FV (w1 := ([] : va_W)) (wc := _) (w2 := ([] : va_W)) [.int 3] [] (wRd g ar 3 rl rs rm rn rz) C (k_X0_goesTo l g ar rp rl rs rm rn rz 3) rfl yV_X0_goesTo wML_X0_29 rfl 0 rfl rfl rfl rfl (nle rfl) (nle rfl) (nle rfl) (nle rfl) (nle rfl) dX0_takes_64 ?_
            refine x_if_eq C 74 (by decide) dX0_takes_67 (fun hz => absurd hz (by decide)) (fun _ => ?_)
            refine x_iconst C 1 (by decide) dX0_takes_70 ?_
            refine x_goto C 75 (by decide) dX0_takes_71 ?_
            refine x_st (st' := [.int (if cq = 61 then (1 : Int32) else 0)]) (by simp only [if_pos h4]) ?_
            refine x_ws (ws' := (wRd g ar (if cq = 61 then (3 : Int32) else rp) rl rs rm rn rz)) (by first | (simp only [if_pos h4]; done) | (simp only [if_pos h4]; rfl)) ?_
            exact K5
        exact x_zret C hr (xnz (bool_ite (Or.inr rfl) (Or.inl rfl))) (nle rfl) (nle rfl) dX0_takes_75 ⟨(by first | (simp only [sp_X0_takes, if_neg h1, if_neg h2, if_pos h3]; done) | (simp only [sp_X0_takes, if_neg h1, if_neg h2, if_pos h3]; rfl)), (by first | (simp only [sp_X0_takes_rp, sp_X0_takes_rl, sp_X0_takes_rs, sp_X0_takes_rm, sp_X0_takes_rn, sp_X0_takes_rz, if_neg h1, if_neg h2, if_pos h3]; done) | (simp only [sp_X0_takes_rp, sp_X0_takes_rl, sp_X0_takes_rs, sp_X0_takes_rm, sp_X0_takes_rn, sp_X0_takes_rz, if_neg h1, if_neg h2, if_pos h3]; rfl))⟩
      · by_cases h6 : rp = 3
        · refine x_tabIn C 76 dX0_takes_4 (by rw [h6]; decide) (by rw [h6]; decide) (by rw [h6]; rfl) (by decide) ?_
          refine x_aload_n C 0 rfl rfl dX0_takes_76 ?_
          refine x_iload_n C 1 rfl rfl dX0_takes_77 ?_
          refine x_FV (w1 := ([] : va_W)) (wc := _) (w2 := ([] : va_W)) [.int cq] [] (wRd g ar (sp_X0_takesNumberStart_rp rp rl rm rz cq) rl rs rm (sp_X0_takesNumberStart_rn rl rn cq) (sp_X0_takesNumberStart_rz rl rm rz cq)) C (k_X0_takesNumberStart l g ar rp rl rs rm rn rz cq) rfl yV_X0_takesNumberStart wML_X0_32 rfl 0 rfl rfl rfl rfl (nle rfl) (nle rfl) (nle rfl) (nle rfl) (nle rfl) dX0_takes_78 ?_
          exact x_zret C hr (xnz (spb_X0_takesNumberStart rl rm rz cq)) (nle rfl) (nle rfl) dX0_takes_81 ⟨(by first | (simp only [sp_X0_takes, if_neg h1, if_neg h2, if_neg h3, if_pos h6]; done) | (simp only [sp_X0_takes, if_neg h1, if_neg h2, if_neg h3, if_pos h6]; rfl)), (by first | (simp only [sp_X0_takes_rp, sp_X0_takes_rl, sp_X0_takes_rs, sp_X0_takes_rm, sp_X0_takes_rn, sp_X0_takes_rz, if_neg h1, if_neg h2, if_neg h3, if_pos h6]; done) | (simp only [sp_X0_takes_rp, sp_X0_takes_rl, sp_X0_takes_rs, sp_X0_takes_rm, sp_X0_takes_rn, sp_X0_takes_rz, if_neg h1, if_neg h2, if_neg h3, if_pos h6]; rfl))⟩
        · by_cases h7 : rp = 4
          · refine x_tabIn C 82 dX0_takes_4 (by rw [h7]; decide) (by rw [h7]; decide) (by rw [h7]; rfl) (by decide) ?_
            refine x_aload_n C 0 rfl rfl dX0_takes_82 ?_
            refine x_iload_n C 1 rfl rfl dX0_takes_83 ?_
            refine x_iconst C 1 (by decide) dX0_takes_84 ?_
            refine x_FV (w1 := ([] : va_W)) (wc := _) (w2 := ([] : va_W)) [.int cq, .int 1] [] (wRd g ar (sp_X0_takesDigit_rp rp rm rz cq 1) rl rs rm rn (sp_X0_takesDigit_rz rm rz cq 1)) C (k_X0_takesDigit l g ar rp rl rs rm rn rz cq 1) rfl yV_X0_takesDigit wML_X0_35 rfl 0 rfl rfl rfl rfl (nle rfl) (nle rfl) (nle rfl) (nle rfl) (nle rfl) dX0_takes_85 ?_
            exact x_zret C hr (xnz (spb_X0_takesDigit rm rz cq 1)) (nle rfl) (nle rfl) dX0_takes_88 ⟨(by first | (simp only [sp_X0_takes, if_neg h1, if_neg h2, if_neg h3, if_neg h6, if_pos h7]; done) | (simp only [sp_X0_takes, if_neg h1, if_neg h2, if_neg h3, if_neg h6, if_pos h7]; rfl)), (by first | (simp only [sp_X0_takes_rp, sp_X0_takes_rl, sp_X0_takes_rs, sp_X0_takes_rm, sp_X0_takes_rn, sp_X0_takes_rz, if_neg h1, if_neg h2, if_neg h3, if_neg h6, if_pos h7]; done) | (simp only [sp_X0_takes_rp, sp_X0_takes_rl, sp_X0_takes_rs, sp_X0_takes_rm, sp_X0_takes_rn, sp_X0_takes_rz, if_neg h1, if_neg h2, if_neg h3, if_neg h6, if_pos h7]; rfl))⟩
          · by_cases h8 : rp = 5
            · refine x_tabIn C 89 dX0_takes_4 (by rw [h8]; decide) (by rw [h8]; decide) (by rw [h8]; rfl) (by decide) ?_
              refine x_iload_n C 1 rfl rfl dX0_takes_89 ?_
              refine x_bipush C 59 (by decide) dX0_takes_90 ?_
              suffices K10 : xW p l e _ σ m args below meth c g.1 A 2 0 0 _ (wRd g ar (if cq = 59 then (sp_X0_takesSeparator_rp rp cq) else (sp_X0_takesDigit_rp rp rm rz cq 0)) rl rs rm (if cq = 59 then (sp_X0_takesSeparator_rn rn cq) else rn) (if cq = 59 then (sp_X0_takesSeparator_rz rz cq) else (sp_X0_takesDigit_rz rm rz cq 0))) [(0, .ref ar), (1, .int cq)] 109 [.int (if cq = 59 then (sp_X0_takesSeparator cq) else (sp_X0_takesDigit rm rz cq 0))] by
                refine x_icmp_ne C 103 (by decide) dX0_takes_92 (fun h9 => ?_) (fun h9 => ?_)
                · refine x_aload_n C 0 rfl rfl dX0_takes_103 ?_
                  refine x_iload_n C 1 rfl rfl dX0_takes_104 ?_
                  refine x_iconst C 0 (by decide) dX0_takes_105 ?_
                  refine x_FV (w1 := ([] : va_W)) (wc := _) (w2 := ([] : va_W)) [.int cq, .int 0] [] (wRd g ar (sp_X0_takesDigit_rp rp rm rz cq 0) rl rs rm rn (sp_X0_takesDigit_rz rm rz cq 0)) C (k_X0_takesDigit l g ar rp rl rs rm rn rz cq 0) rfl yV_X0_takesDigit wML_X0_35 rfl 0 rfl rfl rfl rfl (nle rfl) (nle rfl) (nle rfl) (nle rfl) (nle rfl) dX0_takes_106 ?_
                  refine x_st (st' := [.int (if cq = 59 then (sp_X0_takesSeparator cq) else (sp_X0_takesDigit rm rz cq 0))]) (by simp only [if_neg h9]) ?_
                  refine x_ws (ws' := (wRd g ar (if cq = 59 then (sp_X0_takesSeparator_rp rp cq) else (sp_X0_takesDigit_rp rp rm rz cq 0)) rl rs rm (if cq = 59 then (sp_X0_takesSeparator_rn rn cq) else rn) (if cq = 59 then (sp_X0_takesSeparator_rz rz cq) else (sp_X0_takesDigit_rz rm rz cq 0)))) (by first | (simp only [if_neg h9]; done) | (simp only [if_neg h9]; rfl)) ?_
                  exact K10
                · refine x_aload_n C 0 rfl rfl dX0_takes_95 ?_
                  refine x_iload_n C 1 rfl rfl dX0_takes_96 ?_
                  refine x_FV (w1 := ([] : va_W)) (wc := _) (w2 := ([] : va_W)) [.int cq] [] (wRd g ar (sp_X0_takesSeparator_rp rp cq) rl rs rm (sp_X0_takesSeparator_rn rn cq) (sp_X0_takesSeparator_rz rz cq)) C (k_X0_takesSeparator l g ar rp rl rs rm rn rz cq) rfl yV_X0_takesSeparator wML_X0_39 rfl 0 rfl rfl rfl rfl (nle rfl) (nle rfl) (nle rfl) (nle rfl) (nle rfl) dX0_takes_97 ?_
                  refine x_goto C 109 (by decide) dX0_takes_100 ?_
                  refine x_st (st' := [.int (if cq = 59 then (sp_X0_takesSeparator cq) else (sp_X0_takesDigit rm rz cq 0))]) (by simp only [if_pos h9]) ?_
                  refine x_ws (ws' := (wRd g ar (if cq = 59 then (sp_X0_takesSeparator_rp rp cq) else (sp_X0_takesDigit_rp rp rm rz cq 0)) rl rs rm (if cq = 59 then (sp_X0_takesSeparator_rn rn cq) else rn) (if cq = 59 then (sp_X0_takesSeparator_rz rz cq) else (sp_X0_takesDigit_rz rm rz cq 0)))) (by first | (simp only [if_pos h9]; done) | (simp only [if_pos h9]; rfl)) ?_
                  exact K10
              exact x_zret C hr (xnz (bool_ite (spb_X0_takesSeparator cq) (spb_X0_takesDigit rm rz cq 0))) (nle rfl) (nle rfl) dX0_takes_109 ⟨(by first | (simp only [sp_X0_takes, if_neg h1, if_neg h2, if_neg h3, if_neg h6, if_neg h7, if_pos h8]; done) | (simp only [sp_X0_takes, if_neg h1, if_neg h2, if_neg h3, if_neg h6, if_neg h7, if_pos h8]; rfl)), (by first | (simp only [sp_X0_takes_rp, sp_X0_takes_rl, sp_X0_takes_rs, sp_X0_takes_rm, sp_X0_takes_rn, sp_X0_takes_rz, if_neg h1, if_neg h2, if_neg h3, if_neg h6, if_neg h7, if_pos h8]; done) | (simp only [sp_X0_takes_rp, sp_X0_takes_rl, sp_X0_takes_rs, sp_X0_takes_rm, sp_X0_takes_rn, sp_X0_takes_rz, if_neg h1, if_neg h2, if_neg h3, if_neg h6, if_neg h7, if_pos h8]; rfl))⟩
            · refine x_tabNo C 110 dX0_takes_4 (by decide) (by intro i0 hi0 hd0 e0; rcases (show i0 = 0 ∨ i0 = 1 ∨ i0 = 2 ∨ i0 = 3 ∨ i0 = 4 ∨ i0 = 5 by have : i0 < 6 := hi0; omega) with rfl | rfl | rfl | rfl | rfl | rfl <;> first | exact hd0 rfl | exact absurd ((lk_ne e0.symm).symm.trans (by decide)) h1 | exact absurd ((lk_ne e0.symm).symm.trans (by decide)) h2 | exact absurd ((lk_ne e0.symm).symm.trans (by decide)) h3 | exact absurd ((lk_ne e0.symm).symm.trans (by decide)) h6 | exact absurd ((lk_ne e0.symm).symm.trans (by decide)) h7 | exact absurd ((lk_ne e0.symm).symm.trans (by decide)) h8) (by decide) ?_
              refine x_aload_n C 0 rfl rfl dX0_takes_110 ?_
              refine x_iload_n C 1 rfl rfl dX0_takes_111 ?_
              refine x_FV (w1 := ([] : va_W)) (wc := _) (w2 := ([] : va_W)) [.int cq] [] (wRd g ar (sp_X0_takesSeparator_rp rp cq) rl rs rm (sp_X0_takesSeparator_rn rn cq) (sp_X0_takesSeparator_rz rz cq)) C (k_X0_takesSeparator l g ar rp rl rs rm rn rz cq) rfl yV_X0_takesSeparator wML_X0_39 rfl 0 rfl rfl rfl rfl (nle rfl) (nle rfl) (nle rfl) (nle rfl) (nle rfl) dX0_takes_112 ?_
              exact x_zret C hr (xnz (spb_X0_takesSeparator cq)) (nle rfl) (nle rfl) dX0_takes_115 ⟨(by first | (simp only [sp_X0_takes, if_neg h1, if_neg h2, if_neg h3, if_neg h6, if_neg h7, if_neg h8]; done) | (simp only [sp_X0_takes, if_neg h1, if_neg h2, if_neg h3, if_neg h6, if_neg h7, if_neg h8]; rfl)), (by first | (simp only [sp_X0_takes_rp, sp_X0_takes_rl, sp_X0_takes_rs, sp_X0_takes_rm, sp_X0_takes_rn, sp_X0_takes_rz, if_neg h1, if_neg h2, if_neg h3, if_neg h6, if_neg h7, if_neg h8]; done) | (simp only [sp_X0_takes_rp, sp_X0_takes_rl, sp_X0_takes_rs, sp_X0_takes_rm, sp_X0_takes_rn, sp_X0_takes_rz, if_neg h1, if_neg h2, if_neg h3, if_neg h6, if_neg h7, if_neg h8]; rfl))⟩
