theorem in_nat {x lo hi : Int32} (h : ¬ sp_X7_in x lo hi = 0) (hl : 0 ≤ lo) : x = nI x.toNatClampNeg := by
  unfold sp_X7_in at h
  by_cases c : x < lo
  · exact absurd (if_pos c) h
  · have h0 : ¬ x < 0 := fun q => c (Int32.lt_of_lt_of_le q hl)
    obtain ⟨j, hj, e⟩ := nI_of h0
    rw [e, nI_clamp hj]
theorem in_le {x lo hi : Int32} {n : Nat} (h : ¬ sp_X7_in x lo hi = 0) (hl : 0 ≤ lo) (hh : hi = nI n) (hn : n < 2 ^ 31) : x.toNatClampNeg ≤ n := by
  have e := in_nat h hl
  unfold sp_X7_in at h
  by_cases c : x < lo
  · exact absurd (if_pos c) h
  · rw [if_neg c] at h
    by_cases d : hi < x
    · exact absurd (if_pos d) h
    · have d2 : x ≤ hi := Int32.not_lt.mp d
      have hx : x.toNatClampNeg < 2 ^ 31 := Int32.toNatClampNeg_lt x
      rw [e, hh] at d2
      exact (nI_leI hx hn).mp d2
theorem in_mixL {x : Int32} {s : Nat → Int32} (h : ¬ sp_X7_in x 0 (s 26 - 1) = 0) (hm : rOk s 0) : x.toNatClampNeg < rN s 0 := by
  have e26 : s 26 = nI (rN s 0) := hm.1
  have h12 := hm.2.1
  rcases Nat.eq_zero_or_pos (rN s 0) with z | z
  · rw [z] at e26
    exfalso
    apply h
    rw [e26]
    unfold sp_X7_in
    by_cases c : x < 0
    · exact if_pos c
    · rw [if_neg c]
      refine if_pos ?_
      exact Int32.lt_of_lt_of_le (by decide) (Int32.not_lt.mp c)
  · have e1 : s 26 - 1 = nI (rN s 0 - 1) := by rw [e26]; exact pk_sub z
    have := in_le h (by decide) e1 (by omega)
    omega
theorem in_mixN {x : Int32} {s : Nat → Int32} (h : ¬ sp_X7_in x 0 (s 26 - 1) = 0) (_ : rOk s 0) : x = nI x.toNatClampNeg := in_nat h (by decide)
theorem sp_cp_out (f t : Nat) (a : Nat → Int32) (j : Nat) : ∀ n, (j < 156 * t ∨ 156 * t + n ≤ j) → sp_cp f t a n j = a j
  | 0, _ => rfl
  | n + 1, h => by
    simp only [sp_cp, upd]
    rw [if_neg (by omega)]
    exact sp_cp_out f t a j n (by omega)
theorem sp_sv_lo (a : Nat → Int32) (j : Nat) (h : j < 156) : ∀ n, sp_sv a n j = a j
  | 0 => rfl
  | n + 1 => by
    simp only [sp_sv]
    rw [sp_cp_out _ _ _ _ _ (by omega)]
    exact sp_sv_lo a j h n
theorem save_lo (s : Nat → Int32) (sa : Int32) (j : Nat) (h : j < 156) : sp_X7_save_s s sa j = s j := by
  have h1 : 1 ≤ svN sa := by unfold svN; split <;> omega
  unfold sp_X7_save_s
  split
  · rw [sp_cp_out _ _ _ _ _ (by omega), sp_sv_lo _ _ h]
  · rw [sp_cp_out _ _ _ _ _ (by omega)]
theorem save_ok {s : Nat → Int32} {sa : Int32} (hm : rOk s 0) : rOk (sp_X7_save_s s sa) 0 := rOk_of (fun k _ h2 => save_lo s sa k (by omega)) hm
theorem save_rN (s : Nat → Int32) (sa : Int32) : rN (sp_X7_save_s s sa) 0 = rN s 0 := by unfold rN; rw [save_lo _ _ _ (by omega)]
theorem lt12 {s : Nat → Int32} (hm : rOk s 0) (h : ¬ s 26 = 12) : rN s 0 < 12 := by
  have h1 : s 26 = nI (rN s 0) := hm.1
  have h2 := hm.2.1
  rcases Nat.lt_or_ge (rN s 0) 12 with q | q
  · exact q
  · have e : rN s 0 = 12 := by omega
    exact absurd (by rw [h1, e]; rfl) h
theorem le8 {s : Nat → Int32} (hm : rOk s 0) (h : s 26 ≤ 8) : rN s 0 ≤ 8 := by
  have h1 : s 26 = nI (rN s 0) := hm.1
  have h2 := hm.2.1
  exact xle_of h1 (show (8 : Int32) = nI 8 from rfl) (by omega) (by decide) h
theorem adds_26 {s : Nat → Int32} {a1 a2 a3 a4 a5 : Int32} (h : s 26 = nI (rN s 0)) (hl : rN s 0 < 12) : rN (sp_X7_adds_s s a1 a2 a3 a4 a5) 0 = rN s 0 + 1 ∧ (sp_X7_adds_s s a1 a2 a3 a4 a5) 26 = nI (rN (sp_X7_adds_s s a1 a2 a3 a4 a5) 0) := by
  have e : (sp_X7_adds_s s a1 a2 a3 a4 a5) 26 = nI (rN s 0 + 1) := by
    unfold sp_X7_adds_s
    rw [up_eq]
    simp only [upd]
    repeat' rw [if_neg (by omega)]
    rw [h, nI_1]
  have e2 : rN (sp_X7_adds_s s a1 a2 a3 a4 a5) 0 = rN s 0 + 1 := by
    show ((sp_X7_adds_s s a1 a2 a3 a4 a5) (0 + 26)).toNatClampNeg = _
    rw [show 0 + 26 = 26 from rfl, e, nI_clamp (by omega)]
  exact ⟨e2, by rw [e2]; exact e⟩
def sp_X7_move (s : Nat → Int32) (sa : Int32) (a : Int32) (b : Int32) : Int32 := (if (sp_X7_in a 0 3) = 0 then 0 else (if (sp_X7_in b (-100) 100) = 0 then 0 else ((sp_X7_save_s s sa) (0 + (Int32.toNatClampNeg a)))))
def sp_X7_move_s (s : Nat → Int32) (sa : Int32) (a : Int32) (b : Int32) : Nat → Int32 := (if (sp_X7_in a 0 3) = 0 then s else (if (sp_X7_in b (-100) 100) = 0 then s else (upd (sp_X7_save_s s sa) (0 + (Int32.toNatClampNeg a)) b)))
def sp_X7_move_th (a : Int32) (b : Int32) : Int32 := (if (sp_X7_in a 0 3) = 0 then 1 else (if (sp_X7_in b (-100) 100) = 0 then 2 else 0))
def sp_X7_move_sa (sa : Int32) (a : Int32) (b : Int32) : Int32 := (if (sp_X7_in a 0 3) = 0 then sa else (if (sp_X7_in b (-100) 100) = 0 then sa else (sp_X7_save_sa sa)))
set_option maxRecDepth 100000 in
theorem k_X7_move (l : Launch) (g : xGt) (am : Nat → Nat) (s fi tx dm : Nat → Int32) (th sa ln pa le sk nu : Int32) (h : Int64) (a : Int32) (b : Int32) (hs : sa = nI (Int32.toNatClampNeg sa)) (hs6 : Int32.toNatClampNeg sa ≤ 6) (hm : rOk s 0) : xM l g.1 (xT g) yX7_move (ws_ yX7_move cX7_move 3 (some .int)) (xRm 3 67 0 0) 0 0 [.ref (am 0), .int a, .int b] (wMo g am s fi tx dm th sa ln pa le sk nu h) (fun r9 w9 => r9 = some (.int (sp_X7_move s sa a b)) ∧ w9 = (wMo g am (sp_X7_move_s s sa a b) fi tx dm (sp_X7_move_th a b) (sp_X7_move_sa sa a b) ln pa le sk nu h)) (fun _ _ => False) := by
  refine x_start (own := RX7) (nm := "move") rfl rfl (by decide +kernel) rfl (nle rfl) (fun p e σ m args below meth c A C hno hr => ?_)
  refine x_lve (lv' := [(0, .ref (am 0)), (1, .int a), (2, .int b)]) rfl ?_
  refine x_aload_n C 0 rfl rfl dX7_move_0 ?_
  refine x_iload_n C 1 rfl rfl dX7_move_1 ?_
  refine x_FS (w1 := ([] : va_W)) (wc := ([] : va_W)) (w2 := (wMo g am s fi tx dm th sa ln pa le sk nu h)) [.int a] [.ref (am 0)] (wMo g am s fi tx dm th sa ln pa le sk nu h) C (k_X7_isStick l g a) rfl yS_X7_isStick wML_X7_95 rfl rfl rfl (nle rfl) (nle rfl) (nle rfl) (nle rfl) (nle rfl) dX7_move_2 ?_
  refine x_if_ne C 12 (by decide) dX7_move_5 (fun h1 => ?_) (fun h1 => ?_)
  · refine x_iload_n C 2 rfl rfl dX7_move_12 ?_
    refine x_bipush C (-100) (by decide) dX7_move_13 ?_
    refine x_bipush C 100 (by decide) dX7_move_15 ?_
    refine x_FS (w1 := ([] : va_W)) (wc := ([] : va_W)) (w2 := (wMo g am s fi tx dm th sa ln pa le sk nu h)) [.int b, .int (-100), .int 100] [.ref (am 0)] (wMo g am s fi tx dm th sa ln pa le sk nu h) C (k_X7_in l g b (-100) 100) rfl yS_X7_in wML_X7_35 rfl rfl rfl (nle rfl) (nle rfl) (nle rfl) (nle rfl) (nle rfl) dX7_move_17 ?_
    refine x_if_ne C 27 (by decide) dX7_move_20 (fun h2 => ?_) (fun h2 => ?_)
    · refine x_iconst C 0 (by decide) dX7_move_27 ?_
      refine x_FV (w1 := ([] : va_W)) (wc := (wMo g am s fi tx dm th sa ln pa le sk nu h)) (w2 := ([] : va_W)) [.int 0] [] (wMo g am s fi tx dm 0 sa ln pa le sk nu h) C (k_X7_holds l g am s fi tx dm th sa ln pa le sk nu h 0) rfl yV_X7_holds wML_X7_99 rfl 0 rfl rfl rfl rfl (nle rfl) (nle rfl) (nle rfl) (nle rfl) (nle rfl) dX7_move_28 ?_
      refine x_st (st' := [.int 1]) (by rw [show (sp_X7_holds 0) = 1 from by decide]) ?_
      refine x_if_eq C 45 (by decide) dX7_move_31 (fun hz => absurd hz (by decide)) (fun _ => ?_)
      refine x_aload_n C 0 rfl rfl dX7_move_34 ?_
      refine x_iconst C 0 (by decide) dX7_move_35 ?_
      have h1l := in_le h1 (by decide) (show (3 : Int32) = nI 3 from rfl) (by decide)
      refine x_iload_n C 1 rfl rfl dX7_move_36 ?_
      refine x_iaddN C 0 (Int32.toNatClampNeg a) rfl (in_nat h1 (by decide)) dX7_move_37 ?_
      refine x_iload_n C 2 rfl rfl dX7_move_38 ?_
      refine x_FV (w1 := ([] : va_W)) (wc := (wMo g am s fi tx dm 0 sa ln pa le sk nu h)) (w2 := ([] : va_W)) [.int (nI (0 + (Int32.toNatClampNeg a))), .int b] [] (wMo g am (upd (sp_X7_save_s s sa) (0 + (Int32.toNatClampNeg a)) b) fi tx dm 0 (sp_X7_save_sa sa) ln pa le sk nu h) C (k_X7_changed l g am s fi tx dm 0 sa ln pa le sk nu h (nI (0 + (Int32.toNatClampNeg a))) (0 + (Int32.toNatClampNeg a)) rfl b hs hs6 (by omega)) rfl yV_X7_changed wML_X7_102 rfl 0 rfl rfl rfl rfl (nle rfl) (nle rfl) (nle rfl) (nle rfl) (nle rfl) dX7_move_39 ?_
      refine x_goto C 46 (by decide) dX7_move_42 ?_
      exact x_iret C hr (nle rfl) (nle rfl) dX7_move_46 ⟨(by first | (simp only [sp_X7_move, if_neg h1, if_neg h2]; done) | (simp only [sp_X7_move, if_neg h1, if_neg h2]; rfl)), (by first | (simp only [sp_X7_move_s, sp_X7_move_th, sp_X7_move_sa, if_neg h1, if_neg h2]; done) | (simp only [sp_X7_move_s, sp_X7_move_th, sp_X7_move_sa, if_neg h1, if_neg h2]; rfl))⟩
    · refine x_iconst C 2 (by decide) dX7_move_23 ?_
      refine x_goto C 28 (by decide) dX7_move_24 ?_
      refine x_FV (w1 := ([] : va_W)) (wc := (wMo g am s fi tx dm th sa ln pa le sk nu h)) (w2 := ([] : va_W)) [.int 2] [] (wMo g am s fi tx dm 2 sa ln pa le sk nu h) C (k_X7_holds l g am s fi tx dm th sa ln pa le sk nu h 2) rfl yV_X7_holds wML_X7_99 rfl 0 rfl rfl rfl rfl (nle rfl) (nle rfl) (nle rfl) (nle rfl) (nle rfl) dX7_move_28 ?_
      refine x_st (st' := [.int 0]) (by rw [show (sp_X7_holds 2) = 0 from by decide]) ?_
      refine x_if_eq C 45 (by decide) dX7_move_31 (fun _ => ?_) (fun hz => absurd (by decide) hz)
      refine x_iconst C 0 (by decide) dX7_move_45 ?_
      exact x_iret C hr (nle rfl) (nle rfl) dX7_move_46 ⟨(by first | (simp only [sp_X7_move, if_neg h1, if_pos h2]; done) | (simp only [sp_X7_move, if_neg h1, if_pos h2]; rfl)), (by first | (simp only [sp_X7_move_s, sp_X7_move_th, sp_X7_move_sa, if_neg h1, if_pos h2]; done) | (simp only [sp_X7_move_s, sp_X7_move_th, sp_X7_move_sa, if_neg h1, if_pos h2]; rfl))⟩
  · refine x_iconst C 1 (by decide) dX7_move_8 ?_
    refine x_goto C 28 (by decide) dX7_move_9 ?_
    refine x_FV (w1 := ([] : va_W)) (wc := (wMo g am s fi tx dm th sa ln pa le sk nu h)) (w2 := ([] : va_W)) [.int 1] [] (wMo g am s fi tx dm 1 sa ln pa le sk nu h) C (k_X7_holds l g am s fi tx dm th sa ln pa le sk nu h 1) rfl yV_X7_holds wML_X7_99 rfl 0 rfl rfl rfl rfl (nle rfl) (nle rfl) (nle rfl) (nle rfl) (nle rfl) dX7_move_28 ?_
    refine x_st (st' := [.int 0]) (by rw [show (sp_X7_holds 1) = 0 from by decide]) ?_
    refine x_if_eq C 45 (by decide) dX7_move_31 (fun _ => ?_) (fun hz => absurd (by decide) hz)
    refine x_iconst C 0 (by decide) dX7_move_45 ?_
    exact x_iret C hr (nle rfl) (nle rfl) dX7_move_46 ⟨(by first | (simp only [sp_X7_move, if_pos h1]; done) | (simp only [sp_X7_move, if_pos h1]; rfl)), (by first | (simp only [sp_X7_move_s, sp_X7_move_th, sp_X7_move_sa, if_pos h1]; done) | (simp only [sp_X7_move_s, sp_X7_move_th, sp_X7_move_sa, if_pos h1]; rfl))⟩
def sp_X7_position (s : Nat → Int32) (a : Int32) : Int32 := (if (sp_X7_in a 0 3) = 0 then 0 else (s (0 + (Int32.toNatClampNeg a))))
def sp_X7_position_th (a : Int32) : Int32 := (if (sp_X7_in a 0 3) = 0 then 1 else 0)
set_option maxRecDepth 100000 in
theorem k_X7_position (l : Launch) (g : xGt) (am : Nat → Nat) (s fi tx dm : Nat → Int32) (th sa ln pa le sk nu : Int32) (h : Int64) (a : Int32) (hs : sa = nI (Int32.toNatClampNeg sa)) (hs6 : Int32.toNatClampNeg sa ≤ 6) (hm : rOk s 0) : xM l g.1 (xT g) yX7_position (ws_ yX7_position cX7_position 2 (some .int)) (xRm 2 42 0 0) 0 0 [.ref (am 0), .int a] (wMo g am s fi tx dm th sa ln pa le sk nu h) (fun r9 w9 => r9 = some (.int (sp_X7_position s a)) ∧ w9 = (wMo g am s fi tx dm (sp_X7_position_th a) sa ln pa le sk nu h)) (fun _ _ => False) := by
  refine x_start (own := RX7) (nm := "position") rfl rfl (by decide +kernel) rfl (nle rfl) (fun p e σ m args below meth c A C hno hr => ?_)
  refine x_lve (lv' := [(0, .ref (am 0)), (1, .int a)]) rfl ?_
  refine x_aload_n C 0 rfl rfl dX7_position_0 ?_
  refine x_iload_n C 1 rfl rfl dX7_position_1 ?_
  refine x_FS (w1 := ([] : va_W)) (wc := ([] : va_W)) (w2 := (wMo g am s fi tx dm th sa ln pa le sk nu h)) [.int a] [.ref (am 0)] (wMo g am s fi tx dm th sa ln pa le sk nu h) C (k_X7_isStick l g a) rfl yS_X7_isStick wML_X7_95 rfl rfl rfl (nle rfl) (nle rfl) (nle rfl) (nle rfl) (nle rfl) dX7_position_2 ?_
  refine x_if_eq C 12 (by decide) dX7_position_5 (fun h1 => ?_) (fun h1 => ?_)
  · refine x_iconst C 1 (by decide) dX7_position_12 ?_
    refine x_FV (w1 := ([] : va_W)) (wc := (wMo g am s fi tx dm th sa ln pa le sk nu h)) (w2 := ([] : va_W)) [.int 1] [] (wMo g am s fi tx dm 1 sa ln pa le sk nu h) C (k_X7_holds l g am s fi tx dm th sa ln pa le sk nu h 1) rfl yV_X7_holds wML_X7_99 rfl 0 rfl rfl rfl rfl (nle rfl) (nle rfl) (nle rfl) (nle rfl) (nle rfl) dX7_position_13 ?_
    refine x_st (st' := [.int 0]) (by rw [show (sp_X7_holds 1) = 0 from by decide]) ?_
    refine x_if_eq C 30 (by decide) dX7_position_16 (fun _ => ?_) (fun hz => absurd (by decide) hz)
    refine x_iconst C 0 (by decide) dX7_position_30 ?_
    exact x_iret C hr (nle rfl) (nle rfl) dX7_position_31 ⟨(by first | (simp only [sp_X7_position, if_pos h1]; done) | (simp only [sp_X7_position, if_pos h1]; rfl)), (by first | (simp only [sp_X7_position_th, if_pos h1]; done) | (simp only [sp_X7_position_th, if_pos h1]; rfl))⟩
  · refine x_iconst C 0 (by decide) dX7_position_8 ?_
    refine x_goto C 13 (by decide) dX7_position_9 ?_
    refine x_FV (w1 := ([] : va_W)) (wc := (wMo g am s fi tx dm th sa ln pa le sk nu h)) (w2 := ([] : va_W)) [.int 0] [] (wMo g am s fi tx dm 0 sa ln pa le sk nu h) C (k_X7_holds l g am s fi tx dm th sa ln pa le sk nu h 0) rfl yV_X7_holds wML_X7_99 rfl 0 rfl rfl rfl rfl (nle rfl) (nle rfl) (nle rfl) (nle rfl) (nle rfl) dX7_position_13 ?_
    refine x_st (st' := [.int 1]) (by rw [show (sp_X7_holds 0) = 1 from by decide]) ?_
    refine x_if_eq C 30 (by decide) dX7_position_16 (fun hz => absurd hz (by decide)) (fun _ => ?_)
    refine x_aload_n C 0 rfl rfl dX7_position_19 ?_
    refine x_get C 0 7 1 rfl rfl wLy_X7 wFL_X7_7 rfl (by decide) rfl dX7_position_20 ?_
    refine x_iconst C 0 (by decide) dX7_position_23 ?_
    have h1l := in_le h1 (by decide) (show (3 : Int32) = nI 3 from rfl) (by decide)
    refine x_iload_n C 1 rfl rfl dX7_position_24 ?_
    refine x_iaddN C 0 (Int32.toNatClampNeg a) rfl (in_nat h1 (by decide)) dX7_position_25 ?_
    refine x_ialdN (f := s) C 1 0 (0 + (Int32.toNatClampNeg a)) rfl rfl rfl (by omega) (by decide) dX7_position_26 ?_
    refine x_goto C 31 (by decide) dX7_position_27 ?_
    exact x_iret C hr (nle rfl) (nle rfl) dX7_position_31 ⟨(by first | (simp only [sp_X7_position, if_neg h1]; done) | (simp only [sp_X7_position, if_neg h1]; rfl)), (by first | (simp only [sp_X7_position_th, if_neg h1]; done) | (simp only [sp_X7_position_th, if_neg h1]; rfl))⟩
def sp_X7_setTrim (s : Nat → Int32) (sa : Int32) (a : Int32) (b : Int32) : Int32 := (if (sp_X7_in a 0 3) = 0 then 0 else (if (sp_X7_in b (-25) 25) = 0 then 0 else ((sp_X7_save_s s sa) (16 + 4 * (Int32.toNatClampNeg (s 24)) + (Int32.toNatClampNeg a)))))
def sp_X7_setTrim_s (s : Nat → Int32) (sa : Int32) (a : Int32) (b : Int32) : Nat → Int32 := (if (sp_X7_in a 0 3) = 0 then s else (if (sp_X7_in b (-25) 25) = 0 then s else (upd (sp_X7_save_s s sa) (16 + 4 * (Int32.toNatClampNeg (s 24)) + (Int32.toNatClampNeg a)) b)))
def sp_X7_setTrim_th (a : Int32) (b : Int32) : Int32 := (if (sp_X7_in a 0 3) = 0 then 1 else (if (sp_X7_in b (-25) 25) = 0 then 2 else 0))
def sp_X7_setTrim_sa (sa : Int32) (a : Int32) (b : Int32) : Int32 := (if (sp_X7_in a 0 3) = 0 then sa else (if (sp_X7_in b (-25) 25) = 0 then sa else (sp_X7_save_sa sa)))
set_option maxRecDepth 100000 in
theorem k_X7_setTrim (l : Launch) (g : xGt) (am : Nat → Nat) (s fi tx dm : Nat → Int32) (th sa ln pa le sk nu : Int32) (h : Int64) (a : Int32) (b : Int32) (hs : sa = nI (Int32.toNatClampNeg sa)) (hs6 : Int32.toNatClampNeg sa ≤ 6) (hm : rOk s 0) : xM l g.1 (xT g) yX7_setTrim (ws_ yX7_setTrim cX7_setTrim 3 (some .int)) (xRm 3 67 0 0) 0 0 [.ref (am 0), .int a, .int b] (wMo g am s fi tx dm th sa ln pa le sk nu h) (fun r9 w9 => r9 = some (.int (sp_X7_setTrim s sa a b)) ∧ w9 = (wMo g am (sp_X7_setTrim_s s sa a b) fi tx dm (sp_X7_setTrim_th a b) (sp_X7_setTrim_sa sa a b) ln pa le sk nu h)) (fun _ _ => False) := by
  have hx24 : (Int32.toNatClampNeg (s 24)) ≤ 1 := xb_le hm.2.2.1
  refine x_start (own := RX7) (nm := "setTrim") rfl rfl (by decide +kernel) rfl (nle rfl) (fun p e σ m args below meth c A C hno hr => ?_)
  refine x_lve (lv' := [(0, .ref (am 0)), (1, .int a), (2, .int b)]) rfl ?_
  refine x_aload_n C 0 rfl rfl dX7_setTrim_0 ?_
  refine x_iload_n C 1 rfl rfl dX7_setTrim_1 ?_
  refine x_FS (w1 := ([] : va_W)) (wc := ([] : va_W)) (w2 := (wMo g am s fi tx dm th sa ln pa le sk nu h)) [.int a] [.ref (am 0)] (wMo g am s fi tx dm th sa ln pa le sk nu h) C (k_X7_isStick l g a) rfl yS_X7_isStick wML_X7_95 rfl rfl rfl (nle rfl) (nle rfl) (nle rfl) (nle rfl) (nle rfl) dX7_setTrim_2 ?_
  refine x_if_ne C 12 (by decide) dX7_setTrim_5 (fun h1 => ?_) (fun h1 => ?_)
  · refine x_iload_n C 2 rfl rfl dX7_setTrim_12 ?_
    refine x_bipush C (-25) (by decide) dX7_setTrim_13 ?_
    refine x_bipush C 25 (by decide) dX7_setTrim_15 ?_
    refine x_FS (w1 := ([] : va_W)) (wc := ([] : va_W)) (w2 := (wMo g am s fi tx dm th sa ln pa le sk nu h)) [.int b, .int (-25), .int 25] [.ref (am 0)] (wMo g am s fi tx dm th sa ln pa le sk nu h) C (k_X7_in l g b (-25) 25) rfl yS_X7_in wML_X7_35 rfl rfl rfl (nle rfl) (nle rfl) (nle rfl) (nle rfl) (nle rfl) dX7_setTrim_17 ?_
    refine x_if_ne C 27 (by decide) dX7_setTrim_20 (fun h2 => ?_) (fun h2 => ?_)
    · refine x_iconst C 0 (by decide) dX7_setTrim_27 ?_
      refine x_FV (w1 := ([] : va_W)) (wc := (wMo g am s fi tx dm th sa ln pa le sk nu h)) (w2 := ([] : va_W)) [.int 0] [] (wMo g am s fi tx dm 0 sa ln pa le sk nu h) C (k_X7_holds l g am s fi tx dm th sa ln pa le sk nu h 0) rfl yV_X7_holds wML_X7_99 rfl 0 rfl rfl rfl rfl (nle rfl) (nle rfl) (nle rfl) (nle rfl) (nle rfl) dX7_setTrim_28 ?_
      refine x_st (st' := [.int 1]) (by rw [show (sp_X7_holds 0) = 1 from by decide]) ?_
      refine x_if_eq C 56 (by decide) dX7_setTrim_31 (fun hz => absurd hz (by decide)) (fun _ => ?_)
      refine x_aload_n C 0 rfl rfl dX7_setTrim_34 ?_
      refine x_bipush C 16 (by decide) dX7_setTrim_35 ?_
      refine x_iconst C 4 (by decide) dX7_setTrim_37 ?_
      refine x_aload_n C 0 rfl rfl dX7_setTrim_38 ?_
      refine x_get C 0 7 1 rfl rfl wLy_X7 wFL_X7_7 rfl (by decide) rfl dX7_setTrim_39 ?_
      refine x_bipush C 24 (by decide) dX7_setTrim_42 ?_
      refine x_ialdN (f := s) C 1 0 24 rfl rfl rfl (by omega) (by decide) dX7_setTrim_44 ?_
      refine x_imulN C 4 (Int32.toNatClampNeg (s 24)) rfl (xb_nat hm.2.2.1) dX7_setTrim_45 ?_
      refine x_iaddN C 16 (4 * (Int32.toNatClampNeg (s 24))) rfl rfl dX7_setTrim_46 ?_
      have h1l := in_le h1 (by decide) (show (3 : Int32) = nI 3 from rfl) (by decide)
      refine x_iload_n C 1 rfl rfl dX7_setTrim_47 ?_
      refine x_iaddN C (16 + 4 * (Int32.toNatClampNeg (s 24))) (Int32.toNatClampNeg a) rfl (in_nat h1 (by decide)) dX7_setTrim_48 ?_
      refine x_iload_n C 2 rfl rfl dX7_setTrim_49 ?_
      refine x_FV (w1 := ([] : va_W)) (wc := (wMo g am s fi tx dm 0 sa ln pa le sk nu h)) (w2 := ([] : va_W)) [.int (nI (16 + 4 * (Int32.toNatClampNeg (s 24)) + (Int32.toNatClampNeg a))), .int b] [] (wMo g am (upd (sp_X7_save_s s sa) (16 + 4 * (Int32.toNatClampNeg (s 24)) + (Int32.toNatClampNeg a)) b) fi tx dm 0 (sp_X7_save_sa sa) ln pa le sk nu h) C (k_X7_changed l g am s fi tx dm 0 sa ln pa le sk nu h (nI (16 + 4 * (Int32.toNatClampNeg (s 24)) + (Int32.toNatClampNeg a))) (16 + 4 * (Int32.toNatClampNeg (s 24)) + (Int32.toNatClampNeg a)) rfl b hs hs6 (by omega)) rfl yV_X7_changed wML_X7_102 rfl 0 rfl rfl rfl rfl (nle rfl) (nle rfl) (nle rfl) (nle rfl) (nle rfl) dX7_setTrim_50 ?_
      refine x_goto C 57 (by decide) dX7_setTrim_53 ?_
      exact x_iret C hr (nle rfl) (nle rfl) dX7_setTrim_57 ⟨(by first | (simp only [sp_X7_setTrim, if_neg h1, if_neg h2]; done) | (simp only [sp_X7_setTrim, if_neg h1, if_neg h2]; rfl)), (by first | (simp only [sp_X7_setTrim_s, sp_X7_setTrim_th, sp_X7_setTrim_sa, if_neg h1, if_neg h2]; done) | (simp only [sp_X7_setTrim_s, sp_X7_setTrim_th, sp_X7_setTrim_sa, if_neg h1, if_neg h2]; rfl))⟩
    · refine x_iconst C 2 (by decide) dX7_setTrim_23 ?_
      refine x_goto C 28 (by decide) dX7_setTrim_24 ?_
      refine x_FV (w1 := ([] : va_W)) (wc := (wMo g am s fi tx dm th sa ln pa le sk nu h)) (w2 := ([] : va_W)) [.int 2] [] (wMo g am s fi tx dm 2 sa ln pa le sk nu h) C (k_X7_holds l g am s fi tx dm th sa ln pa le sk nu h 2) rfl yV_X7_holds wML_X7_99 rfl 0 rfl rfl rfl rfl (nle rfl) (nle rfl) (nle rfl) (nle rfl) (nle rfl) dX7_setTrim_28 ?_
      refine x_st (st' := [.int 0]) (by rw [show (sp_X7_holds 2) = 0 from by decide]) ?_
      refine x_if_eq C 56 (by decide) dX7_setTrim_31 (fun _ => ?_) (fun hz => absurd (by decide) hz)
      refine x_iconst C 0 (by decide) dX7_setTrim_56 ?_
      exact x_iret C hr (nle rfl) (nle rfl) dX7_setTrim_57 ⟨(by first | (simp only [sp_X7_setTrim, if_neg h1, if_pos h2]; done) | (simp only [sp_X7_setTrim, if_neg h1, if_pos h2]; rfl)), (by first | (simp only [sp_X7_setTrim_s, sp_X7_setTrim_th, sp_X7_setTrim_sa, if_neg h1, if_pos h2]; done) | (simp only [sp_X7_setTrim_s, sp_X7_setTrim_th, sp_X7_setTrim_sa, if_neg h1, if_pos h2]; rfl))⟩
  · refine x_iconst C 1 (by decide) dX7_setTrim_8 ?_
    refine x_goto C 28 (by decide) dX7_setTrim_9 ?_
    refine x_FV (w1 := ([] : va_W)) (wc := (wMo g am s fi tx dm th sa ln pa le sk nu h)) (w2 := ([] : va_W)) [.int 1] [] (wMo g am s fi tx dm 1 sa ln pa le sk nu h) C (k_X7_holds l g am s fi tx dm th sa ln pa le sk nu h 1) rfl yV_X7_holds wML_X7_99 rfl 0 rfl rfl rfl rfl (nle rfl) (nle rfl) (nle rfl) (nle rfl) (nle rfl) dX7_setTrim_28 ?_
    refine x_st (st' := [.int 0]) (by rw [show (sp_X7_holds 1) = 0 from by decide]) ?_
    refine x_if_eq C 56 (by decide) dX7_setTrim_31 (fun _ => ?_) (fun hz => absurd (by decide) hz)
    refine x_iconst C 0 (by decide) dX7_setTrim_56 ?_
    exact x_iret C hr (nle rfl) (nle rfl) dX7_setTrim_57 ⟨(by first | (simp only [sp_X7_setTrim, if_pos h1]; done) | (simp only [sp_X7_setTrim, if_pos h1]; rfl)), (by first | (simp only [sp_X7_setTrim_s, sp_X7_setTrim_th, sp_X7_setTrim_sa, if_pos h1]; done) | (simp only [sp_X7_setTrim_s, sp_X7_setTrim_th, sp_X7_setTrim_sa, if_pos h1]; rfl))⟩
def sp_X7_setRate (s : Nat → Int32) (sa : Int32) (a : Int32) (b : Int32) : Int32 := (if (sp_X7_in a 0 3) = 0 then 0 else (if (sp_X7_in b 0 125) = 0 then 0 else ((sp_X7_save_s s sa) (8 + 4 * (Int32.toNatClampNeg (s 24)) + (Int32.toNatClampNeg a)))))
def sp_X7_setRate_s (s : Nat → Int32) (sa : Int32) (a : Int32) (b : Int32) : Nat → Int32 := (if (sp_X7_in a 0 3) = 0 then s else (if (sp_X7_in b 0 125) = 0 then s else (upd (sp_X7_save_s s sa) (8 + 4 * (Int32.toNatClampNeg (s 24)) + (Int32.toNatClampNeg a)) b)))
def sp_X7_setRate_th (a : Int32) (b : Int32) : Int32 := (if (sp_X7_in a 0 3) = 0 then 1 else (if (sp_X7_in b 0 125) = 0 then 2 else 0))
def sp_X7_setRate_sa (sa : Int32) (a : Int32) (b : Int32) : Int32 := (if (sp_X7_in a 0 3) = 0 then sa else (if (sp_X7_in b 0 125) = 0 then sa else (sp_X7_save_sa sa)))
set_option maxRecDepth 100000 in
theorem k_X7_setRate (l : Launch) (g : xGt) (am : Nat → Nat) (s fi tx dm : Nat → Int32) (th sa ln pa le sk nu : Int32) (h : Int64) (a : Int32) (b : Int32) (hs : sa = nI (Int32.toNatClampNeg sa)) (hs6 : Int32.toNatClampNeg sa ≤ 6) (hm : rOk s 0) : xM l g.1 (xT g) yX7_setRate (ws_ yX7_setRate cX7_setRate 3 (some .int)) (xRm 3 67 0 0) 0 0 [.ref (am 0), .int a, .int b] (wMo g am s fi tx dm th sa ln pa le sk nu h) (fun r9 w9 => r9 = some (.int (sp_X7_setRate s sa a b)) ∧ w9 = (wMo g am (sp_X7_setRate_s s sa a b) fi tx dm (sp_X7_setRate_th a b) (sp_X7_setRate_sa sa a b) ln pa le sk nu h)) (fun _ _ => False) := by
  have hx24 : (Int32.toNatClampNeg (s 24)) ≤ 1 := xb_le hm.2.2.1
  refine x_start (own := RX7) (nm := "setRate") rfl rfl (by decide +kernel) rfl (nle rfl) (fun p e σ m args below meth c A C hno hr => ?_)
  refine x_lve (lv' := [(0, .ref (am 0)), (1, .int a), (2, .int b)]) rfl ?_
  refine x_aload_n C 0 rfl rfl dX7_setRate_0 ?_
  refine x_iload_n C 1 rfl rfl dX7_setRate_1 ?_
  refine x_FS (w1 := ([] : va_W)) (wc := ([] : va_W)) (w2 := (wMo g am s fi tx dm th sa ln pa le sk nu h)) [.int a] [.ref (am 0)] (wMo g am s fi tx dm th sa ln pa le sk nu h) C (k_X7_isStick l g a) rfl yS_X7_isStick wML_X7_95 rfl rfl rfl (nle rfl) (nle rfl) (nle rfl) (nle rfl) (nle rfl) dX7_setRate_2 ?_
  refine x_if_ne C 12 (by decide) dX7_setRate_5 (fun h1 => ?_) (fun h1 => ?_)
  · refine x_iload_n C 2 rfl rfl dX7_setRate_12 ?_
    refine x_iconst C 0 (by decide) dX7_setRate_13 ?_
    refine x_bipush C 125 (by decide) dX7_setRate_14 ?_
    refine x_FS (w1 := ([] : va_W)) (wc := ([] : va_W)) (w2 := (wMo g am s fi tx dm th sa ln pa le sk nu h)) [.int b, .int 0, .int 125] [.ref (am 0)] (wMo g am s fi tx dm th sa ln pa le sk nu h) C (k_X7_in l g b 0 125) rfl yS_X7_in wML_X7_35 rfl rfl rfl (nle rfl) (nle rfl) (nle rfl) (nle rfl) (nle rfl) dX7_setRate_16 ?_
    refine x_if_ne C 26 (by decide) dX7_setRate_19 (fun h2 => ?_) (fun h2 => ?_)
    · refine x_iconst C 0 (by decide) dX7_setRate_26 ?_
      refine x_FV (w1 := ([] : va_W)) (wc := (wMo g am s fi tx dm th sa ln pa le sk nu h)) (w2 := ([] : va_W)) [.int 0] [] (wMo g am s fi tx dm 0 sa ln pa le sk nu h) C (k_X7_holds l g am s fi tx dm th sa ln pa le sk nu h 0) rfl yV_X7_holds wML_X7_99 rfl 0 rfl rfl rfl rfl (nle rfl) (nle rfl) (nle rfl) (nle rfl) (nle rfl) dX7_setRate_27 ?_
      refine x_st (st' := [.int 1]) (by rw [show (sp_X7_holds 0) = 1 from by decide]) ?_
      refine x_if_eq C 55 (by decide) dX7_setRate_30 (fun hz => absurd hz (by decide)) (fun _ => ?_)
      refine x_aload_n C 0 rfl rfl dX7_setRate_33 ?_
      refine x_bipush C 8 (by decide) dX7_setRate_34 ?_
      refine x_iconst C 4 (by decide) dX7_setRate_36 ?_
      refine x_aload_n C 0 rfl rfl dX7_setRate_37 ?_
      refine x_get C 0 7 1 rfl rfl wLy_X7 wFL_X7_7 rfl (by decide) rfl dX7_setRate_38 ?_
      refine x_bipush C 24 (by decide) dX7_setRate_41 ?_
      refine x_ialdN (f := s) C 1 0 24 rfl rfl rfl (by omega) (by decide) dX7_setRate_43 ?_
      refine x_imulN C 4 (Int32.toNatClampNeg (s 24)) rfl (xb_nat hm.2.2.1) dX7_setRate_44 ?_
      refine x_iaddN C 8 (4 * (Int32.toNatClampNeg (s 24))) rfl rfl dX7_setRate_45 ?_
      have h1l := in_le h1 (by decide) (show (3 : Int32) = nI 3 from rfl) (by decide)
      refine x_iload_n C 1 rfl rfl dX7_setRate_46 ?_
      refine x_iaddN C (8 + 4 * (Int32.toNatClampNeg (s 24))) (Int32.toNatClampNeg a) rfl (in_nat h1 (by decide)) dX7_setRate_47 ?_
      have h2l := in_le h2 (by decide) (show (125 : Int32) = nI 125 from rfl) (by decide)
      refine x_iload_n C 2 rfl rfl dX7_setRate_48 ?_
      refine x_FV (w1 := ([] : va_W)) (wc := (wMo g am s fi tx dm 0 sa ln pa le sk nu h)) (w2 := ([] : va_W)) [.int (nI (8 + 4 * (Int32.toNatClampNeg (s 24)) + (Int32.toNatClampNeg a))), .int b] [] (wMo g am (upd (sp_X7_save_s s sa) (8 + 4 * (Int32.toNatClampNeg (s 24)) + (Int32.toNatClampNeg a)) b) fi tx dm 0 (sp_X7_save_sa sa) ln pa le sk nu h) C (k_X7_changed l g am s fi tx dm 0 sa ln pa le sk nu h (nI (8 + 4 * (Int32.toNatClampNeg (s 24)) + (Int32.toNatClampNeg a))) (8 + 4 * (Int32.toNatClampNeg (s 24)) + (Int32.toNatClampNeg a)) rfl b hs hs6 (by omega)) rfl yV_X7_changed wML_X7_102 rfl 0 rfl rfl rfl rfl (nle rfl) (nle rfl) (nle rfl) (nle rfl) (nle rfl) dX7_setRate_49 ?_
      refine x_goto C 56 (by decide) dX7_setRate_52 ?_
      exact x_iret C hr (nle rfl) (nle rfl) dX7_setRate_56 ⟨(by first | (simp only [sp_X7_setRate, if_neg h1, if_neg h2]; done) | (simp only [sp_X7_setRate, if_neg h1, if_neg h2]; rfl)), (by first | (simp only [sp_X7_setRate_s, sp_X7_setRate_th, sp_X7_setRate_sa, if_neg h1, if_neg h2]; done) | (simp only [sp_X7_setRate_s, sp_X7_setRate_th, sp_X7_setRate_sa, if_neg h1, if_neg h2]; rfl))⟩
    · refine x_iconst C 2 (by decide) dX7_setRate_22 ?_
      refine x_goto C 27 (by decide) dX7_setRate_23 ?_
      refine x_FV (w1 := ([] : va_W)) (wc := (wMo g am s fi tx dm th sa ln pa le sk nu h)) (w2 := ([] : va_W)) [.int 2] [] (wMo g am s fi tx dm 2 sa ln pa le sk nu h) C (k_X7_holds l g am s fi tx dm th sa ln pa le sk nu h 2) rfl yV_X7_holds wML_X7_99 rfl 0 rfl rfl rfl rfl (nle rfl) (nle rfl) (nle rfl) (nle rfl) (nle rfl) dX7_setRate_27 ?_
      refine x_st (st' := [.int 0]) (by rw [show (sp_X7_holds 2) = 0 from by decide]) ?_
      refine x_if_eq C 55 (by decide) dX7_setRate_30 (fun _ => ?_) (fun hz => absurd (by decide) hz)
      refine x_iconst C 0 (by decide) dX7_setRate_55 ?_
      exact x_iret C hr (nle rfl) (nle rfl) dX7_setRate_56 ⟨(by first | (simp only [sp_X7_setRate, if_neg h1, if_pos h2]; done) | (simp only [sp_X7_setRate, if_neg h1, if_pos h2]; rfl)), (by first | (simp only [sp_X7_setRate_s, sp_X7_setRate_th, sp_X7_setRate_sa, if_neg h1, if_pos h2]; done) | (simp only [sp_X7_setRate_s, sp_X7_setRate_th, sp_X7_setRate_sa, if_neg h1, if_pos h2]; rfl))⟩
  · refine x_iconst C 1 (by decide) dX7_setRate_8 ?_
    refine x_goto C 27 (by decide) dX7_setRate_9 ?_
    refine x_FV (w1 := ([] : va_W)) (wc := (wMo g am s fi tx dm th sa ln pa le sk nu h)) (w2 := ([] : va_W)) [.int 1] [] (wMo g am s fi tx dm 1 sa ln pa le sk nu h) C (k_X7_holds l g am s fi tx dm th sa ln pa le sk nu h 1) rfl yV_X7_holds wML_X7_99 rfl 0 rfl rfl rfl rfl (nle rfl) (nle rfl) (nle rfl) (nle rfl) (nle rfl) dX7_setRate_27 ?_
    refine x_st (st' := [.int 0]) (by rw [show (sp_X7_holds 1) = 0 from by decide]) ?_
    refine x_if_eq C 55 (by decide) dX7_setRate_30 (fun _ => ?_) (fun hz => absurd (by decide) hz)
    refine x_iconst C 0 (by decide) dX7_setRate_55 ?_
    exact x_iret C hr (nle rfl) (nle rfl) dX7_setRate_56 ⟨(by first | (simp only [sp_X7_setRate, if_pos h1]; done) | (simp only [sp_X7_setRate, if_pos h1]; rfl)), (by first | (simp only [sp_X7_setRate_s, sp_X7_setRate_th, sp_X7_setRate_sa, if_pos h1]; done) | (simp only [sp_X7_setRate_s, sp_X7_setRate_th, sp_X7_setRate_sa, if_pos h1]; rfl))⟩
def sp_X7_trim (s : Nat → Int32) (a : Int32) : Int32 := (if (sp_X7_in a 0 3) = 0 then 0 else (s (16 + 4 * (Int32.toNatClampNeg (s 24)) + (Int32.toNatClampNeg a))))
def sp_X7_trim_th (a : Int32) : Int32 := (if (sp_X7_in a 0 3) = 0 then 1 else 0)
set_option maxRecDepth 100000 in
theorem k_X7_trim (l : Launch) (g : xGt) (am : Nat → Nat) (s fi tx dm : Nat → Int32) (th sa ln pa le sk nu : Int32) (h : Int64) (a : Int32) (hs : sa = nI (Int32.toNatClampNeg sa)) (hs6 : Int32.toNatClampNeg sa ≤ 6) (hm : rOk s 0) : xM l g.1 (xT g) yX7_trim (ws_ yX7_trim cX7_trim 2 (some .int)) (xRm 2 42 0 0) 0 0 [.ref (am 0), .int a] (wMo g am s fi tx dm th sa ln pa le sk nu h) (fun r9 w9 => r9 = some (.int (sp_X7_trim s a)) ∧ w9 = (wMo g am s fi tx dm (sp_X7_trim_th a) sa ln pa le sk nu h)) (fun _ _ => False) := by
  have hx24 : (Int32.toNatClampNeg (s 24)) ≤ 1 := xb_le hm.2.2.1
  refine x_start (own := RX7) (nm := "trim") rfl rfl (by decide +kernel) rfl (nle rfl) (fun p e σ m args below meth c A C hno hr => ?_)
  refine x_lve (lv' := [(0, .ref (am 0)), (1, .int a)]) rfl ?_
  refine x_aload_n C 0 rfl rfl dX7_trim_0 ?_
  refine x_iload_n C 1 rfl rfl dX7_trim_1 ?_
  refine x_FS (w1 := ([] : va_W)) (wc := ([] : va_W)) (w2 := (wMo g am s fi tx dm th sa ln pa le sk nu h)) [.int a] [.ref (am 0)] (wMo g am s fi tx dm th sa ln pa le sk nu h) C (k_X7_isStick l g a) rfl yS_X7_isStick wML_X7_95 rfl rfl rfl (nle rfl) (nle rfl) (nle rfl) (nle rfl) (nle rfl) dX7_trim_2 ?_
  refine x_if_eq C 12 (by decide) dX7_trim_5 (fun h1 => ?_) (fun h1 => ?_)
  · refine x_iconst C 1 (by decide) dX7_trim_12 ?_
    refine x_FV (w1 := ([] : va_W)) (wc := (wMo g am s fi tx dm th sa ln pa le sk nu h)) (w2 := ([] : va_W)) [.int 1] [] (wMo g am s fi tx dm 1 sa ln pa le sk nu h) C (k_X7_holds l g am s fi tx dm th sa ln pa le sk nu h 1) rfl yV_X7_holds wML_X7_99 rfl 0 rfl rfl rfl rfl (nle rfl) (nle rfl) (nle rfl) (nle rfl) (nle rfl) dX7_trim_13 ?_
    refine x_st (st' := [.int 0]) (by rw [show (sp_X7_holds 1) = 0 from by decide]) ?_
    refine x_if_eq C 41 (by decide) dX7_trim_16 (fun _ => ?_) (fun hz => absurd (by decide) hz)
    refine x_iconst C 0 (by decide) dX7_trim_41 ?_
    exact x_iret C hr (nle rfl) (nle rfl) dX7_trim_42 ⟨(by first | (simp only [sp_X7_trim, if_pos h1]; done) | (simp only [sp_X7_trim, if_pos h1]; rfl)), (by first | (simp only [sp_X7_trim_th, if_pos h1]; done) | (simp only [sp_X7_trim_th, if_pos h1]; rfl))⟩
  · refine x_iconst C 0 (by decide) dX7_trim_8 ?_
    refine x_goto C 13 (by decide) dX7_trim_9 ?_
    refine x_FV (w1 := ([] : va_W)) (wc := (wMo g am s fi tx dm th sa ln pa le sk nu h)) (w2 := ([] : va_W)) [.int 0] [] (wMo g am s fi tx dm 0 sa ln pa le sk nu h) C (k_X7_holds l g am s fi tx dm th sa ln pa le sk nu h 0) rfl yV_X7_holds wML_X7_99 rfl 0 rfl rfl rfl rfl (nle rfl) (nle rfl) (nle rfl) (nle rfl) (nle rfl) dX7_trim_13 ?_
    refine x_st (st' := [.int 1]) (by rw [show (sp_X7_holds 0) = 1 from by decide]) ?_
    refine x_if_eq C 41 (by decide) dX7_trim_16 (fun hz => absurd hz (by decide)) (fun _ => ?_)
    refine x_aload_n C 0 rfl rfl dX7_trim_19 ?_
    refine x_get C 0 7 1 rfl rfl wLy_X7 wFL_X7_7 rfl (by decide) rfl dX7_trim_20 ?_
    refine x_bipush C 16 (by decide) dX7_trim_23 ?_
    refine x_iconst C 4 (by decide) dX7_trim_25 ?_
    refine x_aload_n C 0 rfl rfl dX7_trim_26 ?_
    refine x_get C 0 7 1 rfl rfl wLy_X7 wFL_X7_7 rfl (by decide) rfl dX7_trim_27 ?_
    refine x_bipush C 24 (by decide) dX7_trim_30 ?_
    refine x_ialdN (f := s) C 1 0 24 rfl rfl rfl (by omega) (by decide) dX7_trim_32 ?_
    refine x_imulN C 4 (Int32.toNatClampNeg (s 24)) rfl (xb_nat hm.2.2.1) dX7_trim_33 ?_
    refine x_iaddN C 16 (4 * (Int32.toNatClampNeg (s 24))) rfl rfl dX7_trim_34 ?_
    have h1l := in_le h1 (by decide) (show (3 : Int32) = nI 3 from rfl) (by decide)
    refine x_iload_n C 1 rfl rfl dX7_trim_35 ?_
    refine x_iaddN C (16 + 4 * (Int32.toNatClampNeg (s 24))) (Int32.toNatClampNeg a) rfl (in_nat h1 (by decide)) dX7_trim_36 ?_
    refine x_ialdN (f := s) C 1 0 (16 + 4 * (Int32.toNatClampNeg (s 24)) + (Int32.toNatClampNeg a)) rfl rfl rfl (by omega) (by decide) dX7_trim_37 ?_
    refine x_goto C 42 (by decide) dX7_trim_38 ?_
    exact x_iret C hr (nle rfl) (nle rfl) dX7_trim_42 ⟨(by first | (simp only [sp_X7_trim, if_neg h1]; done) | (simp only [sp_X7_trim, if_neg h1]; rfl)), (by first | (simp only [sp_X7_trim_th, if_neg h1]; done) | (simp only [sp_X7_trim_th, if_neg h1]; rfl))⟩
def sp_X7_rate (s : Nat → Int32) (a : Int32) : Int32 := (if (sp_X7_in a 0 3) = 0 then 0 else (s (8 + 4 * (Int32.toNatClampNeg (s 24)) + (Int32.toNatClampNeg a))))
def sp_X7_rate_th (a : Int32) : Int32 := (if (sp_X7_in a 0 3) = 0 then 1 else 0)
set_option maxRecDepth 100000 in
theorem k_X7_rate (l : Launch) (g : xGt) (am : Nat → Nat) (s fi tx dm : Nat → Int32) (th sa ln pa le sk nu : Int32) (h : Int64) (a : Int32) (hs : sa = nI (Int32.toNatClampNeg sa)) (hs6 : Int32.toNatClampNeg sa ≤ 6) (hm : rOk s 0) : xM l g.1 (xT g) yX7_rate (ws_ yX7_rate cX7_rate 2 (some .int)) (xRm 2 42 0 0) 0 0 [.ref (am 0), .int a] (wMo g am s fi tx dm th sa ln pa le sk nu h) (fun r9 w9 => r9 = some (.int (sp_X7_rate s a)) ∧ w9 = (wMo g am s fi tx dm (sp_X7_rate_th a) sa ln pa le sk nu h)) (fun _ _ => False) := by
  have hx24 : (Int32.toNatClampNeg (s 24)) ≤ 1 := xb_le hm.2.2.1
  refine x_start (own := RX7) (nm := "rate") rfl rfl (by decide +kernel) rfl (nle rfl) (fun p e σ m args below meth c A C hno hr => ?_)
  refine x_lve (lv' := [(0, .ref (am 0)), (1, .int a)]) rfl ?_
  refine x_aload_n C 0 rfl rfl dX7_rate_0 ?_
  refine x_iload_n C 1 rfl rfl dX7_rate_1 ?_
  refine x_FS (w1 := ([] : va_W)) (wc := ([] : va_W)) (w2 := (wMo g am s fi tx dm th sa ln pa le sk nu h)) [.int a] [.ref (am 0)] (wMo g am s fi tx dm th sa ln pa le sk nu h) C (k_X7_isStick l g a) rfl yS_X7_isStick wML_X7_95 rfl rfl rfl (nle rfl) (nle rfl) (nle rfl) (nle rfl) (nle rfl) dX7_rate_2 ?_
  refine x_if_eq C 12 (by decide) dX7_rate_5 (fun h1 => ?_) (fun h1 => ?_)
  · refine x_iconst C 1 (by decide) dX7_rate_12 ?_
    refine x_FV (w1 := ([] : va_W)) (wc := (wMo g am s fi tx dm th sa ln pa le sk nu h)) (w2 := ([] : va_W)) [.int 1] [] (wMo g am s fi tx dm 1 sa ln pa le sk nu h) C (k_X7_holds l g am s fi tx dm th sa ln pa le sk nu h 1) rfl yV_X7_holds wML_X7_99 rfl 0 rfl rfl rfl rfl (nle rfl) (nle rfl) (nle rfl) (nle rfl) (nle rfl) dX7_rate_13 ?_
    refine x_st (st' := [.int 0]) (by rw [show (sp_X7_holds 1) = 0 from by decide]) ?_
    refine x_if_eq C 41 (by decide) dX7_rate_16 (fun _ => ?_) (fun hz => absurd (by decide) hz)
    refine x_iconst C 0 (by decide) dX7_rate_41 ?_
    exact x_iret C hr (nle rfl) (nle rfl) dX7_rate_42 ⟨(by first | (simp only [sp_X7_rate, if_pos h1]; done) | (simp only [sp_X7_rate, if_pos h1]; rfl)), (by first | (simp only [sp_X7_rate_th, if_pos h1]; done) | (simp only [sp_X7_rate_th, if_pos h1]; rfl))⟩
  · refine x_iconst C 0 (by decide) dX7_rate_8 ?_
    refine x_goto C 13 (by decide) dX7_rate_9 ?_
    refine x_FV (w1 := ([] : va_W)) (wc := (wMo g am s fi tx dm th sa ln pa le sk nu h)) (w2 := ([] : va_W)) [.int 0] [] (wMo g am s fi tx dm 0 sa ln pa le sk nu h) C (k_X7_holds l g am s fi tx dm th sa ln pa le sk nu h 0) rfl yV_X7_holds wML_X7_99 rfl 0 rfl rfl rfl rfl (nle rfl) (nle rfl) (nle rfl) (nle rfl) (nle rfl) dX7_rate_13 ?_
    refine x_st (st' := [.int 1]) (by rw [show (sp_X7_holds 0) = 1 from by decide]) ?_
    refine x_if_eq C 41 (by decide) dX7_rate_16 (fun hz => absurd hz (by decide)) (fun _ => ?_)
    refine x_aload_n C 0 rfl rfl dX7_rate_19 ?_
    refine x_get C 0 7 1 rfl rfl wLy_X7 wFL_X7_7 rfl (by decide) rfl dX7_rate_20 ?_
    refine x_bipush C 8 (by decide) dX7_rate_23 ?_
    refine x_iconst C 4 (by decide) dX7_rate_25 ?_
    refine x_aload_n C 0 rfl rfl dX7_rate_26 ?_
    refine x_get C 0 7 1 rfl rfl wLy_X7 wFL_X7_7 rfl (by decide) rfl dX7_rate_27 ?_
    refine x_bipush C 24 (by decide) dX7_rate_30 ?_
    refine x_ialdN (f := s) C 1 0 24 rfl rfl rfl (by omega) (by decide) dX7_rate_32 ?_
    refine x_imulN C 4 (Int32.toNatClampNeg (s 24)) rfl (xb_nat hm.2.2.1) dX7_rate_33 ?_
    refine x_iaddN C 8 (4 * (Int32.toNatClampNeg (s 24))) rfl rfl dX7_rate_34 ?_
    have h1l := in_le h1 (by decide) (show (3 : Int32) = nI 3 from rfl) (by decide)
    refine x_iload_n C 1 rfl rfl dX7_rate_35 ?_
    refine x_iaddN C (8 + 4 * (Int32.toNatClampNeg (s 24))) (Int32.toNatClampNeg a) rfl (in_nat h1 (by decide)) dX7_rate_36 ?_
    refine x_ialdN (f := s) C 1 0 (8 + 4 * (Int32.toNatClampNeg (s 24)) + (Int32.toNatClampNeg a)) rfl rfl rfl (by omega) (by decide) dX7_rate_37 ?_
    refine x_goto C 42 (by decide) dX7_rate_38 ?_
    exact x_iret C hr (nle rfl) (nle rfl) dX7_rate_42 ⟨(by first | (simp only [sp_X7_rate, if_neg h1]; done) | (simp only [sp_X7_rate, if_neg h1]; rfl)), (by first | (simp only [sp_X7_rate_th, if_neg h1]; done) | (simp only [sp_X7_rate_th, if_neg h1]; rfl))⟩
def sp_X7_setExpo (s : Nat → Int32) (sa : Int32) (a : Int32) (b : Int32) : Int32 := (if (sp_X7_in a 0 3) = 0 then 0 else (if (sp_X7_in b 0 100) = 0 then 0 else ((sp_X7_save_s s sa) (4 + (Int32.toNatClampNeg a)))))
def sp_X7_setExpo_s (s : Nat → Int32) (sa : Int32) (a : Int32) (b : Int32) : Nat → Int32 := (if (sp_X7_in a 0 3) = 0 then s else (if (sp_X7_in b 0 100) = 0 then s else (upd (sp_X7_save_s s sa) (4 + (Int32.toNatClampNeg a)) b)))
def sp_X7_setExpo_th (a : Int32) (b : Int32) : Int32 := (if (sp_X7_in a 0 3) = 0 then 1 else (if (sp_X7_in b 0 100) = 0 then 2 else 0))
def sp_X7_setExpo_sa (sa : Int32) (a : Int32) (b : Int32) : Int32 := (if (sp_X7_in a 0 3) = 0 then sa else (if (sp_X7_in b 0 100) = 0 then sa else (sp_X7_save_sa sa)))
set_option maxRecDepth 100000 in
theorem k_X7_setExpo (l : Launch) (g : xGt) (am : Nat → Nat) (s fi tx dm : Nat → Int32) (th sa ln pa le sk nu : Int32) (h : Int64) (a : Int32) (b : Int32) (hs : sa = nI (Int32.toNatClampNeg sa)) (hs6 : Int32.toNatClampNeg sa ≤ 6) (hm : rOk s 0) : xM l g.1 (xT g) yX7_setExpo (ws_ yX7_setExpo cX7_setExpo 3 (some .int)) (xRm 3 67 0 0) 0 0 [.ref (am 0), .int a, .int b] (wMo g am s fi tx dm th sa ln pa le sk nu h) (fun r9 w9 => r9 = some (.int (sp_X7_setExpo s sa a b)) ∧ w9 = (wMo g am (sp_X7_setExpo_s s sa a b) fi tx dm (sp_X7_setExpo_th a b) (sp_X7_setExpo_sa sa a b) ln pa le sk nu h)) (fun _ _ => False) := by
  refine x_start (own := RX7) (nm := "setExpo") rfl rfl (by decide +kernel) rfl (nle rfl) (fun p e σ m args below meth c A C hno hr => ?_)
  refine x_lve (lv' := [(0, .ref (am 0)), (1, .int a), (2, .int b)]) rfl ?_
  refine x_aload_n C 0 rfl rfl dX7_setExpo_0 ?_
  refine x_iload_n C 1 rfl rfl dX7_setExpo_1 ?_
  refine x_FS (w1 := ([] : va_W)) (wc := ([] : va_W)) (w2 := (wMo g am s fi tx dm th sa ln pa le sk nu h)) [.int a] [.ref (am 0)] (wMo g am s fi tx dm th sa ln pa le sk nu h) C (k_X7_isStick l g a) rfl yS_X7_isStick wML_X7_95 rfl rfl rfl (nle rfl) (nle rfl) (nle rfl) (nle rfl) (nle rfl) dX7_setExpo_2 ?_
  refine x_if_ne C 12 (by decide) dX7_setExpo_5 (fun h1 => ?_) (fun h1 => ?_)
  · refine x_iload_n C 2 rfl rfl dX7_setExpo_12 ?_
    refine x_iconst C 0 (by decide) dX7_setExpo_13 ?_
    refine x_bipush C 100 (by decide) dX7_setExpo_14 ?_
    refine x_FS (w1 := ([] : va_W)) (wc := ([] : va_W)) (w2 := (wMo g am s fi tx dm th sa ln pa le sk nu h)) [.int b, .int 0, .int 100] [.ref (am 0)] (wMo g am s fi tx dm th sa ln pa le sk nu h) C (k_X7_in l g b 0 100) rfl yS_X7_in wML_X7_35 rfl rfl rfl (nle rfl) (nle rfl) (nle rfl) (nle rfl) (nle rfl) dX7_setExpo_16 ?_
    refine x_if_ne C 26 (by decide) dX7_setExpo_19 (fun h2 => ?_) (fun h2 => ?_)
    · refine x_iconst C 0 (by decide) dX7_setExpo_26 ?_
      refine x_FV (w1 := ([] : va_W)) (wc := (wMo g am s fi tx dm th sa ln pa le sk nu h)) (w2 := ([] : va_W)) [.int 0] [] (wMo g am s fi tx dm 0 sa ln pa le sk nu h) C (k_X7_holds l g am s fi tx dm th sa ln pa le sk nu h 0) rfl yV_X7_holds wML_X7_99 rfl 0 rfl rfl rfl rfl (nle rfl) (nle rfl) (nle rfl) (nle rfl) (nle rfl) dX7_setExpo_27 ?_
      refine x_st (st' := [.int 1]) (by rw [show (sp_X7_holds 0) = 1 from by decide]) ?_
      refine x_if_eq C 44 (by decide) dX7_setExpo_30 (fun hz => absurd hz (by decide)) (fun _ => ?_)
      refine x_aload_n C 0 rfl rfl dX7_setExpo_33 ?_
      refine x_iconst C 4 (by decide) dX7_setExpo_34 ?_
      have h1l := in_le h1 (by decide) (show (3 : Int32) = nI 3 from rfl) (by decide)
      refine x_iload_n C 1 rfl rfl dX7_setExpo_35 ?_
      refine x_iaddN C 4 (Int32.toNatClampNeg a) rfl (in_nat h1 (by decide)) dX7_setExpo_36 ?_
      have h2l := in_le h2 (by decide) (show (100 : Int32) = nI 100 from rfl) (by decide)
      refine x_iload_n C 2 rfl rfl dX7_setExpo_37 ?_
      refine x_FV (w1 := ([] : va_W)) (wc := (wMo g am s fi tx dm 0 sa ln pa le sk nu h)) (w2 := ([] : va_W)) [.int (nI (4 + (Int32.toNatClampNeg a))), .int b] [] (wMo g am (upd (sp_X7_save_s s sa) (4 + (Int32.toNatClampNeg a)) b) fi tx dm 0 (sp_X7_save_sa sa) ln pa le sk nu h) C (k_X7_changed l g am s fi tx dm 0 sa ln pa le sk nu h (nI (4 + (Int32.toNatClampNeg a))) (4 + (Int32.toNatClampNeg a)) rfl b hs hs6 (by omega)) rfl yV_X7_changed wML_X7_102 rfl 0 rfl rfl rfl rfl (nle rfl) (nle rfl) (nle rfl) (nle rfl) (nle rfl) dX7_setExpo_38 ?_
      refine x_goto C 45 (by decide) dX7_setExpo_41 ?_
      exact x_iret C hr (nle rfl) (nle rfl) dX7_setExpo_45 ⟨(by first | (simp only [sp_X7_setExpo, if_neg h1, if_neg h2]; done) | (simp only [sp_X7_setExpo, if_neg h1, if_neg h2]; rfl)), (by first | (simp only [sp_X7_setExpo_s, sp_X7_setExpo_th, sp_X7_setExpo_sa, if_neg h1, if_neg h2]; done) | (simp only [sp_X7_setExpo_s, sp_X7_setExpo_th, sp_X7_setExpo_sa, if_neg h1, if_neg h2]; rfl))⟩
    · refine x_iconst C 2 (by decide) dX7_setExpo_22 ?_
      refine x_goto C 27 (by decide) dX7_setExpo_23 ?_
      refine x_FV (w1 := ([] : va_W)) (wc := (wMo g am s fi tx dm th sa ln pa le sk nu h)) (w2 := ([] : va_W)) [.int 2] [] (wMo g am s fi tx dm 2 sa ln pa le sk nu h) C (k_X7_holds l g am s fi tx dm th sa ln pa le sk nu h 2) rfl yV_X7_holds wML_X7_99 rfl 0 rfl rfl rfl rfl (nle rfl) (nle rfl) (nle rfl) (nle rfl) (nle rfl) dX7_setExpo_27 ?_
      refine x_st (st' := [.int 0]) (by rw [show (sp_X7_holds 2) = 0 from by decide]) ?_
      refine x_if_eq C 44 (by decide) dX7_setExpo_30 (fun _ => ?_) (fun hz => absurd (by decide) hz)
      refine x_iconst C 0 (by decide) dX7_setExpo_44 ?_
      exact x_iret C hr (nle rfl) (nle rfl) dX7_setExpo_45 ⟨(by first | (simp only [sp_X7_setExpo, if_neg h1, if_pos h2]; done) | (simp only [sp_X7_setExpo, if_neg h1, if_pos h2]; rfl)), (by first | (simp only [sp_X7_setExpo_s, sp_X7_setExpo_th, sp_X7_setExpo_sa, if_neg h1, if_pos h2]; done) | (simp only [sp_X7_setExpo_s, sp_X7_setExpo_th, sp_X7_setExpo_sa, if_neg h1, if_pos h2]; rfl))⟩
  · refine x_iconst C 1 (by decide) dX7_setExpo_8 ?_
    refine x_goto C 27 (by decide) dX7_setExpo_9 ?_
    refine x_FV (w1 := ([] : va_W)) (wc := (wMo g am s fi tx dm th sa ln pa le sk nu h)) (w2 := ([] : va_W)) [.int 1] [] (wMo g am s fi tx dm 1 sa ln pa le sk nu h) C (k_X7_holds l g am s fi tx dm th sa ln pa le sk nu h 1) rfl yV_X7_holds wML_X7_99 rfl 0 rfl rfl rfl rfl (nle rfl) (nle rfl) (nle rfl) (nle rfl) (nle rfl) dX7_setExpo_27 ?_
    refine x_st (st' := [.int 0]) (by rw [show (sp_X7_holds 1) = 0 from by decide]) ?_
    refine x_if_eq C 44 (by decide) dX7_setExpo_30 (fun _ => ?_) (fun hz => absurd (by decide) hz)
    refine x_iconst C 0 (by decide) dX7_setExpo_44 ?_
    exact x_iret C hr (nle rfl) (nle rfl) dX7_setExpo_45 ⟨(by first | (simp only [sp_X7_setExpo, if_pos h1]; done) | (simp only [sp_X7_setExpo, if_pos h1]; rfl)), (by first | (simp only [sp_X7_setExpo_s, sp_X7_setExpo_th, sp_X7_setExpo_sa, if_pos h1]; done) | (simp only [sp_X7_setExpo_s, sp_X7_setExpo_th, sp_X7_setExpo_sa, if_pos h1]; rfl))⟩
def sp_X7_expo (s : Nat → Int32) (a : Int32) : Int32 := (if (sp_X7_in a 0 3) = 0 then 0 else (s (4 + (Int32.toNatClampNeg a))))
def sp_X7_expo_th (a : Int32) : Int32 := (if (sp_X7_in a 0 3) = 0 then 1 else 0)
set_option maxRecDepth 100000 in
theorem k_X7_expo (l : Launch) (g : xGt) (am : Nat → Nat) (s fi tx dm : Nat → Int32) (th sa ln pa le sk nu : Int32) (h : Int64) (a : Int32) (hs : sa = nI (Int32.toNatClampNeg sa)) (hs6 : Int32.toNatClampNeg sa ≤ 6) (hm : rOk s 0) : xM l g.1 (xT g) yX7_expo (ws_ yX7_expo cX7_expo 2 (some .int)) (xRm 2 42 0 0) 0 0 [.ref (am 0), .int a] (wMo g am s fi tx dm th sa ln pa le sk nu h) (fun r9 w9 => r9 = some (.int (sp_X7_expo s a)) ∧ w9 = (wMo g am s fi tx dm (sp_X7_expo_th a) sa ln pa le sk nu h)) (fun _ _ => False) := by
  refine x_start (own := RX7) (nm := "expo") rfl rfl (by decide +kernel) rfl (nle rfl) (fun p e σ m args below meth c A C hno hr => ?_)
  refine x_lve (lv' := [(0, .ref (am 0)), (1, .int a)]) rfl ?_
  refine x_aload_n C 0 rfl rfl dX7_expo_0 ?_
  refine x_iload_n C 1 rfl rfl dX7_expo_1 ?_
  refine x_FS (w1 := ([] : va_W)) (wc := ([] : va_W)) (w2 := (wMo g am s fi tx dm th sa ln pa le sk nu h)) [.int a] [.ref (am 0)] (wMo g am s fi tx dm th sa ln pa le sk nu h) C (k_X7_isStick l g a) rfl yS_X7_isStick wML_X7_95 rfl rfl rfl (nle rfl) (nle rfl) (nle rfl) (nle rfl) (nle rfl) dX7_expo_2 ?_
  refine x_if_eq C 12 (by decide) dX7_expo_5 (fun h1 => ?_) (fun h1 => ?_)
  · refine x_iconst C 1 (by decide) dX7_expo_12 ?_
    refine x_FV (w1 := ([] : va_W)) (wc := (wMo g am s fi tx dm th sa ln pa le sk nu h)) (w2 := ([] : va_W)) [.int 1] [] (wMo g am s fi tx dm 1 sa ln pa le sk nu h) C (k_X7_holds l g am s fi tx dm th sa ln pa le sk nu h 1) rfl yV_X7_holds wML_X7_99 rfl 0 rfl rfl rfl rfl (nle rfl) (nle rfl) (nle rfl) (nle rfl) (nle rfl) dX7_expo_13 ?_
    refine x_st (st' := [.int 0]) (by rw [show (sp_X7_holds 1) = 0 from by decide]) ?_
    refine x_if_eq C 30 (by decide) dX7_expo_16 (fun _ => ?_) (fun hz => absurd (by decide) hz)
    refine x_iconst C 0 (by decide) dX7_expo_30 ?_
    exact x_iret C hr (nle rfl) (nle rfl) dX7_expo_31 ⟨(by first | (simp only [sp_X7_expo, if_pos h1]; done) | (simp only [sp_X7_expo, if_pos h1]; rfl)), (by first | (simp only [sp_X7_expo_th, if_pos h1]; done) | (simp only [sp_X7_expo_th, if_pos h1]; rfl))⟩
  · refine x_iconst C 0 (by decide) dX7_expo_8 ?_
    refine x_goto C 13 (by decide) dX7_expo_9 ?_
    refine x_FV (w1 := ([] : va_W)) (wc := (wMo g am s fi tx dm th sa ln pa le sk nu h)) (w2 := ([] : va_W)) [.int 0] [] (wMo g am s fi tx dm 0 sa ln pa le sk nu h) C (k_X7_holds l g am s fi tx dm th sa ln pa le sk nu h 0) rfl yV_X7_holds wML_X7_99 rfl 0 rfl rfl rfl rfl (nle rfl) (nle rfl) (nle rfl) (nle rfl) (nle rfl) dX7_expo_13 ?_
    refine x_st (st' := [.int 1]) (by rw [show (sp_X7_holds 0) = 1 from by decide]) ?_
    refine x_if_eq C 30 (by decide) dX7_expo_16 (fun hz => absurd hz (by decide)) (fun _ => ?_)
    refine x_aload_n C 0 rfl rfl dX7_expo_19 ?_
    refine x_get C 0 7 1 rfl rfl wLy_X7 wFL_X7_7 rfl (by decide) rfl dX7_expo_20 ?_
    refine x_iconst C 4 (by decide) dX7_expo_23 ?_
    have h1l := in_le h1 (by decide) (show (3 : Int32) = nI 3 from rfl) (by decide)
    refine x_iload_n C 1 rfl rfl dX7_expo_24 ?_
    refine x_iaddN C 4 (Int32.toNatClampNeg a) rfl (in_nat h1 (by decide)) dX7_expo_25 ?_
    refine x_ialdN (f := s) C 1 0 (4 + (Int32.toNatClampNeg a)) rfl rfl rfl (by omega) (by decide) dX7_expo_26 ?_
    refine x_goto C 31 (by decide) dX7_expo_27 ?_
    exact x_iret C hr (nle rfl) (nle rfl) dX7_expo_31 ⟨(by first | (simp only [sp_X7_expo, if_neg h1]; done) | (simp only [sp_X7_expo, if_neg h1]; rfl)), (by first | (simp only [sp_X7_expo_th, if_neg h1]; done) | (simp only [sp_X7_expo_th, if_neg h1]; rfl))⟩
def sp_X7_switchRates (s : Nat → Int32) (sa : Int32) : Int32 := (if ((sp_X7_save_s s sa) 24) = 0 then (1 : Int32) else 0)
theorem spb_X7_switchRates (s : Nat → Int32) (sa : Int32)  : (sp_X7_switchRates s sa) = 0 ∨ (sp_X7_switchRates s sa) = 1 := by
  unfold sp_X7_switchRates
  exact (bool_ite (Or.inr rfl) (Or.inl rfl))
set_option maxRecDepth 100000 in
theorem k_X7_switchRates (l : Launch) (g : xGt) (am : Nat → Nat) (s fi tx dm : Nat → Int32) (th sa ln pa le sk nu : Int32) (h : Int64) (hs : sa = nI (Int32.toNatClampNeg sa)) (hs6 : Int32.toNatClampNeg sa ≤ 6) (hm : rOk s 0) : xM l g.1 (xT g) yX7_switchRates (ws_ yX7_switchRates cX7_switchRates 1 (some .boolean)) (xRm 3 67 0 0) 0 0 [.ref (am 0)] (wMo g am s fi tx dm th sa ln pa le sk nu h) (fun r9 w9 => r9 = some (.int (sp_X7_switchRates s sa)) ∧ w9 = (wMo g am (upd (sp_X7_save_s s sa) 24 (1 - (s 24))) fi tx dm 0 (sp_X7_save_sa sa) ln pa le sk nu h)) (fun _ _ => False) := by
  refine x_start (own := RX7) (nm := "switchRates") rfl rfl (by decide +kernel) rfl (nle rfl) (fun p e σ m args below meth c A C hno hr => ?_)
  refine x_lve (lv' := [(0, .ref (am 0))]) rfl ?_
  refine x_aload_n C 0 rfl rfl dX7_switchRates_0 ?_
  refine x_iconst C 0 (by decide) dX7_switchRates_1 ?_
  refine x_put C 0 7 0 tyX7 (wMo g am s fi tx dm 0 sa ln pa le sk nu h) rfl rfl rfl wLy_X7 tyX7_ok nmX7 wFL_X7_31 rfl (by decide) rfl rfl rfl rfl (nlt rfl) dX7_switchRates_2 ?_
  refine x_aload_n C 0 rfl rfl dX7_switchRates_5 ?_
  refine x_bipush C 24 (by decide) dX7_switchRates_6 ?_
  refine x_iconst C 1 (by decide) dX7_switchRates_8 ?_
  refine x_aload_n C 0 rfl rfl dX7_switchRates_9 ?_
  refine x_get C 0 7 1 rfl rfl wLy_X7 wFL_X7_7 rfl (by decide) rfl dX7_switchRates_10 ?_
  refine x_bipush C 24 (by decide) dX7_switchRates_13 ?_
  refine x_ialdN (f := s) C 1 0 24 rfl rfl rfl (by omega) (by decide) dX7_switchRates_15 ?_
  refine x_isub C dX7_switchRates_16 ?_
  refine x_FV (w1 := ([] : va_W)) (wc := (wMo g am s fi tx dm 0 sa ln pa le sk nu h)) (w2 := ([] : va_W)) [.int 24, .int (1 - (s 24))] [] (wMo g am (upd (sp_X7_save_s s sa) 24 (1 - (s 24))) fi tx dm 0 (sp_X7_save_sa sa) ln pa le sk nu h) C (k_X7_changed l g am s fi tx dm 0 sa ln pa le sk nu h 24 24 rfl (1 - (s 24)) hs hs6 (by omega)) rfl yV_X7_changed wML_X7_102 rfl 0 rfl rfl rfl rfl (nle rfl) (nle rfl) (nle rfl) (nle rfl) (nle rfl) dX7_switchRates_17 ?_
  suffices K2 : xW p l e _ σ m args below meth c g.1 A 1 0 0 _ (wMo g am (upd (sp_X7_save_s s sa) 24 (1 - (s 24))) fi tx dm 0 (sp_X7_save_sa sa) ln pa le sk nu h) [(0, .ref (am 0))] 28 [.int (if ((sp_X7_save_s s sa) 24) = 0 then (1 : Int32) else 0)] by
    refine x_if_ne C 27 (by decide) dX7_switchRates_20 (fun h1 => ?_) (fun h1 => ?_)
    · refine x_iconst C 0 (by decide) dX7_switchRates_27 ?_
      refine x_st (st' := [.int (if ((sp_X7_save_s s sa) 24) = 0 then (1 : Int32) else 0)]) (by simp only [if_neg h1]) ?_
      exact K2
    · refine x_iconst C 1 (by decide) dX7_switchRates_23 ?_
      refine x_goto C 28 (by decide) dX7_switchRates_24 ?_
      refine x_st (st' := [.int (if ((sp_X7_save_s s sa) 24) = 0 then (1 : Int32) else 0)]) (by simp only [if_pos h1]) ?_
      exact K2
  exact x_zret C hr (xnz (bool_ite (Or.inr rfl) (Or.inl rfl))) (nle rfl) (nle rfl) dX7_switchRates_28 ⟨(by first | (simp only [sp_X7_switchRates]; done) | (simp only [sp_X7_switchRates]; rfl)), rfl⟩
def sp_X7_isHigh (s : Nat → Int32) : Int32 := (if (s 24) = 1 then (1 : Int32) else 0)
theorem spb_X7_isHigh (s : Nat → Int32)  : (sp_X7_isHigh s) = 0 ∨ (sp_X7_isHigh s) = 1 := by
  unfold sp_X7_isHigh
  exact (bool_ite (Or.inr rfl) (Or.inl rfl))
set_option maxRecDepth 100000 in
theorem k_X7_isHigh (l : Launch) (g : xGt) (am : Nat → Nat) (s fi tx dm : Nat → Int32) (th sa ln pa le sk nu : Int32) (h : Int64) (hs : sa = nI (Int32.toNatClampNeg sa)) (hs6 : Int32.toNatClampNeg sa ≤ 6) (hm : rOk s 0) : xM l g.1 (xT g) yX7_isHigh (ws_ yX7_isHigh cX7_isHigh 1 (some .boolean)) (xRm 0 0 0 0) 0 0 [.ref (am 0)] (wMo g am s fi tx dm th sa ln pa le sk nu h) (fun r9 w9 => r9 = some (.int (sp_X7_isHigh s)) ∧ w9 = (wMo g am s fi tx dm 0 sa ln pa le sk nu h)) (fun _ _ => False) := by
  refine x_start (own := RX7) (nm := "isHigh") rfl rfl (by decide +kernel) rfl (nle rfl) (fun p e σ m args below meth c A C hno hr => ?_)
  refine x_lve (lv' := [(0, .ref (am 0))]) rfl ?_
  refine x_aload_n C 0 rfl rfl dX7_isHigh_0 ?_
  refine x_iconst C 0 (by decide) dX7_isHigh_1 ?_
  refine x_put C 0 7 0 tyX7 (wMo g am s fi tx dm 0 sa ln pa le sk nu h) rfl rfl rfl wLy_X7 tyX7_ok nmX7 wFL_X7_31 rfl (by decide) rfl rfl rfl rfl (nlt rfl) dX7_isHigh_2 ?_
  refine x_aload_n C 0 rfl rfl dX7_isHigh_5 ?_
  refine x_get C 0 7 1 rfl rfl wLy_X7 wFL_X7_7 rfl (by decide) rfl dX7_isHigh_6 ?_
  refine x_bipush C 24 (by decide) dX7_isHigh_9 ?_
  refine x_ialdN (f := s) C 1 0 24 rfl rfl rfl (by omega) (by decide) dX7_isHigh_11 ?_
  refine x_iconst C 1 (by decide) dX7_isHigh_12 ?_
  suffices K2 : xW p l e _ σ m args below meth c g.1 A 1 0 0 _ (wMo g am s fi tx dm 0 sa ln pa le sk nu h) [(0, .ref (am 0))] 21 [.int (if (s 24) = 1 then (1 : Int32) else 0)] by
    refine x_icmp_ne C 20 (by decide) dX7_isHigh_13 (fun h1 => ?_) (fun h1 => ?_)
    · refine x_iconst C 0 (by decide) dX7_isHigh_20 ?_
      refine x_st (st' := [.int (if (s 24) = 1 then (1 : Int32) else 0)]) (by simp only [if_neg h1]) ?_
      exact K2
    · refine x_iconst C 1 (by decide) dX7_isHigh_16 ?_
      refine x_goto C 21 (by decide) dX7_isHigh_17 ?_
      refine x_st (st' := [.int (if (s 24) = 1 then (1 : Int32) else 0)]) (by simp only [if_pos h1]) ?_
      exact K2
  exact x_zret C hr (xnz (bool_ite (Or.inr rfl) (Or.inl rfl))) (nle rfl) (nle rfl) dX7_isHigh_21 ⟨(by first | (simp only [sp_X7_isHigh]; done) | (simp only [sp_X7_isHigh]; rfl)), rfl⟩
def sp_X7_cutThrottle (s : Nat → Int32) (sa : Int32) : Int32 := (if ((sp_X7_save_s s sa) 25) = 1 then (1 : Int32) else 0)
def sp_X7_cutThrottle_s (s : Nat → Int32) (sa : Int32) (z : Int32) : Nat → Int32 := (upd (sp_X7_save_s s sa) 25 (if z = 0 then (0 : Int32) else 1))
theorem spb_X7_cutThrottle (s : Nat → Int32) (sa : Int32)  : (sp_X7_cutThrottle s sa) = 0 ∨ (sp_X7_cutThrottle s sa) = 1 := by
  unfold sp_X7_cutThrottle
  exact (bool_ite (Or.inr rfl) (Or.inl rfl))
set_option maxRecDepth 100000 in
theorem k_X7_cutThrottle (l : Launch) (g : xGt) (am : Nat → Nat) (s fi tx dm : Nat → Int32) (th sa ln pa le sk nu : Int32) (h : Int64) (z : Int32) (b_z : z = 0 ∨ z = 1) (hs : sa = nI (Int32.toNatClampNeg sa)) (hs6 : Int32.toNatClampNeg sa ≤ 6) (hm : rOk s 0) : xM l g.1 (xT g) yX7_cutThrottle (ws_ yX7_cutThrottle cX7_cutThrottle 2 (some .boolean)) (xRm 3 67 0 0) 0 0 [.ref (am 0), .int z] (wMo g am s fi tx dm th sa ln pa le sk nu h) (fun r9 w9 => r9 = some (.int (sp_X7_cutThrottle s sa)) ∧ w9 = (wMo g am (sp_X7_cutThrottle_s s sa z) fi tx dm 0 (sp_X7_save_sa sa) ln pa le sk nu h)) (fun _ _ => False) := by
  refine x_start (own := RX7) (nm := "cutThrottle") rfl rfl (by decide +kernel) rfl (nle rfl) (fun p e σ m args below meth c A C hno hr => ?_)
  refine x_lve (lv' := [(0, .ref (am 0)), (1, .int z)]) rfl ?_
  refine x_aload_n C 0 rfl rfl dX7_cutThrottle_0 ?_
  refine x_iconst C 0 (by decide) dX7_cutThrottle_1 ?_
  refine x_put C 0 7 0 tyX7 (wMo g am s fi tx dm 0 sa ln pa le sk nu h) rfl rfl rfl wLy_X7 tyX7_ok nmX7 wFL_X7_31 rfl (by decide) rfl rfl rfl rfl (nlt rfl) dX7_cutThrottle_2 ?_
  refine x_aload_n C 0 rfl rfl dX7_cutThrottle_5 ?_
  refine x_bipush C 25 (by decide) dX7_cutThrottle_6 ?_
  refine x_iload_n C 1 rfl rfl dX7_cutThrottle_8 ?_
  suffices K2 : xW p l e _ σ m args below meth c g.1 A 2 0 0 _ (wMo g am s fi tx dm 0 sa ln pa le sk nu h) [(0, .ref (am 0)), (1, .int z)] 17 [.int (if z = 0 then (0 : Int32) else 1), .int 25, .ref (am 0)] by
    refine x_if_eq C 16 (by decide) dX7_cutThrottle_9 (fun h1 => ?_) (fun h1 => ?_)
    · refine x_iconst C 0 (by decide) dX7_cutThrottle_16 ?_
      refine x_st (st' := [.int (if z = 0 then (0 : Int32) else 1), .int 25, .ref (am 0)]) (by simp only [if_pos h1]) ?_
      exact K2
    · refine x_iconst C 1 (by decide) dX7_cutThrottle_12 ?_
      refine x_goto C 17 (by decide) dX7_cutThrottle_13 ?_
      refine x_st (st' := [.int (if z = 0 then (0 : Int32) else 1), .int 25, .ref (am 0)]) (by simp only [if_neg h1]) ?_
      exact K2
  refine x_FV (w1 := ([] : va_W)) (wc := (wMo g am s fi tx dm 0 sa ln pa le sk nu h)) (w2 := ([] : va_W)) [.int 25, .int (if z = 0 then (0 : Int32) else 1)] [] (wMo g am (upd (sp_X7_save_s s sa) 25 (if z = 0 then (0 : Int32) else 1)) fi tx dm 0 (sp_X7_save_sa sa) ln pa le sk nu h) C (k_X7_changed l g am s fi tx dm 0 sa ln pa le sk nu h 25 25 rfl (if z = 0 then (0 : Int32) else 1) hs hs6 (by omega)) rfl yV_X7_changed wML_X7_102 rfl 0 rfl rfl rfl rfl (nle rfl) (nle rfl) (nle rfl) (nle rfl) (nle rfl) dX7_cutThrottle_17 ?_
  refine x_iconst C 1 (by decide) dX7_cutThrottle_20 ?_
  suffices K4 : xW p l e _ σ m args below meth c g.1 A 2 0 0 _ (wMo g am (upd (sp_X7_save_s s sa) 25 (if z = 0 then (0 : Int32) else 1)) fi tx dm 0 (sp_X7_save_sa sa) ln pa le sk nu h) [(0, .ref (am 0)), (1, .int z)] 29 [.int (if ((sp_X7_save_s s sa) 25) = 1 then (1 : Int32) else 0)] by
    refine x_icmp_ne C 28 (by decide) dX7_cutThrottle_21 (fun h3 => ?_) (fun h3 => ?_)
    · refine x_iconst C 0 (by decide) dX7_cutThrottle_28 ?_
      refine x_st (st' := [.int (if ((sp_X7_save_s s sa) 25) = 1 then (1 : Int32) else 0)]) (by simp only [if_neg h3]) ?_
      exact K4
    · refine x_iconst C 1 (by decide) dX7_cutThrottle_24 ?_
      refine x_goto C 29 (by decide) dX7_cutThrottle_25 ?_
      refine x_st (st' := [.int (if ((sp_X7_save_s s sa) 25) = 1 then (1 : Int32) else 0)]) (by simp only [if_pos h3]) ?_
      exact K4
  exact x_zret C hr (xnz (bool_ite (Or.inr rfl) (Or.inl rfl))) (nle rfl) (nle rfl) dX7_cutThrottle_29 ⟨(by first | (simp only [sp_X7_cutThrottle]; done) | (simp only [sp_X7_cutThrottle]; rfl)), (by first | (simp only [sp_X7_cutThrottle_s]; done) | (simp only [sp_X7_cutThrottle_s]; rfl))⟩
def sp_X7_isCut (s : Nat → Int32) : Int32 := (if (s 25) = 1 then (1 : Int32) else 0)
theorem spb_X7_isCut (s : Nat → Int32)  : (sp_X7_isCut s) = 0 ∨ (sp_X7_isCut s) = 1 := by
  unfold sp_X7_isCut
  exact (bool_ite (Or.inr rfl) (Or.inl rfl))
set_option maxRecDepth 100000 in
theorem k_X7_isCut (l : Launch) (g : xGt) (am : Nat → Nat) (s fi tx dm : Nat → Int32) (th sa ln pa le sk nu : Int32) (h : Int64) (hs : sa = nI (Int32.toNatClampNeg sa)) (hs6 : Int32.toNatClampNeg sa ≤ 6) (hm : rOk s 0) : xM l g.1 (xT g) yX7_isCut (ws_ yX7_isCut cX7_isCut 1 (some .boolean)) (xRm 0 0 0 0) 0 0 [.ref (am 0)] (wMo g am s fi tx dm th sa ln pa le sk nu h) (fun r9 w9 => r9 = some (.int (sp_X7_isCut s)) ∧ w9 = (wMo g am s fi tx dm 0 sa ln pa le sk nu h)) (fun _ _ => False) := by
  refine x_start (own := RX7) (nm := "isCut") rfl rfl (by decide +kernel) rfl (nle rfl) (fun p e σ m args below meth c A C hno hr => ?_)
  refine x_lve (lv' := [(0, .ref (am 0))]) rfl ?_
  refine x_aload_n C 0 rfl rfl dX7_isCut_0 ?_
  refine x_iconst C 0 (by decide) dX7_isCut_1 ?_
  refine x_put C 0 7 0 tyX7 (wMo g am s fi tx dm 0 sa ln pa le sk nu h) rfl rfl rfl wLy_X7 tyX7_ok nmX7 wFL_X7_31 rfl (by decide) rfl rfl rfl rfl (nlt rfl) dX7_isCut_2 ?_
  refine x_aload_n C 0 rfl rfl dX7_isCut_5 ?_
  refine x_get C 0 7 1 rfl rfl wLy_X7 wFL_X7_7 rfl (by decide) rfl dX7_isCut_6 ?_
  refine x_bipush C 25 (by decide) dX7_isCut_9 ?_
  refine x_ialdN (f := s) C 1 0 25 rfl rfl rfl (by omega) (by decide) dX7_isCut_11 ?_
  refine x_iconst C 1 (by decide) dX7_isCut_12 ?_
  suffices K2 : xW p l e _ σ m args below meth c g.1 A 1 0 0 _ (wMo g am s fi tx dm 0 sa ln pa le sk nu h) [(0, .ref (am 0))] 21 [.int (if (s 25) = 1 then (1 : Int32) else 0)] by
    refine x_icmp_ne C 20 (by decide) dX7_isCut_13 (fun h1 => ?_) (fun h1 => ?_)
    · refine x_iconst C 0 (by decide) dX7_isCut_20 ?_
      refine x_st (st' := [.int (if (s 25) = 1 then (1 : Int32) else 0)]) (by simp only [if_neg h1]) ?_
      exact K2
    · refine x_iconst C 1 (by decide) dX7_isCut_16 ?_
      refine x_goto C 21 (by decide) dX7_isCut_17 ?_
      refine x_st (st' := [.int (if (s 25) = 1 then (1 : Int32) else 0)]) (by simp only [if_pos h1]) ?_
      exact K2
  exact x_zret C hr (xnz (bool_ite (Or.inr rfl) (Or.inl rfl))) (nle rfl) (nle rfl) dX7_isCut_21 ⟨(by first | (simp only [sp_X7_isCut]; done) | (simp only [sp_X7_isCut]; rfl)), rfl⟩
def sp_X7_command (s : Nat → Int32) (a : Int32) : Int32 := (if (sp_X7_in a 0 3) = 0 then 0 else (sp_X7_commandOf s 0 (Int32.toNatClampNeg a)))
def sp_X7_command_th (a : Int32) : Int32 := (if (sp_X7_in a 0 3) = 0 then 1 else 0)
set_option maxRecDepth 100000 in
theorem k_X7_command (l : Launch) (g : xGt) (am : Nat → Nat) (s fi tx dm : Nat → Int32) (th sa ln pa le sk nu : Int32) (h : Int64) (a : Int32) (hs : sa = nI (Int32.toNatClampNeg sa)) (hs6 : Int32.toNatClampNeg sa ≤ 6) (hm : rOk s 0) : xM l g.1 (xT g) yX7_command (ws_ yX7_command cX7_command 2 (some .int)) (xRm 2 42 0 0) 0 0 [.ref (am 0), .int a] (wMo g am s fi tx dm th sa ln pa le sk nu h) (fun r9 w9 => r9 = some (.int (sp_X7_command s a)) ∧ w9 = (wMo g am s fi tx dm (sp_X7_command_th a) sa ln pa le sk nu h)) (fun _ _ => False) := by
  refine x_start (own := RX7) (nm := "command") rfl rfl (by decide +kernel) rfl (nle rfl) (fun p e σ m args below meth c A C hno hr => ?_)
  refine x_lve (lv' := [(0, .ref (am 0)), (1, .int a)]) rfl ?_
  refine x_aload_n C 0 rfl rfl dX7_command_0 ?_
  refine x_iload_n C 1 rfl rfl dX7_command_1 ?_
  refine x_FS (w1 := ([] : va_W)) (wc := ([] : va_W)) (w2 := (wMo g am s fi tx dm th sa ln pa le sk nu h)) [.int a] [.ref (am 0)] (wMo g am s fi tx dm th sa ln pa le sk nu h) C (k_X7_isStick l g a) rfl yS_X7_isStick wML_X7_95 rfl rfl rfl (nle rfl) (nle rfl) (nle rfl) (nle rfl) (nle rfl) dX7_command_2 ?_
  refine x_if_eq C 12 (by decide) dX7_command_5 (fun h1 => ?_) (fun h1 => ?_)
  · refine x_iconst C 1 (by decide) dX7_command_12 ?_
    refine x_FV (w1 := ([] : va_W)) (wc := (wMo g am s fi tx dm th sa ln pa le sk nu h)) (w2 := ([] : va_W)) [.int 1] [] (wMo g am s fi tx dm 1 sa ln pa le sk nu h) C (k_X7_holds l g am s fi tx dm th sa ln pa le sk nu h 1) rfl yV_X7_holds wML_X7_99 rfl 0 rfl rfl rfl rfl (nle rfl) (nle rfl) (nle rfl) (nle rfl) (nle rfl) dX7_command_13 ?_
    refine x_st (st' := [.int 0]) (by rw [show (sp_X7_holds 1) = 0 from by decide]) ?_
    refine x_if_eq C 28 (by decide) dX7_command_16 (fun _ => ?_) (fun hz => absurd (by decide) hz)
    refine x_iconst C 0 (by decide) dX7_command_28 ?_
    exact x_iret C hr (nle rfl) (nle rfl) dX7_command_29 ⟨(by first | (simp only [sp_X7_command, if_pos h1]; done) | (simp only [sp_X7_command, if_pos h1]; rfl)), (by first | (simp only [sp_X7_command_th, if_pos h1]; done) | (simp only [sp_X7_command_th, if_pos h1]; rfl))⟩
  · refine x_iconst C 0 (by decide) dX7_command_8 ?_
    refine x_goto C 13 (by decide) dX7_command_9 ?_
    refine x_FV (w1 := ([] : va_W)) (wc := (wMo g am s fi tx dm th sa ln pa le sk nu h)) (w2 := ([] : va_W)) [.int 0] [] (wMo g am s fi tx dm 0 sa ln pa le sk nu h) C (k_X7_holds l g am s fi tx dm th sa ln pa le sk nu h 0) rfl yV_X7_holds wML_X7_99 rfl 0 rfl rfl rfl rfl (nle rfl) (nle rfl) (nle rfl) (nle rfl) (nle rfl) dX7_command_13 ?_
    refine x_st (st' := [.int 1]) (by rw [show (sp_X7_holds 0) = 1 from by decide]) ?_
    refine x_if_eq C 28 (by decide) dX7_command_16 (fun hz => absurd hz (by decide)) (fun _ => ?_)
    refine x_aload_n C 0 rfl rfl dX7_command_19 ?_
    refine x_iconst C 0 (by decide) dX7_command_20 ?_
    have h1l := in_le h1 (by decide) (show (3 : Int32) = nI 3 from rfl) (by decide)
    refine x_iload_n C 1 rfl rfl dX7_command_21 ?_
    refine x_FV (w1 := ([] : va_W)) (wc := (wMo g am s fi tx dm 0 sa ln pa le sk nu h)) (w2 := ([] : va_W)) [.int 0, .int a] [] (wMo g am s fi tx dm 0 sa ln pa le sk nu h) C (k_X7_commandOf l g am s fi tx dm 0 sa ln pa le sk nu h 0 0 rfl a (Int32.toNatClampNeg a) (in_nat h1 (by decide)) (by omega) (by omega) (hm).2.2.1) rfl yV_X7_commandOf wML_X7_43 rfl 0 rfl rfl rfl rfl (nle rfl) (nle rfl) (nle rfl) (nle rfl) (nle rfl) dX7_command_22 ?_
    refine x_goto C 29 (by decide) dX7_command_25 ?_
    exact x_iret C hr (nle rfl) (nle rfl) dX7_command_29 ⟨(by first | (simp only [sp_X7_command, if_neg h1]; done) | (simp only [sp_X7_command, if_neg h1]; rfl)), (by first | (simp only [sp_X7_command_th, if_neg h1]; done) | (simp only [sp_X7_command_th, if_neg h1]; rfl))⟩
def sp_X7_addMix (s : Nat → Int32) (sa : Int32) (a1 : Int32) (a2 : Int32) (a3 : Int32) (a4 : Int32) (a5 : Int32) : Int32 := (if (sp_X7_in a1 0 9) = 0 then 0 else (if a2 ≤ (a1 - 4) then 0 else (if (sp_X7_in a3 (-150) 150) = 0 then 0 else (if a3 = 0 then 0 else (if (sp_X7_in a4 (-50) 50) = 0 then 0 else (if (sp_X7_in a5 0 2) = 0 then 0 else (if (sp_X7_in a2 0 5) = 0 then 0 else (if (s 26) = 12 then 0 else (((sp_X7_adds_s (sp_X7_save_s s sa) a1 a2 a3 a4 a5) 26) - 1)))))))))
def sp_X7_addMix_s (s : Nat → Int32) (sa : Int32) (a1 : Int32) (a2 : Int32) (a3 : Int32) (a4 : Int32) (a5 : Int32) : Nat → Int32 := (if (sp_X7_in a1 0 9) = 0 then s else (if a2 ≤ (a1 - 4) then s else (if (sp_X7_in a3 (-150) 150) = 0 then s else (if a3 = 0 then s else (if (sp_X7_in a4 (-50) 50) = 0 then s else (if (sp_X7_in a5 0 2) = 0 then s else (if (sp_X7_in a2 0 5) = 0 then s else (if (s 26) = 12 then s else (sp_X7_adds_s (sp_X7_save_s s sa) a1 a2 a3 a4 a5)))))))))
def sp_X7_addMix_th (s : Nat → Int32) (a1 : Int32) (a2 : Int32) (a3 : Int32) (a4 : Int32) (a5 : Int32) : Int32 := (if (sp_X7_in a1 0 9) = 0 then (if (sp_X7_in a2 0 5) = 0 then 1 else 2) else (if a2 ≤ (a1 - 4) then (if (sp_X7_in a2 0 5) = 0 then 1 else 2) else (if (sp_X7_in a3 (-150) 150) = 0 then (if (sp_X7_in a2 0 5) = 0 then 1 else 2) else (if a3 = 0 then (if (sp_X7_in a2 0 5) = 0 then 1 else 2) else (if (sp_X7_in a4 (-50) 50) = 0 then (if (sp_X7_in a2 0 5) = 0 then 1 else 2) else (if (sp_X7_in a5 0 2) = 0 then (if (sp_X7_in a2 0 5) = 0 then 1 else 2) else (if (sp_X7_in a2 0 5) = 0 then 1 else (if (s 26) = 12 then 3 else 0))))))))
def sp_X7_addMix_sa (s : Nat → Int32) (sa : Int32) (a1 : Int32) (a2 : Int32) (a3 : Int32) (a4 : Int32) (a5 : Int32) : Int32 := (if (sp_X7_in a1 0 9) = 0 then sa else (if a2 ≤ (a1 - 4) then sa else (if (sp_X7_in a3 (-150) 150) = 0 then sa else (if a3 = 0 then sa else (if (sp_X7_in a4 (-50) 50) = 0 then sa else (if (sp_X7_in a5 0 2) = 0 then sa else (if (sp_X7_in a2 0 5) = 0 then sa else (if (s 26) = 12 then sa else (sp_X7_save_sa sa)))))))))
set_option maxRecDepth 100000 in
theorem k_X7_addMix (l : Launch) (g : xGt) (am : Nat → Nat) (s fi tx dm : Nat → Int32) (th sa ln pa le sk nu : Int32) (h : Int64) (a1 : Int32) (a2 : Int32) (a3 : Int32) (a4 : Int32) (a5 : Int32) (hs : sa = nI (Int32.toNatClampNeg sa)) (hs6 : Int32.toNatClampNeg sa ≤ 6) (hm : rOk s 0) : xM l g.1 (xT g) yX7_addMix (ws_ yX7_addMix cX7_addMix 7 (some .int)) (xRm 2 44 0 0) 0 0 [.ref (am 0), .int a1, .int a2, .int a3, .int a4, .int a5] (wMo g am s fi tx dm th sa ln pa le sk nu h) (fun r9 w9 => r9 = some (.int (sp_X7_addMix s sa a1 a2 a3 a4 a5)) ∧ w9 = (wMo g am (sp_X7_addMix_s s sa a1 a2 a3 a4 a5) fi tx dm (sp_X7_addMix_th s a1 a2 a3 a4 a5) (sp_X7_addMix_sa s sa a1 a2 a3 a4 a5) ln pa le sk nu h)) (fun _ _ => False) := by
  refine x_start (own := RX7) (nm := "addMix") rfl rfl (by decide +kernel) rfl (nle rfl) (fun p e σ m args below meth c A C hno hr => ?_)
  refine x_lve (lv' := [(0, .ref (am 0)), (1, .int a1), (2, .int a2), (3, .int a3), (4, .int a4), (5, .int a5)]) rfl ?_
  refine x_iload_n C 1 rfl rfl dX7_addMix_0 ?_
  refine x_iconst C 0 (by decide) dX7_addMix_1 ?_
  refine x_bipush C 9 (by decide) dX7_addMix_2 ?_
  refine x_FS (w1 := ([] : va_W)) (wc := ([] : va_W)) (w2 := (wMo g am s fi tx dm th sa ln pa le sk nu h)) [.int a1, .int 0, .int 9] [] (wMo g am s fi tx dm th sa ln pa le sk nu h) C (k_X7_in l g a1 0 9) rfl yS_X7_in wML_X7_35 rfl rfl rfl (nle rfl) (nle rfl) (nle rfl) (nle rfl) (nle rfl) dX7_addMix_4 ?_
  refine x_if_eq C 60 (by decide) dX7_addMix_7 (fun h1 => ?_) (fun h1 => ?_)
  · refine x_iconst C 0 (by decide) dX7_addMix_60 ?_
    refine x_istore C [(6, .int 0), (0, .ref (am 0)), (1, .int a1), (2, .int a2), (3, .int a3), (4, .int a4), (5, .int a5)] rfl (by decide) dX7_addMix_61 ?_
    refine x_aload_n C 1 rfl rfl dX7_addMix_63 ?_
    refine x_iload_n C 3 rfl rfl dX7_addMix_64 ?_
    refine x_FS (w1 := ([] : va_W)) (wc := ([] : va_W)) (w2 := (wMo g am s fi tx dm th sa ln pa le sk nu h)) [.int a2] [.ref (am 0)] (wMo g am s fi tx dm th sa ln pa le sk nu h) C (k_X7_isServo l g a2) rfl yS_X7_isServo wML_X7_105 rfl rfl rfl (nle rfl) (nle rfl) (nle rfl) (nle rfl) (nle rfl) dX7_addMix_65 ?_
    refine x_if_ne C 75 (by decide) dX7_addMix_68 (fun h2 => ?_) (fun h2 => ?_)
    · refine x_iload C 0 rfl dX7_addMix_75 ?_
      refine x_if_ne C 84 (by decide) dX7_addMix_77 (fun hz => absurd (by decide) hz) (fun _ => ?_)
      refine x_iconst C 2 (by decide) dX7_addMix_80 ?_
      refine x_goto C 101 (by decide) dX7_addMix_81 ?_
      refine x_FV (w1 := ([] : va_W)) (wc := (wMo g am s fi tx dm th sa ln pa le sk nu h)) (w2 := ([] : va_W)) [.int 2] [] (wMo g am s fi tx dm 2 sa ln pa le sk nu h) C (k_X7_holds l g am s fi tx dm th sa ln pa le sk nu h 2) rfl yV_X7_holds wML_X7_99 rfl 0 rfl rfl rfl rfl (nle rfl) (nle rfl) (nle rfl) (nle rfl) (nle rfl) dX7_addMix_101 ?_
      refine x_st (st' := [.int 0]) (by rw [show (sp_X7_holds 2) = 0 from by decide]) ?_
      refine x_if_ne C 109 (by decide) dX7_addMix_104 (fun hz => absurd (by decide) hz) (fun _ => ?_)
      refine x_iconst C 0 (by decide) dX7_addMix_107 ?_
      exact x_iret C hr (nle rfl) (nle rfl) dX7_addMix_108 ⟨(by first | (simp only [sp_X7_addMix, if_pos h1, if_neg h2]; done) | (simp only [sp_X7_addMix, if_pos h1, if_neg h2]; rfl)), (by first | (simp only [sp_X7_addMix_s, sp_X7_addMix_th, sp_X7_addMix_sa, if_pos h1, if_neg h2]; done) | (simp only [sp_X7_addMix_s, sp_X7_addMix_th, sp_X7_addMix_sa, if_pos h1, if_neg h2]; rfl))⟩
    · refine x_iconst C 1 (by decide) dX7_addMix_71 ?_
      refine x_goto C 101 (by decide) dX7_addMix_72 ?_
      refine x_FV (w1 := ([] : va_W)) (wc := (wMo g am s fi tx dm th sa ln pa le sk nu h)) (w2 := ([] : va_W)) [.int 1] [] (wMo g am s fi tx dm 1 sa ln pa le sk nu h) C (k_X7_holds l g am s fi tx dm th sa ln pa le sk nu h 1) rfl yV_X7_holds wML_X7_99 rfl 0 rfl rfl rfl rfl (nle rfl) (nle rfl) (nle rfl) (nle rfl) (nle rfl) dX7_addMix_101 ?_
      refine x_st (st' := [.int 0]) (by rw [show (sp_X7_holds 1) = 0 from by decide]) ?_
      refine x_if_ne C 109 (by decide) dX7_addMix_104 (fun hz => absurd (by decide) hz) (fun _ => ?_)
      refine x_iconst C 0 (by decide) dX7_addMix_107 ?_
      exact x_iret C hr (nle rfl) (nle rfl) dX7_addMix_108 ⟨(by first | (simp only [sp_X7_addMix, if_pos h1, if_pos h2]; done) | (simp only [sp_X7_addMix, if_pos h1, if_pos h2]; rfl)), (by first | (simp only [sp_X7_addMix_s, sp_X7_addMix_th, sp_X7_addMix_sa, if_pos h1, if_pos h2]; done) | (simp only [sp_X7_addMix_s, sp_X7_addMix_th, sp_X7_addMix_sa, if_pos h1, if_pos h2]; rfl))⟩
  · have h1l := in_le h1 (by decide) (show (9 : Int32) = nI 9 from rfl) (by decide)
    refine x_iload_n C 1 rfl rfl dX7_addMix_10 ?_
    refine x_iconst C 4 (by decide) dX7_addMix_11 ?_
    refine x_isub C dX7_addMix_12 ?_
    refine x_iload_n C 2 rfl rfl dX7_addMix_13 ?_
    refine x_icmp_ge C 60 (by decide) dX7_addMix_14 (fun h3 => ?_) (fun h3 => ?_)
    · refine x_iconst C 0 (by decide) dX7_addMix_60 ?_
      refine x_istore C [(6, .int 0), (0, .ref (am 0)), (1, .int a1), (2, .int a2), (3, .int a3), (4, .int a4), (5, .int a5)] rfl (by decide) dX7_addMix_61 ?_
      refine x_aload_n C 1 rfl rfl dX7_addMix_63 ?_
      refine x_iload_n C 3 rfl rfl dX7_addMix_64 ?_
      refine x_FS (w1 := ([] : va_W)) (wc := ([] : va_W)) (w2 := (wMo g am s fi tx dm th sa ln pa le sk nu h)) [.int a2] [.ref (am 0)] (wMo g am s fi tx dm th sa ln pa le sk nu h) C (k_X7_isServo l g a2) rfl yS_X7_isServo wML_X7_105 rfl rfl rfl (nle rfl) (nle rfl) (nle rfl) (nle rfl) (nle rfl) dX7_addMix_65 ?_
      refine x_if_ne C 75 (by decide) dX7_addMix_68 (fun h4 => ?_) (fun h4 => ?_)
      · refine x_iload C 0 rfl dX7_addMix_75 ?_
        refine x_if_ne C 84 (by decide) dX7_addMix_77 (fun hz => absurd (by decide) hz) (fun _ => ?_)
        refine x_iconst C 2 (by decide) dX7_addMix_80 ?_
        refine x_goto C 101 (by decide) dX7_addMix_81 ?_
        refine x_FV (w1 := ([] : va_W)) (wc := (wMo g am s fi tx dm th sa ln pa le sk nu h)) (w2 := ([] : va_W)) [.int 2] [] (wMo g am s fi tx dm 2 sa ln pa le sk nu h) C (k_X7_holds l g am s fi tx dm th sa ln pa le sk nu h 2) rfl yV_X7_holds wML_X7_99 rfl 0 rfl rfl rfl rfl (nle rfl) (nle rfl) (nle rfl) (nle rfl) (nle rfl) dX7_addMix_101 ?_
        refine x_st (st' := [.int 0]) (by rw [show (sp_X7_holds 2) = 0 from by decide]) ?_
        refine x_if_ne C 109 (by decide) dX7_addMix_104 (fun hz => absurd (by decide) hz) (fun _ => ?_)
        refine x_iconst C 0 (by decide) dX7_addMix_107 ?_
        exact x_iret C hr (nle rfl) (nle rfl) dX7_addMix_108 ⟨(by first | (simp only [sp_X7_addMix, if_neg h1, if_pos h3, if_neg h4]; done) | (simp only [sp_X7_addMix, if_neg h1, if_pos h3, if_neg h4]; rfl)), (by first | (simp only [sp_X7_addMix_s, sp_X7_addMix_th, sp_X7_addMix_sa, if_neg h1, if_pos h3, if_neg h4]; done) | (simp only [sp_X7_addMix_s, sp_X7_addMix_th, sp_X7_addMix_sa, if_neg h1, if_pos h3, if_neg h4]; rfl))⟩
      · refine x_iconst C 1 (by decide) dX7_addMix_71 ?_
        refine x_goto C 101 (by decide) dX7_addMix_72 ?_
        refine x_FV (w1 := ([] : va_W)) (wc := (wMo g am s fi tx dm th sa ln pa le sk nu h)) (w2 := ([] : va_W)) [.int 1] [] (wMo g am s fi tx dm 1 sa ln pa le sk nu h) C (k_X7_holds l g am s fi tx dm th sa ln pa le sk nu h 1) rfl yV_X7_holds wML_X7_99 rfl 0 rfl rfl rfl rfl (nle rfl) (nle rfl) (nle rfl) (nle rfl) (nle rfl) dX7_addMix_101 ?_
        refine x_st (st' := [.int 0]) (by rw [show (sp_X7_holds 1) = 0 from by decide]) ?_
        refine x_if_ne C 109 (by decide) dX7_addMix_104 (fun hz => absurd (by decide) hz) (fun _ => ?_)
        refine x_iconst C 0 (by decide) dX7_addMix_107 ?_
        exact x_iret C hr (nle rfl) (nle rfl) dX7_addMix_108 ⟨(by first | (simp only [sp_X7_addMix, if_neg h1, if_pos h3, if_pos h4]; done) | (simp only [sp_X7_addMix, if_neg h1, if_pos h3, if_pos h4]; rfl)), (by first | (simp only [sp_X7_addMix_s, sp_X7_addMix_th, sp_X7_addMix_sa, if_neg h1, if_pos h3, if_pos h4]; done) | (simp only [sp_X7_addMix_s, sp_X7_addMix_th, sp_X7_addMix_sa, if_neg h1, if_pos h3, if_pos h4]; rfl))⟩
    · refine x_iload_n C 3 rfl rfl dX7_addMix_17 ?_
      refine x_sipush C (-150) (by decide) dX7_addMix_18 ?_
      refine x_sipush C 150 (by decide) dX7_addMix_21 ?_
      refine x_FS (w1 := ([] : va_W)) (wc := ([] : va_W)) (w2 := (wMo g am s fi tx dm th sa ln pa le sk nu h)) [.int a3, .int (-150), .int 150] [] (wMo g am s fi tx dm th sa ln pa le sk nu h) C (k_X7_in l g a3 (-150) 150) rfl yS_X7_in wML_X7_35 rfl rfl rfl (nle rfl) (nle rfl) (nle rfl) (nle rfl) (nle rfl) dX7_addMix_24 ?_
      refine x_if_eq C 60 (by decide) dX7_addMix_27 (fun h5 => ?_) (fun h5 => ?_)
      · refine x_iconst C 0 (by decide) dX7_addMix_60 ?_
        refine x_istore C [(6, .int 0), (0, .ref (am 0)), (1, .int a1), (2, .int a2), (3, .int a3), (4, .int a4), (5, .int a5)] rfl (by decide) dX7_addMix_61 ?_
        refine x_aload_n C 1 rfl rfl dX7_addMix_63 ?_
        refine x_iload_n C 3 rfl rfl dX7_addMix_64 ?_
        refine x_FS (w1 := ([] : va_W)) (wc := ([] : va_W)) (w2 := (wMo g am s fi tx dm th sa ln pa le sk nu h)) [.int a2] [.ref (am 0)] (wMo g am s fi tx dm th sa ln pa le sk nu h) C (k_X7_isServo l g a2) rfl yS_X7_isServo wML_X7_105 rfl rfl rfl (nle rfl) (nle rfl) (nle rfl) (nle rfl) (nle rfl) dX7_addMix_65 ?_
        refine x_if_ne C 75 (by decide) dX7_addMix_68 (fun h6 => ?_) (fun h6 => ?_)
        · refine x_iload C 0 rfl dX7_addMix_75 ?_
          refine x_if_ne C 84 (by decide) dX7_addMix_77 (fun hz => absurd (by decide) hz) (fun _ => ?_)
          refine x_iconst C 2 (by decide) dX7_addMix_80 ?_
          refine x_goto C 101 (by decide) dX7_addMix_81 ?_
          refine x_FV (w1 := ([] : va_W)) (wc := (wMo g am s fi tx dm th sa ln pa le sk nu h)) (w2 := ([] : va_W)) [.int 2] [] (wMo g am s fi tx dm 2 sa ln pa le sk nu h) C (k_X7_holds l g am s fi tx dm th sa ln pa le sk nu h 2) rfl yV_X7_holds wML_X7_99 rfl 0 rfl rfl rfl rfl (nle rfl) (nle rfl) (nle rfl) (nle rfl) (nle rfl) dX7_addMix_101 ?_
          refine x_st (st' := [.int 0]) (by rw [show (sp_X7_holds 2) = 0 from by decide]) ?_
          refine x_if_ne C 109 (by decide) dX7_addMix_104 (fun hz => absurd (by decide) hz) (fun _ => ?_)
          refine x_iconst C 0 (by decide) dX7_addMix_107 ?_
          exact x_iret C hr (nle rfl) (nle rfl) dX7_addMix_108 ⟨(by first | (simp only [sp_X7_addMix, if_neg h1, if_neg h3, if_pos h5, if_neg h6]; done) | (simp only [sp_X7_addMix, if_neg h1, if_neg h3, if_pos h5, if_neg h6]; rfl)), (by first | (simp only [sp_X7_addMix_s, sp_X7_addMix_th, sp_X7_addMix_sa, if_neg h1, if_neg h3, if_pos h5, if_neg h6]; done) | (simp only [sp_X7_addMix_s, sp_X7_addMix_th, sp_X7_addMix_sa, if_neg h1, if_neg h3, if_pos h5, if_neg h6]; rfl))⟩
        · refine x_iconst C 1 (by decide) dX7_addMix_71 ?_
          refine x_goto C 101 (by decide) dX7_addMix_72 ?_
          refine x_FV (w1 := ([] : va_W)) (wc := (wMo g am s fi tx dm th sa ln pa le sk nu h)) (w2 := ([] : va_W)) [.int 1] [] (wMo g am s fi tx dm 1 sa ln pa le sk nu h) C (k_X7_holds l g am s fi tx dm th sa ln pa le sk nu h 1) rfl yV_X7_holds wML_X7_99 rfl 0 rfl rfl rfl rfl (nle rfl) (nle rfl) (nle rfl) (nle rfl) (nle rfl) dX7_addMix_101 ?_
          refine x_st (st' := [.int 0]) (by rw [show (sp_X7_holds 1) = 0 from by decide]) ?_
          refine x_if_ne C 109 (by decide) dX7_addMix_104 (fun hz => absurd (by decide) hz) (fun _ => ?_)
          refine x_iconst C 0 (by decide) dX7_addMix_107 ?_
          exact x_iret C hr (nle rfl) (nle rfl) dX7_addMix_108 ⟨(by first | (simp only [sp_X7_addMix, if_neg h1, if_neg h3, if_pos h5, if_pos h6]; done) | (simp only [sp_X7_addMix, if_neg h1, if_neg h3, if_pos h5, if_pos h6]; rfl)), (by first | (simp only [sp_X7_addMix_s, sp_X7_addMix_th, sp_X7_addMix_sa, if_neg h1, if_neg h3, if_pos h5, if_pos h6]; done) | (simp only [sp_X7_addMix_s, sp_X7_addMix_th, sp_X7_addMix_sa, if_neg h1, if_neg h3, if_pos h5, if_pos h6]; rfl))⟩
      · refine x_iload_n C 3 rfl rfl dX7_addMix_30 ?_
        refine x_if_eq C 60 (by decide) dX7_addMix_31 (fun h7 => ?_) (fun h7 => ?_)
        · refine x_iconst C 0 (by decide) dX7_addMix_60 ?_
          refine x_istore C [(6, .int 0), (0, .ref (am 0)), (1, .int a1), (2, .int a2), (3, .int a3), (4, .int a4), (5, .int a5)] rfl (by decide) dX7_addMix_61 ?_
          refine x_aload_n C 1 rfl rfl dX7_addMix_63 ?_
          refine x_iload_n C 3 rfl rfl dX7_addMix_64 ?_
          refine x_FS (w1 := ([] : va_W)) (wc := ([] : va_W)) (w2 := (wMo g am s fi tx dm th sa ln pa le sk nu h)) [.int a2] [.ref (am 0)] (wMo g am s fi tx dm th sa ln pa le sk nu h) C (k_X7_isServo l g a2) rfl yS_X7_isServo wML_X7_105 rfl rfl rfl (nle rfl) (nle rfl) (nle rfl) (nle rfl) (nle rfl) dX7_addMix_65 ?_
          refine x_if_ne C 75 (by decide) dX7_addMix_68 (fun h8 => ?_) (fun h8 => ?_)
          · refine x_iload C 0 rfl dX7_addMix_75 ?_
            refine x_if_ne C 84 (by decide) dX7_addMix_77 (fun hz => absurd (by decide) hz) (fun _ => ?_)
            refine x_iconst C 2 (by decide) dX7_addMix_80 ?_
            refine x_goto C 101 (by decide) dX7_addMix_81 ?_
            refine x_FV (w1 := ([] : va_W)) (wc := (wMo g am s fi tx dm th sa ln pa le sk nu h)) (w2 := ([] : va_W)) [.int 2] [] (wMo g am s fi tx dm 2 sa ln pa le sk nu h) C (k_X7_holds l g am s fi tx dm th sa ln pa le sk nu h 2) rfl yV_X7_holds wML_X7_99 rfl 0 rfl rfl rfl rfl (nle rfl) (nle rfl) (nle rfl) (nle rfl) (nle rfl) dX7_addMix_101 ?_
            refine x_st (st' := [.int 0]) (by rw [show (sp_X7_holds 2) = 0 from by decide]) ?_
            refine x_if_ne C 109 (by decide) dX7_addMix_104 (fun hz => absurd (by decide) hz) (fun _ => ?_)
            refine x_iconst C 0 (by decide) dX7_addMix_107 ?_
            exact x_iret C hr (nle rfl) (nle rfl) dX7_addMix_108 ⟨(by first | (simp only [sp_X7_addMix, if_neg h1, if_neg h3, if_neg h5, if_pos h7, if_neg h8]; done) | (simp only [sp_X7_addMix, if_neg h1, if_neg h3, if_neg h5, if_pos h7, if_neg h8]; rfl)), (by first | (simp only [sp_X7_addMix_s, sp_X7_addMix_th, sp_X7_addMix_sa, if_neg h1, if_neg h3, if_neg h5, if_pos h7, if_neg h8]; done) | (simp only [sp_X7_addMix_s, sp_X7_addMix_th, sp_X7_addMix_sa, if_neg h1, if_neg h3, if_neg h5, if_pos h7, if_neg h8]; rfl))⟩
          · refine x_iconst C 1 (by decide) dX7_addMix_71 ?_
            refine x_goto C 101 (by decide) dX7_addMix_72 ?_
            refine x_FV (w1 := ([] : va_W)) (wc := (wMo g am s fi tx dm th sa ln pa le sk nu h)) (w2 := ([] : va_W)) [.int 1] [] (wMo g am s fi tx dm 1 sa ln pa le sk nu h) C (k_X7_holds l g am s fi tx dm th sa ln pa le sk nu h 1) rfl yV_X7_holds wML_X7_99 rfl 0 rfl rfl rfl rfl (nle rfl) (nle rfl) (nle rfl) (nle rfl) (nle rfl) dX7_addMix_101 ?_
            refine x_st (st' := [.int 0]) (by rw [show (sp_X7_holds 1) = 0 from by decide]) ?_
            refine x_if_ne C 109 (by decide) dX7_addMix_104 (fun hz => absurd (by decide) hz) (fun _ => ?_)
            refine x_iconst C 0 (by decide) dX7_addMix_107 ?_
            exact x_iret C hr (nle rfl) (nle rfl) dX7_addMix_108 ⟨(by first | (simp only [sp_X7_addMix, if_neg h1, if_neg h3, if_neg h5, if_pos h7, if_pos h8]; done) | (simp only [sp_X7_addMix, if_neg h1, if_neg h3, if_neg h5, if_pos h7, if_pos h8]; rfl)), (by first | (simp only [sp_X7_addMix_s, sp_X7_addMix_th, sp_X7_addMix_sa, if_neg h1, if_neg h3, if_neg h5, if_pos h7, if_pos h8]; done) | (simp only [sp_X7_addMix_s, sp_X7_addMix_th, sp_X7_addMix_sa, if_neg h1, if_neg h3, if_neg h5, if_pos h7, if_pos h8]; rfl))⟩
        · refine x_iload C 4 rfl dX7_addMix_34 ?_
          refine x_bipush C (-50) (by decide) dX7_addMix_36 ?_
          refine x_bipush C 50 (by decide) dX7_addMix_38 ?_
          refine x_FS (w1 := ([] : va_W)) (wc := ([] : va_W)) (w2 := (wMo g am s fi tx dm th sa ln pa le sk nu h)) [.int a4, .int (-50), .int 50] [] (wMo g am s fi tx dm th sa ln pa le sk nu h) C (k_X7_in l g a4 (-50) 50) rfl yS_X7_in wML_X7_35 rfl rfl rfl (nle rfl) (nle rfl) (nle rfl) (nle rfl) (nle rfl) dX7_addMix_40 ?_
          refine x_if_eq C 60 (by decide) dX7_addMix_43 (fun h9 => ?_) (fun h9 => ?_)
          · refine x_iconst C 0 (by decide) dX7_addMix_60 ?_
            refine x_istore C [(6, .int 0), (0, .ref (am 0)), (1, .int a1), (2, .int a2), (3, .int a3), (4, .int a4), (5, .int a5)] rfl (by decide) dX7_addMix_61 ?_
            refine x_aload_n C 1 rfl rfl dX7_addMix_63 ?_
            refine x_iload_n C 3 rfl rfl dX7_addMix_64 ?_
            refine x_FS (w1 := ([] : va_W)) (wc := ([] : va_W)) (w2 := (wMo g am s fi tx dm th sa ln pa le sk nu h)) [.int a2] [.ref (am 0)] (wMo g am s fi tx dm th sa ln pa le sk nu h) C (k_X7_isServo l g a2) rfl yS_X7_isServo wML_X7_105 rfl rfl rfl (nle rfl) (nle rfl) (nle rfl) (nle rfl) (nle rfl) dX7_addMix_65 ?_
            refine x_if_ne C 75 (by decide) dX7_addMix_68 (fun h10 => ?_) (fun h10 => ?_)
            · refine x_iload C 0 rfl dX7_addMix_75 ?_
              refine x_if_ne C 84 (by decide) dX7_addMix_77 (fun hz => absurd (by decide) hz) (fun _ => ?_)
              refine x_iconst C 2 (by decide) dX7_addMix_80 ?_
              refine x_goto C 101 (by decide) dX7_addMix_81 ?_
              refine x_FV (w1 := ([] : va_W)) (wc := (wMo g am s fi tx dm th sa ln pa le sk nu h)) (w2 := ([] : va_W)) [.int 2] [] (wMo g am s fi tx dm 2 sa ln pa le sk nu h) C (k_X7_holds l g am s fi tx dm th sa ln pa le sk nu h 2) rfl yV_X7_holds wML_X7_99 rfl 0 rfl rfl rfl rfl (nle rfl) (nle rfl) (nle rfl) (nle rfl) (nle rfl) dX7_addMix_101 ?_
              refine x_st (st' := [.int 0]) (by rw [show (sp_X7_holds 2) = 0 from by decide]) ?_
              refine x_if_ne C 109 (by decide) dX7_addMix_104 (fun hz => absurd (by decide) hz) (fun _ => ?_)
              refine x_iconst C 0 (by decide) dX7_addMix_107 ?_
              exact x_iret C hr (nle rfl) (nle rfl) dX7_addMix_108 ⟨(by first | (simp only [sp_X7_addMix, if_neg h1, if_neg h3, if_neg h5, if_neg h7, if_pos h9, if_neg h10]; done) | (simp only [sp_X7_addMix, if_neg h1, if_neg h3, if_neg h5, if_neg h7, if_pos h9, if_neg h10]; rfl)), (by first | (simp only [sp_X7_addMix_s, sp_X7_addMix_th, sp_X7_addMix_sa, if_neg h1, if_neg h3, if_neg h5, if_neg h7, if_pos h9, if_neg h10]; done) | (simp only [sp_X7_addMix_s, sp_X7_addMix_th, sp_X7_addMix_sa, if_neg h1, if_neg h3, if_neg h5, if_neg h7, if_pos h9, if_neg h10]; rfl))⟩
            · refine x_iconst C 1 (by decide) dX7_addMix_71 ?_
              refine x_goto C 101 (by decide) dX7_addMix_72 ?_
              refine x_FV (w1 := ([] : va_W)) (wc := (wMo g am s fi tx dm th sa ln pa le sk nu h)) (w2 := ([] : va_W)) [.int 1] [] (wMo g am s fi tx dm 1 sa ln pa le sk nu h) C (k_X7_holds l g am s fi tx dm th sa ln pa le sk nu h 1) rfl yV_X7_holds wML_X7_99 rfl 0 rfl rfl rfl rfl (nle rfl) (nle rfl) (nle rfl) (nle rfl) (nle rfl) dX7_addMix_101 ?_
              refine x_st (st' := [.int 0]) (by rw [show (sp_X7_holds 1) = 0 from by decide]) ?_
              refine x_if_ne C 109 (by decide) dX7_addMix_104 (fun hz => absurd (by decide) hz) (fun _ => ?_)
              refine x_iconst C 0 (by decide) dX7_addMix_107 ?_
              exact x_iret C hr (nle rfl) (nle rfl) dX7_addMix_108 ⟨(by first | (simp only [sp_X7_addMix, if_neg h1, if_neg h3, if_neg h5, if_neg h7, if_pos h9, if_pos h10]; done) | (simp only [sp_X7_addMix, if_neg h1, if_neg h3, if_neg h5, if_neg h7, if_pos h9, if_pos h10]; rfl)), (by first | (simp only [sp_X7_addMix_s, sp_X7_addMix_th, sp_X7_addMix_sa, if_neg h1, if_neg h3, if_neg h5, if_neg h7, if_pos h9, if_pos h10]; done) | (simp only [sp_X7_addMix_s, sp_X7_addMix_th, sp_X7_addMix_sa, if_neg h1, if_neg h3, if_neg h5, if_neg h7, if_pos h9, if_pos h10]; rfl))⟩
          · refine x_iload C 5 rfl dX7_addMix_46 ?_
            refine x_iconst C 0 (by decide) dX7_addMix_48 ?_
            refine x_iconst C 2 (by decide) dX7_addMix_49 ?_
            refine x_FS (w1 := ([] : va_W)) (wc := ([] : va_W)) (w2 := (wMo g am s fi tx dm th sa ln pa le sk nu h)) [.int a5, .int 0, .int 2] [] (wMo g am s fi tx dm th sa ln pa le sk nu h) C (k_X7_in l g a5 0 2) rfl yS_X7_in wML_X7_35 rfl rfl rfl (nle rfl) (nle rfl) (nle rfl) (nle rfl) (nle rfl) dX7_addMix_50 ?_
            refine x_if_eq C 60 (by decide) dX7_addMix_53 (fun h11 => ?_) (fun h11 => ?_)
            · refine x_iconst C 0 (by decide) dX7_addMix_60 ?_
              refine x_istore C [(6, .int 0), (0, .ref (am 0)), (1, .int a1), (2, .int a2), (3, .int a3), (4, .int a4), (5, .int a5)] rfl (by decide) dX7_addMix_61 ?_
              refine x_aload_n C 1 rfl rfl dX7_addMix_63 ?_
              refine x_iload_n C 3 rfl rfl dX7_addMix_64 ?_
              refine x_FS (w1 := ([] : va_W)) (wc := ([] : va_W)) (w2 := (wMo g am s fi tx dm th sa ln pa le sk nu h)) [.int a2] [.ref (am 0)] (wMo g am s fi tx dm th sa ln pa le sk nu h) C (k_X7_isServo l g a2) rfl yS_X7_isServo wML_X7_105 rfl rfl rfl (nle rfl) (nle rfl) (nle rfl) (nle rfl) (nle rfl) dX7_addMix_65 ?_
              refine x_if_ne C 75 (by decide) dX7_addMix_68 (fun h12 => ?_) (fun h12 => ?_)
              · refine x_iload C 0 rfl dX7_addMix_75 ?_
                refine x_if_ne C 84 (by decide) dX7_addMix_77 (fun hz => absurd (by decide) hz) (fun _ => ?_)
                refine x_iconst C 2 (by decide) dX7_addMix_80 ?_
                refine x_goto C 101 (by decide) dX7_addMix_81 ?_
                refine x_FV (w1 := ([] : va_W)) (wc := (wMo g am s fi tx dm th sa ln pa le sk nu h)) (w2 := ([] : va_W)) [.int 2] [] (wMo g am s fi tx dm 2 sa ln pa le sk nu h) C (k_X7_holds l g am s fi tx dm th sa ln pa le sk nu h 2) rfl yV_X7_holds wML_X7_99 rfl 0 rfl rfl rfl rfl (nle rfl) (nle rfl) (nle rfl) (nle rfl) (nle rfl) dX7_addMix_101 ?_
                refine x_st (st' := [.int 0]) (by rw [show (sp_X7_holds 2) = 0 from by decide]) ?_
                refine x_if_ne C 109 (by decide) dX7_addMix_104 (fun hz => absurd (by decide) hz) (fun _ => ?_)
                refine x_iconst C 0 (by decide) dX7_addMix_107 ?_
                exact x_iret C hr (nle rfl) (nle rfl) dX7_addMix_108 ⟨(by first | (simp only [sp_X7_addMix, if_neg h1, if_neg h3, if_neg h5, if_neg h7, if_neg h9, if_pos h11, if_neg h12]; done) | (simp only [sp_X7_addMix, if_neg h1, if_neg h3, if_neg h5, if_neg h7, if_neg h9, if_pos h11, if_neg h12]; rfl)), (by first | (simp only [sp_X7_addMix_s, sp_X7_addMix_th, sp_X7_addMix_sa, if_neg h1, if_neg h3, if_neg h5, if_neg h7, if_neg h9, if_pos h11, if_neg h12]; done) | (simp only [sp_X7_addMix_s, sp_X7_addMix_th, sp_X7_addMix_sa, if_neg h1, if_neg h3, if_neg h5, if_neg h7, if_neg h9, if_pos h11, if_neg h12]; rfl))⟩
              · refine x_iconst C 1 (by decide) dX7_addMix_71 ?_
                refine x_goto C 101 (by decide) dX7_addMix_72 ?_
                refine x_FV (w1 := ([] : va_W)) (wc := (wMo g am s fi tx dm th sa ln pa le sk nu h)) (w2 := ([] : va_W)) [.int 1] [] (wMo g am s fi tx dm 1 sa ln pa le sk nu h) C (k_X7_holds l g am s fi tx dm th sa ln pa le sk nu h 1) rfl yV_X7_holds wML_X7_99 rfl 0 rfl rfl rfl rfl (nle rfl) (nle rfl) (nle rfl) (nle rfl) (nle rfl) dX7_addMix_101 ?_
                refine x_st (st' := [.int 0]) (by rw [show (sp_X7_holds 1) = 0 from by decide]) ?_
                refine x_if_ne C 109 (by decide) dX7_addMix_104 (fun hz => absurd (by decide) hz) (fun _ => ?_)
                refine x_iconst C 0 (by decide) dX7_addMix_107 ?_
                exact x_iret C hr (nle rfl) (nle rfl) dX7_addMix_108 ⟨(by first | (simp only [sp_X7_addMix, if_neg h1, if_neg h3, if_neg h5, if_neg h7, if_neg h9, if_pos h11, if_pos h12]; done) | (simp only [sp_X7_addMix, if_neg h1, if_neg h3, if_neg h5, if_neg h7, if_neg h9, if_pos h11, if_pos h12]; rfl)), (by first | (simp only [sp_X7_addMix_s, sp_X7_addMix_th, sp_X7_addMix_sa, if_neg h1, if_neg h3, if_neg h5, if_neg h7, if_neg h9, if_pos h11, if_pos h12]; done) | (simp only [sp_X7_addMix_s, sp_X7_addMix_th, sp_X7_addMix_sa, if_neg h1, if_neg h3, if_neg h5, if_neg h7, if_neg h9, if_pos h11, if_pos h12]; rfl))⟩
            · refine x_iconst C 1 (by decide) dX7_addMix_56 ?_
              refine x_goto C 61 (by decide) dX7_addMix_57 ?_
              refine x_istore C [(6, .int 1), (0, .ref (am 0)), (1, .int a1), (2, .int a2), (3, .int a3), (4, .int a4), (5, .int a5)] rfl (by decide) dX7_addMix_61 ?_
              refine x_aload_n C 1 rfl rfl dX7_addMix_63 ?_
              refine x_iload_n C 3 rfl rfl dX7_addMix_64 ?_
              refine x_FS (w1 := ([] : va_W)) (wc := ([] : va_W)) (w2 := (wMo g am s fi tx dm th sa ln pa le sk nu h)) [.int a2] [.ref (am 0)] (wMo g am s fi tx dm th sa ln pa le sk nu h) C (k_X7_isServo l g a2) rfl yS_X7_isServo wML_X7_105 rfl rfl rfl (nle rfl) (nle rfl) (nle rfl) (nle rfl) (nle rfl) dX7_addMix_65 ?_
              refine x_if_ne C 75 (by decide) dX7_addMix_68 (fun h13 => ?_) (fun h13 => ?_)
              · refine x_iload C 0 rfl dX7_addMix_75 ?_
                refine x_if_ne C 84 (by decide) dX7_addMix_77 (fun _ => ?_) (fun hz => absurd hz (by decide))
                refine x_aload_n C 1 rfl rfl dX7_addMix_84 ?_
                refine x_get C 0 7 1 rfl rfl wLy_X7 wFL_X7_7 rfl (by decide) rfl dX7_addMix_85 ?_
                refine x_bipush C 26 (by decide) dX7_addMix_88 ?_
                refine x_ialdN (f := s) C 1 0 26 rfl rfl rfl (by omega) (by decide) dX7_addMix_90 ?_
                refine x_bipush C 12 (by decide) dX7_addMix_91 ?_
                refine x_icmp_ne C 100 (by decide) dX7_addMix_93 (fun h14 => ?_) (fun h14 => ?_)
                · refine x_iconst C 0 (by decide) dX7_addMix_100 ?_
                  refine x_FV (w1 := ([] : va_W)) (wc := (wMo g am s fi tx dm th sa ln pa le sk nu h)) (w2 := ([] : va_W)) [.int 0] [] (wMo g am s fi tx dm 0 sa ln pa le sk nu h) C (k_X7_holds l g am s fi tx dm th sa ln pa le sk nu h 0) rfl yV_X7_holds wML_X7_99 rfl 0 rfl rfl rfl rfl (nle rfl) (nle rfl) (nle rfl) (nle rfl) (nle rfl) dX7_addMix_101 ?_
                  refine x_st (st' := [.int 1]) (by rw [show (sp_X7_holds 0) = 1 from by decide]) ?_
                  refine x_if_ne C 109 (by decide) dX7_addMix_104 (fun _ => ?_) (fun hz => absurd hz (by decide))
                  refine x_aload_n C 1 rfl rfl dX7_addMix_109 ?_
                  refine x_GV (w1 := ([] : va_W)) (wc := (wMo g am s fi tx dm 0 sa ln pa le sk nu h)) (w2 := ([] : va_W)) [] [] (wMo g am (sp_X7_save_s s sa) fi tx dm 0 (sp_X7_save_sa sa) ln pa le sk nu h) C (k_X7_save l g am s fi tx dm 0 sa ln pa le sk nu h hs hs6) rfl yV_X7_save wML_X7_92 rfl 0 rfl rfl rfl rfl (nle rfl) (nle rfl) (nle rfl) (nle rfl) (nle rfl) dX7_addMix_110 ?_
                  refine x_aload_n C 1 rfl rfl dX7_addMix_113 ?_
                  have h1l := in_le h1 (by decide) (show (9 : Int32) = nI 9 from rfl) (by decide)
                  refine x_iload_n C 2 rfl rfl dX7_addMix_114 ?_
                  have h13l := in_le h13 (by decide) (show (5 : Int32) = nI 5 from rfl) (by decide)
                  refine x_iload_n C 3 rfl rfl dX7_addMix_115 ?_
                  refine x_iload_n C 4 rfl rfl dX7_addMix_116 ?_
                  refine x_iload C 5 rfl dX7_addMix_117 ?_
                  have h11l := in_le h11 (by decide) (show (2 : Int32) = nI 2 from rfl) (by decide)
                  refine x_iload C 6 rfl dX7_addMix_119 ?_
                  refine x_GV (w1 := ([] : va_W)) (wc := (wMo g am (sp_X7_save_s s sa) fi tx dm 0 (sp_X7_save_sa sa) ln pa le sk nu h)) (w2 := ([] : va_W)) [.int a1, .int a2, .int a3, .int a4, .int a5] [] (wMo g am (sp_X7_adds_s (sp_X7_save_s s sa) a1 a2 a3 a4 a5) fi tx dm 0 (sp_X7_save_sa sa) ln pa le sk nu h) C (k_X7_adds l g am (sp_X7_save_s s sa) fi tx dm 0 (sp_X7_save_sa sa) ln pa le sk nu h a1 a2 a3 a4 a5 (save_ok hm).1 (by rw [save_rN]; exact lt12 hm h14)) rfl yV_X7_adds wML_X7_23 rfl 0 rfl rfl rfl rfl (nle rfl) (nle rfl) (nle rfl) (nle rfl) (nle rfl) dX7_addMix_121 ?_
                  refine x_aload_n C 1 rfl rfl dX7_addMix_124 ?_
                  refine x_get C 0 7 1 rfl rfl wLy_X7 wFL_X7_7 rfl (by decide) rfl dX7_addMix_125 ?_
                  refine x_bipush C 26 (by decide) dX7_addMix_128 ?_
                  refine x_ialdN (f := (sp_X7_adds_s (sp_X7_save_s s sa) a1 a2 a3 a4 a5)) C 1 0 26 rfl rfl rfl (by omega) (by decide) dX7_addMix_130 ?_
                  refine x_iconst C 1 (by decide) dX7_addMix_131 ?_
                  refine x_isub C dX7_addMix_132 ?_
                  exact x_iret C hr (nle rfl) (nle rfl) dX7_addMix_133 ⟨(by first | (simp only [sp_X7_addMix, if_neg h1, if_neg h3, if_neg h5, if_neg h7, if_neg h9, if_neg h11, if_neg h13, if_neg h14]; done) | (simp only [sp_X7_addMix, if_neg h1, if_neg h3, if_neg h5, if_neg h7, if_neg h9, if_neg h11, if_neg h13, if_neg h14]; rfl)), (by first | (simp only [sp_X7_addMix_s, sp_X7_addMix_th, sp_X7_addMix_sa, if_neg h1, if_neg h3, if_neg h5, if_neg h7, if_neg h9, if_neg h11, if_neg h13, if_neg h14]; done) | (simp only [sp_X7_addMix_s, sp_X7_addMix_th, sp_X7_addMix_sa, if_neg h1, if_neg h3, if_neg h5, if_neg h7, if_neg h9, if_neg h11, if_neg h13, if_neg h14]; rfl))⟩
                · refine x_iconst C 3 (by decide) dX7_addMix_96 ?_
                  refine x_goto C 101 (by decide) dX7_addMix_97 ?_
                  refine x_FV (w1 := ([] : va_W)) (wc := (wMo g am s fi tx dm th sa ln pa le sk nu h)) (w2 := ([] : va_W)) [.int 3] [] (wMo g am s fi tx dm 3 sa ln pa le sk nu h) C (k_X7_holds l g am s fi tx dm th sa ln pa le sk nu h 3) rfl yV_X7_holds wML_X7_99 rfl 0 rfl rfl rfl rfl (nle rfl) (nle rfl) (nle rfl) (nle rfl) (nle rfl) dX7_addMix_101 ?_
                  refine x_st (st' := [.int 0]) (by rw [show (sp_X7_holds 3) = 0 from by decide]) ?_
                  refine x_if_ne C 109 (by decide) dX7_addMix_104 (fun hz => absurd (by decide) hz) (fun _ => ?_)
                  refine x_iconst C 0 (by decide) dX7_addMix_107 ?_
                  exact x_iret C hr (nle rfl) (nle rfl) dX7_addMix_108 ⟨(by first | (simp only [sp_X7_addMix, if_neg h1, if_neg h3, if_neg h5, if_neg h7, if_neg h9, if_neg h11, if_neg h13, if_pos h14]; done) | (simp only [sp_X7_addMix, if_neg h1, if_neg h3, if_neg h5, if_neg h7, if_neg h9, if_neg h11, if_neg h13, if_pos h14]; rfl)), (by first | (simp only [sp_X7_addMix_s, sp_X7_addMix_th, sp_X7_addMix_sa, if_neg h1, if_neg h3, if_neg h5, if_neg h7, if_neg h9, if_neg h11, if_neg h13, if_pos h14]; done) | (simp only [sp_X7_addMix_s, sp_X7_addMix_th, sp_X7_addMix_sa, if_neg h1, if_neg h3, if_neg h5, if_neg h7, if_neg h9, if_neg h11, if_neg h13, if_pos h14]; rfl))⟩
              · refine x_iconst C 1 (by decide) dX7_addMix_71 ?_
                refine x_goto C 101 (by decide) dX7_addMix_72 ?_
                refine x_FV (w1 := ([] : va_W)) (wc := (wMo g am s fi tx dm th sa ln pa le sk nu h)) (w2 := ([] : va_W)) [.int 1] [] (wMo g am s fi tx dm 1 sa ln pa le sk nu h) C (k_X7_holds l g am s fi tx dm th sa ln pa le sk nu h 1) rfl yV_X7_holds wML_X7_99 rfl 0 rfl rfl rfl rfl (nle rfl) (nle rfl) (nle rfl) (nle rfl) (nle rfl) dX7_addMix_101 ?_
                refine x_st (st' := [.int 0]) (by rw [show (sp_X7_holds 1) = 0 from by decide]) ?_
                refine x_if_ne C 109 (by decide) dX7_addMix_104 (fun hz => absurd (by decide) hz) (fun _ => ?_)
                refine x_iconst C 0 (by decide) dX7_addMix_107 ?_
                exact x_iret C hr (nle rfl) (nle rfl) dX7_addMix_108 ⟨(by first | (simp only [sp_X7_addMix, if_neg h1, if_neg h3, if_neg h5, if_neg h7, if_neg h9, if_neg h11, if_pos h13]; done) | (simp only [sp_X7_addMix, if_neg h1, if_neg h3, if_neg h5, if_neg h7, if_neg h9, if_neg h11, if_pos h13]; rfl)), (by first | (simp only [sp_X7_addMix_s, sp_X7_addMix_th, sp_X7_addMix_sa, if_neg h1, if_neg h3, if_neg h5, if_neg h7, if_neg h9, if_neg h11, if_pos h13]; done) | (simp only [sp_X7_addMix_s, sp_X7_addMix_th, sp_X7_addMix_sa, if_neg h1, if_neg h3, if_neg h5, if_neg h7, if_neg h9, if_neg h11, if_pos h13]; rfl))⟩
set_option maxRecDepth 100000 in
theorem k_X7_mixes (l : Launch) (g : xGt) (am : Nat → Nat) (s fi tx dm : Nat → Int32) (th sa ln pa le sk nu : Int32) (h : Int64) (hs : sa = nI (Int32.toNatClampNeg sa)) (hs6 : Int32.toNatClampNeg sa ≤ 6) (hm : rOk s 0) : xM l g.1 (xT g) yX7_mixes (ws_ yX7_mixes cX7_mixes 1 (some .int)) (xRm 0 0 0 0) 0 0 [.ref (am 0)] (wMo g am s fi tx dm th sa ln pa le sk nu h) (fun r9 w9 => r9 = some (.int (s 26)) ∧ w9 = (wMo g am s fi tx dm 0 sa ln pa le sk nu h)) (fun _ _ => False) := by
  refine x_start (own := RX7) (nm := "mixes") rfl rfl (by decide +kernel) rfl (nle rfl) (fun p e σ m args below meth c A C hno hr => ?_)
  refine x_lve (lv' := [(0, .ref (am 0))]) rfl ?_
  refine x_aload_n C 0 rfl rfl dX7_mixes_0 ?_
  refine x_iconst C 0 (by decide) dX7_mixes_1 ?_
  refine x_put C 0 7 0 tyX7 (wMo g am s fi tx dm 0 sa ln pa le sk nu h) rfl rfl rfl wLy_X7 tyX7_ok nmX7 wFL_X7_31 rfl (by decide) rfl rfl rfl rfl (nlt rfl) dX7_mixes_2 ?_
  refine x_aload_n C 0 rfl rfl dX7_mixes_5 ?_
  refine x_get C 0 7 1 rfl rfl wLy_X7 wFL_X7_7 rfl (by decide) rfl dX7_mixes_6 ?_
  refine x_bipush C 26 (by decide) dX7_mixes_9 ?_
  refine x_ialdN (f := s) C 1 0 26 rfl rfl rfl (by omega) (by decide) dX7_mixes_11 ?_
  exact x_iret C hr (nle rfl) (nle rfl) dX7_mixes_12 ⟨rfl, rfl⟩
def sp_X7_mixSource (s : Nat → Int32) (a : Int32) : Int32 := (if (sp_X7_in a 0 ((s 26) - 1)) = 0 then 0 else (s (0 + 27 + 5 * (Int32.toNatClampNeg a) + 0)))
def sp_X7_mixSource_th (s : Nat → Int32) (a : Int32) : Int32 := (if (sp_X7_in a 0 ((s 26) - 1)) = 0 then 1 else 0)
set_option maxRecDepth 100000 in
theorem k_X7_mixSource (l : Launch) (g : xGt) (am : Nat → Nat) (s fi tx dm : Nat → Int32) (th sa ln pa le sk nu : Int32) (h : Int64) (a : Int32) (hs : sa = nI (Int32.toNatClampNeg sa)) (hs6 : Int32.toNatClampNeg sa ≤ 6) (hm : rOk s 0) : xM l g.1 (xT g) yX7_mixSource (ws_ yX7_mixSource cX7_mixSource 2 (some .int)) (xRm 2 43 0 0) 0 0 [.ref (am 0), .int a] (wMo g am s fi tx dm th sa ln pa le sk nu h) (fun r9 w9 => r9 = some (.int (sp_X7_mixSource s a)) ∧ w9 = (wMo g am s fi tx dm (sp_X7_mixSource_th s a) sa ln pa le sk nu h)) (fun _ _ => False) := by
  have hm2 := hm.2.1
  refine x_start (own := RX7) (nm := "mixSource") rfl rfl (by decide +kernel) rfl (nle rfl) (fun p e σ m args below meth c A C hno hr => ?_)
  refine x_lve (lv' := [(0, .ref (am 0)), (1, .int a)]) rfl ?_
  refine x_aload_n C 0 rfl rfl dX7_mixSource_0 ?_
  refine x_aload_n C 0 rfl rfl dX7_mixSource_1 ?_
  refine x_iload_n C 1 rfl rfl dX7_mixSource_2 ?_
  refine x_FV (w1 := ([] : va_W)) (wc := (wMo g am s fi tx dm th sa ln pa le sk nu h)) (w2 := ([] : va_W)) [.int a] [.ref (am 0)] (wMo g am s fi tx dm th sa ln pa le sk nu h) C (k_X7_isMix l g am s fi tx dm th sa ln pa le sk nu h a) rfl yV_X7_isMix wML_X7_108 rfl 0 rfl rfl rfl rfl (nle rfl) (nle rfl) (nle rfl) (nle rfl) (nle rfl) dX7_mixSource_3 ?_
  refine x_if_eq C 13 (by decide) dX7_mixSource_6 (fun h1 => ?_) (fun h1 => ?_)
  · refine x_iconst C 1 (by decide) dX7_mixSource_13 ?_
    refine x_FV (w1 := ([] : va_W)) (wc := (wMo g am s fi tx dm th sa ln pa le sk nu h)) (w2 := ([] : va_W)) [.int 1] [] (wMo g am s fi tx dm 1 sa ln pa le sk nu h) C (k_X7_holds l g am s fi tx dm th sa ln pa le sk nu h 1) rfl yV_X7_holds wML_X7_99 rfl 0 rfl rfl rfl rfl (nle rfl) (nle rfl) (nle rfl) (nle rfl) (nle rfl) dX7_mixSource_14 ?_
    refine x_st (st' := [.int 0]) (by rw [show (sp_X7_holds 1) = 0 from by decide]) ?_
    refine x_if_eq C 30 (by decide) dX7_mixSource_17 (fun _ => ?_) (fun hz => absurd (by decide) hz)
    refine x_iconst C 0 (by decide) dX7_mixSource_30 ?_
    exact x_iret C hr (nle rfl) (nle rfl) dX7_mixSource_31 ⟨(by first | (simp only [sp_X7_mixSource, if_pos h1]; done) | (simp only [sp_X7_mixSource, if_pos h1]; rfl)), (by first | (simp only [sp_X7_mixSource_th, if_pos h1]; done) | (simp only [sp_X7_mixSource_th, if_pos h1]; rfl))⟩
  · refine x_iconst C 0 (by decide) dX7_mixSource_9 ?_
    refine x_goto C 14 (by decide) dX7_mixSource_10 ?_
    refine x_FV (w1 := ([] : va_W)) (wc := (wMo g am s fi tx dm th sa ln pa le sk nu h)) (w2 := ([] : va_W)) [.int 0] [] (wMo g am s fi tx dm 0 sa ln pa le sk nu h) C (k_X7_holds l g am s fi tx dm th sa ln pa le sk nu h 0) rfl yV_X7_holds wML_X7_99 rfl 0 rfl rfl rfl rfl (nle rfl) (nle rfl) (nle rfl) (nle rfl) (nle rfl) dX7_mixSource_14 ?_
    refine x_st (st' := [.int 1]) (by rw [show (sp_X7_holds 0) = 1 from by decide]) ?_
    refine x_if_eq C 30 (by decide) dX7_mixSource_17 (fun hz => absurd hz (by decide)) (fun _ => ?_)
    refine x_aload_n C 0 rfl rfl dX7_mixSource_20 ?_
    refine x_iconst C 0 (by decide) dX7_mixSource_21 ?_
    have h1l := in_mixL h1 hm
    refine x_iload_n C 1 rfl rfl dX7_mixSource_22 ?_
    refine x_iconst C 0 (by decide) dX7_mixSource_23 ?_
    refine x_FV (w1 := ([] : va_W)) (wc := (wMo g am s fi tx dm 0 sa ln pa le sk nu h)) (w2 := ([] : va_W)) [.int 0, .int a, .int 0] [] (wMo g am s fi tx dm 0 sa ln pa le sk nu h) C (k_X7_ofMix l g am s fi tx dm 0 sa ln pa le sk nu h 0 0 rfl a (Int32.toNatClampNeg a) (in_mixN h1 hm) 0 0 rfl (by omega)) rfl yV_X7_ofMix wML_X7_39 rfl 0 rfl rfl rfl rfl (nle rfl) (nle rfl) (nle rfl) (nle rfl) (nle rfl) dX7_mixSource_24 ?_
    refine x_goto C 31 (by decide) dX7_mixSource_27 ?_
    exact x_iret C hr (nle rfl) (nle rfl) dX7_mixSource_31 ⟨(by first | (simp only [sp_X7_mixSource, if_neg h1]; done) | (simp only [sp_X7_mixSource, if_neg h1]; rfl)), (by first | (simp only [sp_X7_mixSource_th, if_neg h1]; done) | (simp only [sp_X7_mixSource_th, if_neg h1]; rfl))⟩
def sp_X7_mixServo (s : Nat → Int32) (a : Int32) : Int32 := (if (sp_X7_in a 0 ((s 26) - 1)) = 0 then 0 else (s (0 + 27 + 5 * (Int32.toNatClampNeg a) + 1)))
def sp_X7_mixServo_th (s : Nat → Int32) (a : Int32) : Int32 := (if (sp_X7_in a 0 ((s 26) - 1)) = 0 then 1 else 0)
set_option maxRecDepth 100000 in
theorem k_X7_mixServo (l : Launch) (g : xGt) (am : Nat → Nat) (s fi tx dm : Nat → Int32) (th sa ln pa le sk nu : Int32) (h : Int64) (a : Int32) (hs : sa = nI (Int32.toNatClampNeg sa)) (hs6 : Int32.toNatClampNeg sa ≤ 6) (hm : rOk s 0) : xM l g.1 (xT g) yX7_mixServo (ws_ yX7_mixServo cX7_mixServo 2 (some .int)) (xRm 2 43 0 0) 0 0 [.ref (am 0), .int a] (wMo g am s fi tx dm th sa ln pa le sk nu h) (fun r9 w9 => r9 = some (.int (sp_X7_mixServo s a)) ∧ w9 = (wMo g am s fi tx dm (sp_X7_mixServo_th s a) sa ln pa le sk nu h)) (fun _ _ => False) := by
  have hm2 := hm.2.1
  refine x_start (own := RX7) (nm := "mixServo") rfl rfl (by decide +kernel) rfl (nle rfl) (fun p e σ m args below meth c A C hno hr => ?_)
  refine x_lve (lv' := [(0, .ref (am 0)), (1, .int a)]) rfl ?_
  refine x_aload_n C 0 rfl rfl dX7_mixServo_0 ?_
  refine x_aload_n C 0 rfl rfl dX7_mixServo_1 ?_
  refine x_iload_n C 1 rfl rfl dX7_mixServo_2 ?_
  refine x_FV (w1 := ([] : va_W)) (wc := (wMo g am s fi tx dm th sa ln pa le sk nu h)) (w2 := ([] : va_W)) [.int a] [.ref (am 0)] (wMo g am s fi tx dm th sa ln pa le sk nu h) C (k_X7_isMix l g am s fi tx dm th sa ln pa le sk nu h a) rfl yV_X7_isMix wML_X7_108 rfl 0 rfl rfl rfl rfl (nle rfl) (nle rfl) (nle rfl) (nle rfl) (nle rfl) dX7_mixServo_3 ?_
  refine x_if_eq C 13 (by decide) dX7_mixServo_6 (fun h1 => ?_) (fun h1 => ?_)
  · refine x_iconst C 1 (by decide) dX7_mixServo_13 ?_
    refine x_FV (w1 := ([] : va_W)) (wc := (wMo g am s fi tx dm th sa ln pa le sk nu h)) (w2 := ([] : va_W)) [.int 1] [] (wMo g am s fi tx dm 1 sa ln pa le sk nu h) C (k_X7_holds l g am s fi tx dm th sa ln pa le sk nu h 1) rfl yV_X7_holds wML_X7_99 rfl 0 rfl rfl rfl rfl (nle rfl) (nle rfl) (nle rfl) (nle rfl) (nle rfl) dX7_mixServo_14 ?_
    refine x_st (st' := [.int 0]) (by rw [show (sp_X7_holds 1) = 0 from by decide]) ?_
    refine x_if_eq C 30 (by decide) dX7_mixServo_17 (fun _ => ?_) (fun hz => absurd (by decide) hz)
    refine x_iconst C 0 (by decide) dX7_mixServo_30 ?_
    exact x_iret C hr (nle rfl) (nle rfl) dX7_mixServo_31 ⟨(by first | (simp only [sp_X7_mixServo, if_pos h1]; done) | (simp only [sp_X7_mixServo, if_pos h1]; rfl)), (by first | (simp only [sp_X7_mixServo_th, if_pos h1]; done) | (simp only [sp_X7_mixServo_th, if_pos h1]; rfl))⟩
  · refine x_iconst C 0 (by decide) dX7_mixServo_9 ?_
    refine x_goto C 14 (by decide) dX7_mixServo_10 ?_
    refine x_FV (w1 := ([] : va_W)) (wc := (wMo g am s fi tx dm th sa ln pa le sk nu h)) (w2 := ([] : va_W)) [.int 0] [] (wMo g am s fi tx dm 0 sa ln pa le sk nu h) C (k_X7_holds l g am s fi tx dm th sa ln pa le sk nu h 0) rfl yV_X7_holds wML_X7_99 rfl 0 rfl rfl rfl rfl (nle rfl) (nle rfl) (nle rfl) (nle rfl) (nle rfl) dX7_mixServo_14 ?_
    refine x_st (st' := [.int 1]) (by rw [show (sp_X7_holds 0) = 1 from by decide]) ?_
    refine x_if_eq C 30 (by decide) dX7_mixServo_17 (fun hz => absurd hz (by decide)) (fun _ => ?_)
    refine x_aload_n C 0 rfl rfl dX7_mixServo_20 ?_
    refine x_iconst C 0 (by decide) dX7_mixServo_21 ?_
    have h1l := in_mixL h1 hm
    refine x_iload_n C 1 rfl rfl dX7_mixServo_22 ?_
    refine x_iconst C 1 (by decide) dX7_mixServo_23 ?_
    refine x_FV (w1 := ([] : va_W)) (wc := (wMo g am s fi tx dm 0 sa ln pa le sk nu h)) (w2 := ([] : va_W)) [.int 0, .int a, .int 1] [] (wMo g am s fi tx dm 0 sa ln pa le sk nu h) C (k_X7_ofMix l g am s fi tx dm 0 sa ln pa le sk nu h 0 0 rfl a (Int32.toNatClampNeg a) (in_mixN h1 hm) 1 1 rfl (by omega)) rfl yV_X7_ofMix wML_X7_39 rfl 0 rfl rfl rfl rfl (nle rfl) (nle rfl) (nle rfl) (nle rfl) (nle rfl) dX7_mixServo_24 ?_
    refine x_goto C 31 (by decide) dX7_mixServo_27 ?_
    exact x_iret C hr (nle rfl) (nle rfl) dX7_mixServo_31 ⟨(by first | (simp only [sp_X7_mixServo, if_neg h1]; done) | (simp only [sp_X7_mixServo, if_neg h1]; rfl)), (by first | (simp only [sp_X7_mixServo_th, if_neg h1]; done) | (simp only [sp_X7_mixServo_th, if_neg h1]; rfl))⟩
def sp_X7_mixValue (s : Nat → Int32) (dm : Nat → Int32) (a : Int32) : Int32 := (if (sp_X7_in a 0 ((s 26) - 1)) = 0 then 0 else (sp_X7_adding s (sp_dems s 0 dm 6) 0 (Int32.toNatClampNeg a)))
def sp_X7_mixValue_dm (s : Nat → Int32) (dm : Nat → Int32) (a : Int32) : Nat → Int32 := (if (sp_X7_in a 0 ((s 26) - 1)) = 0 then dm else (sp_dems s 0 dm 6))
def sp_X7_mixValue_th (s : Nat → Int32) (a : Int32) : Int32 := (if (sp_X7_in a 0 ((s 26) - 1)) = 0 then 1 else 0)
set_option maxRecDepth 100000 in
theorem k_X7_mixValue (l : Launch) (g : xGt) (am : Nat → Nat) (s fi tx dm : Nat → Int32) (th sa ln pa le sk nu : Int32) (h : Int64) (a : Int32) (hs : sa = nI (Int32.toNatClampNeg sa)) (hs6 : Int32.toNatClampNeg sa ≤ 6) (hm : rOk s 0) : xM l g.1 (xT g) yX7_mixValue (ws_ yX7_mixValue cX7_mixValue 2 (some .int)) (xRm 4 94 0 0) 0 0 [.ref (am 0), .int a] (wMo g am s fi tx dm th sa ln pa le sk nu h) (fun r9 w9 => r9 = some (.int (sp_X7_mixValue s dm a)) ∧ w9 = (wMo g am s fi tx (sp_X7_mixValue_dm s dm a) (sp_X7_mixValue_th s a) sa ln pa le sk nu h)) (fun _ _ => False) := by
  have hm2 := hm.2.1
  refine x_start (own := RX7) (nm := "mixValue") rfl rfl (by decide +kernel) rfl (nle rfl) (fun p e σ m args below meth c A C hno hr => ?_)
  refine x_lve (lv' := [(0, .ref (am 0)), (1, .int a)]) rfl ?_
  refine x_aload_n C 0 rfl rfl dX7_mixValue_0 ?_
  refine x_aload_n C 0 rfl rfl dX7_mixValue_1 ?_
  refine x_iload_n C 1 rfl rfl dX7_mixValue_2 ?_
  refine x_FV (w1 := ([] : va_W)) (wc := (wMo g am s fi tx dm th sa ln pa le sk nu h)) (w2 := ([] : va_W)) [.int a] [.ref (am 0)] (wMo g am s fi tx dm th sa ln pa le sk nu h) C (k_X7_isMix l g am s fi tx dm th sa ln pa le sk nu h a) rfl yV_X7_isMix wML_X7_108 rfl 0 rfl rfl rfl rfl (nle rfl) (nle rfl) (nle rfl) (nle rfl) (nle rfl) dX7_mixValue_3 ?_
  refine x_if_eq C 13 (by decide) dX7_mixValue_6 (fun h1 => ?_) (fun h1 => ?_)
  · refine x_iconst C 1 (by decide) dX7_mixValue_13 ?_
    refine x_FV (w1 := ([] : va_W)) (wc := (wMo g am s fi tx dm th sa ln pa le sk nu h)) (w2 := ([] : va_W)) [.int 1] [] (wMo g am s fi tx dm 1 sa ln pa le sk nu h) C (k_X7_holds l g am s fi tx dm th sa ln pa le sk nu h 1) rfl yV_X7_holds wML_X7_99 rfl 0 rfl rfl rfl rfl (nle rfl) (nle rfl) (nle rfl) (nle rfl) (nle rfl) dX7_mixValue_14 ?_
    refine x_st (st' := [.int 0]) (by rw [show (sp_X7_holds 1) = 0 from by decide]) ?_
    refine x_if_ne C 22 (by decide) dX7_mixValue_17 (fun hz => absurd (by decide) hz) (fun _ => ?_)
    refine x_iconst C 0 (by decide) dX7_mixValue_20 ?_
    exact x_iret C hr (nle rfl) (nle rfl) dX7_mixValue_21 ⟨(by first | (simp only [sp_X7_mixValue, if_pos h1]; done) | (simp only [sp_X7_mixValue, if_pos h1]; rfl)), (by first | (simp only [sp_X7_mixValue_dm, sp_X7_mixValue_th, if_pos h1]; done) | (simp only [sp_X7_mixValue_dm, sp_X7_mixValue_th, if_pos h1]; rfl))⟩
  · refine x_iconst C 0 (by decide) dX7_mixValue_9 ?_
    refine x_goto C 14 (by decide) dX7_mixValue_10 ?_
    refine x_FV (w1 := ([] : va_W)) (wc := (wMo g am s fi tx dm th sa ln pa le sk nu h)) (w2 := ([] : va_W)) [.int 0] [] (wMo g am s fi tx dm 0 sa ln pa le sk nu h) C (k_X7_holds l g am s fi tx dm th sa ln pa le sk nu h 0) rfl yV_X7_holds wML_X7_99 rfl 0 rfl rfl rfl rfl (nle rfl) (nle rfl) (nle rfl) (nle rfl) (nle rfl) dX7_mixValue_14 ?_
    refine x_st (st' := [.int 1]) (by rw [show (sp_X7_holds 0) = 1 from by decide]) ?_
    refine x_if_ne C 22 (by decide) dX7_mixValue_17 (fun _ => ?_) (fun hz => absurd hz (by decide))
    refine x_aload_n C 0 rfl rfl dX7_mixValue_22 ?_
    refine x_iconst C 0 (by decide) dX7_mixValue_23 ?_
    refine x_GV (w1 := ([] : va_W)) (wc := (wMo g am s fi tx dm 0 sa ln pa le sk nu h)) (w2 := ([] : va_W)) [.int 0] [] (wMo g am s fi tx (sp_dems s 0 dm 6) 0 sa ln pa le sk nu h) C (k_X7_demandsLaid l g am s fi tx dm 0 sa ln pa le sk nu h 0 0 rfl (by omega) hm) rfl yV_X7_demandsLaid wML_X7_63 rfl 0 rfl rfl rfl rfl (nle rfl) (nle rfl) (nle rfl) (nle rfl) (nle rfl) dX7_mixValue_24 ?_
    refine x_aload_n C 0 rfl rfl dX7_mixValue_27 ?_
    refine x_iconst C 0 (by decide) dX7_mixValue_28 ?_
    have h1l := in_mixL h1 hm
    refine x_iload_n C 1 rfl rfl dX7_mixValue_29 ?_
    refine x_FV (w1 := ([] : va_W)) (wc := (wMo g am s fi tx (sp_dems s 0 dm 6) 0 sa ln pa le sk nu h)) (w2 := ([] : va_W)) [.int 0, .int a] [] (wMo g am s fi tx (sp_dems s 0 dm 6) 0 sa ln pa le sk nu h) C (k_X7_adding l g am s fi tx (sp_dems s 0 dm 6) 0 sa ln pa le sk nu h 0 0 rfl a (Int32.toNatClampNeg a) (in_mixN h1 hm) (by omega) hm h1l) rfl yV_X7_adding wML_X7_51 rfl 0 rfl rfl rfl rfl (nle rfl) (nle rfl) (nle rfl) (nle rfl) (nle rfl) dX7_mixValue_30 ?_
    exact x_iret C hr (nle rfl) (nle rfl) dX7_mixValue_33 ⟨(by first | (simp only [sp_X7_mixValue, if_neg h1]; done) | (simp only [sp_X7_mixValue, if_neg h1]; rfl)), (by first | (simp only [sp_X7_mixValue_dm, sp_X7_mixValue_th, if_neg h1]; done) | (simp only [sp_X7_mixValue_dm, sp_X7_mixValue_th, if_neg h1]; rfl))⟩
def sp_X7_isActive (s : Nat → Int32) (a : Int32) : Int32 := (if (sp_X7_in a 0 ((s 26) - 1)) = 0 then 0 else (if (sp_X7_holdsNow s 0 (Int32.toNatClampNeg a)) = 0 then (0 : Int32) else 1))
def sp_X7_isActive_th (s : Nat → Int32) (a : Int32) : Int32 := (if (sp_X7_in a 0 ((s 26) - 1)) = 0 then 1 else 0)
theorem spb_X7_isActive (s : Nat → Int32) (a : Int32)  : (sp_X7_isActive s a) = 0 ∨ (sp_X7_isActive s a) = 1 := by
  unfold sp_X7_isActive
  exact (bool_ite (Or.inl rfl) (bool_ite (Or.inl rfl) (Or.inr rfl)))
set_option maxRecDepth 100000 in
theorem k_X7_isActive (l : Launch) (g : xGt) (am : Nat → Nat) (s fi tx dm : Nat → Int32) (th sa ln pa le sk nu : Int32) (h : Int64) (a : Int32) (hs : sa = nI (Int32.toNatClampNeg sa)) (hs6 : Int32.toNatClampNeg sa ≤ 6) (hm : rOk s 0) : xM l g.1 (xT g) yX7_isActive (ws_ yX7_isActive cX7_isActive 2 (some .boolean)) (xRm 2 46 0 0) 0 0 [.ref (am 0), .int a] (wMo g am s fi tx dm th sa ln pa le sk nu h) (fun r9 w9 => r9 = some (.int (sp_X7_isActive s a)) ∧ w9 = (wMo g am s fi tx dm (sp_X7_isActive_th s a) sa ln pa le sk nu h)) (fun _ _ => False) := by
  have hm2 := hm.2.1
  refine x_start (own := RX7) (nm := "isActive") rfl rfl (by decide +kernel) rfl (nle rfl) (fun p e σ m args below meth c A C hno hr => ?_)
  refine x_lve (lv' := [(0, .ref (am 0)), (1, .int a)]) rfl ?_
  refine x_aload_n C 0 rfl rfl dX7_isActive_0 ?_
  refine x_aload_n C 0 rfl rfl dX7_isActive_1 ?_
  refine x_iload_n C 1 rfl rfl dX7_isActive_2 ?_
  refine x_FV (w1 := ([] : va_W)) (wc := (wMo g am s fi tx dm th sa ln pa le sk nu h)) (w2 := ([] : va_W)) [.int a] [.ref (am 0)] (wMo g am s fi tx dm th sa ln pa le sk nu h) C (k_X7_isMix l g am s fi tx dm th sa ln pa le sk nu h a) rfl yV_X7_isMix wML_X7_108 rfl 0 rfl rfl rfl rfl (nle rfl) (nle rfl) (nle rfl) (nle rfl) (nle rfl) dX7_isActive_3 ?_
  refine x_if_eq C 13 (by decide) dX7_isActive_6 (fun h1 => ?_) (fun h1 => ?_)
  · refine x_iconst C 1 (by decide) dX7_isActive_13 ?_
    refine x_FV (w1 := ([] : va_W)) (wc := (wMo g am s fi tx dm th sa ln pa le sk nu h)) (w2 := ([] : va_W)) [.int 1] [] (wMo g am s fi tx dm 1 sa ln pa le sk nu h) C (k_X7_holds l g am s fi tx dm th sa ln pa le sk nu h 1) rfl yV_X7_holds wML_X7_99 rfl 0 rfl rfl rfl rfl (nle rfl) (nle rfl) (nle rfl) (nle rfl) (nle rfl) dX7_isActive_14 ?_
    refine x_st (st' := [.int 0]) (by rw [show (sp_X7_holds 1) = 0 from by decide]) ?_
    refine x_if_eq C 33 (by decide) dX7_isActive_17 (fun _ => ?_) (fun hz => absurd (by decide) hz)
    refine x_iconst C 0 (by decide) dX7_isActive_33 ?_
    exact x_zret C hr rfl (nle rfl) (nle rfl) dX7_isActive_34 ⟨(by first | (simp only [sp_X7_isActive, if_pos h1]; done) | (simp only [sp_X7_isActive, if_pos h1]; rfl)), (by first | (simp only [sp_X7_isActive_th, if_pos h1]; done) | (simp only [sp_X7_isActive_th, if_pos h1]; rfl))⟩
  · refine x_iconst C 0 (by decide) dX7_isActive_9 ?_
    refine x_goto C 14 (by decide) dX7_isActive_10 ?_
    refine x_FV (w1 := ([] : va_W)) (wc := (wMo g am s fi tx dm th sa ln pa le sk nu h)) (w2 := ([] : va_W)) [.int 0] [] (wMo g am s fi tx dm 0 sa ln pa le sk nu h) C (k_X7_holds l g am s fi tx dm th sa ln pa le sk nu h 0) rfl yV_X7_holds wML_X7_99 rfl 0 rfl rfl rfl rfl (nle rfl) (nle rfl) (nle rfl) (nle rfl) (nle rfl) dX7_isActive_14 ?_
    refine x_st (st' := [.int 1]) (by rw [show (sp_X7_holds 0) = 1 from by decide]) ?_
    refine x_if_eq C 33 (by decide) dX7_isActive_17 (fun hz => absurd hz (by decide)) (fun _ => ?_)
    refine x_aload_n C 0 rfl rfl dX7_isActive_20 ?_
    refine x_iconst C 0 (by decide) dX7_isActive_21 ?_
    have h1l := in_mixL h1 hm
    refine x_iload_n C 1 rfl rfl dX7_isActive_22 ?_
    refine x_FV (w1 := ([] : va_W)) (wc := (wMo g am s fi tx dm 0 sa ln pa le sk nu h)) (w2 := ([] : va_W)) [.int 0, .int a] [] (wMo g am s fi tx dm 0 sa ln pa le sk nu h) C (k_X7_holdsNow l g am s fi tx dm 0 sa ln pa le sk nu h 0 0 rfl a (Int32.toNatClampNeg a) (in_mixN h1 hm) (by omega) hm h1l) rfl yV_X7_holdsNow wML_X7_47 rfl 0 rfl rfl rfl rfl (nle rfl) (nle rfl) (nle rfl) (nle rfl) (nle rfl) dX7_isActive_23 ?_
    suffices K3 : xW p l e _ σ m args below meth c g.1 A 2 0 0 _ (wMo g am s fi tx dm 0 sa ln pa le sk nu h) [(0, .ref (am 0)), (1, .int a)] 34 [.int (if (sp_X7_holdsNow s 0 (Int32.toNatClampNeg a)) = 0 then (0 : Int32) else 1)] by
      refine x_if_eq C 33 (by decide) dX7_isActive_26 (fun h2 => ?_) (fun h2 => ?_)
      · refine x_iconst C 0 (by decide) dX7_isActive_33 ?_
        refine x_st (st' := [.int (if (sp_X7_holdsNow s 0 (Int32.toNatClampNeg a)) = 0 then (0 : Int32) else 1)]) (by simp only [if_pos h2]) ?_
        exact K3
      · refine x_iconst C 1 (by decide) dX7_isActive_29 ?_
        refine x_goto C 34 (by decide) dX7_isActive_30 ?_
        refine x_st (st' := [.int (if (sp_X7_holdsNow s 0 (Int32.toNatClampNeg a)) = 0 then (0 : Int32) else 1)]) (by simp only [if_neg h2]) ?_
        exact K3
    exact x_zret C hr (xnz (bool_ite (Or.inl rfl) (Or.inr rfl))) (nle rfl) (nle rfl) dX7_isActive_34 ⟨(by first | (simp only [sp_X7_isActive, if_neg h1]; done) | (simp only [sp_X7_isActive, if_neg h1]; rfl)), (by first | (simp only [sp_X7_isActive_th, if_neg h1]; done) | (simp only [sp_X7_isActive_th, if_neg h1]; rfl))⟩
def sp_X7_reverse (s : Nat → Int32) (sa : Int32) (a : Int32) : Int32 := (if (sp_X7_in a 0 5) = 0 then 0 else (if ((sp_X7_save_s s sa) (87 + 10 * (Int32.toNatClampNeg a) + 0)) = 0 then (1 : Int32) else 0))
def sp_X7_reverse_s (s : Nat → Int32) (sa : Int32) (a : Int32) : Nat → Int32 := (if (sp_X7_in a 0 5) = 0 then s else (upd (sp_X7_save_s s sa) (87 + 10 * (Int32.toNatClampNeg a) + 0) (1 - (s (0 + 87 + 10 * (Int32.toNatClampNeg a) + 0)))))
def sp_X7_reverse_th (a : Int32) : Int32 := (if (sp_X7_in a 0 5) = 0 then 1 else 0)
def sp_X7_reverse_sa (sa : Int32) (a : Int32) : Int32 := (if (sp_X7_in a 0 5) = 0 then sa else (sp_X7_save_sa sa))
theorem spb_X7_reverse (s : Nat → Int32) (sa : Int32) (a : Int32)  : (sp_X7_reverse s sa a) = 0 ∨ (sp_X7_reverse s sa a) = 1 := by
  unfold sp_X7_reverse
  exact (bool_ite (Or.inl rfl) (bool_ite (Or.inr rfl) (Or.inl rfl)))
set_option maxRecDepth 100000 in
theorem k_X7_reverse (l : Launch) (g : xGt) (am : Nat → Nat) (s fi tx dm : Nat → Int32) (th sa ln pa le sk nu : Int32) (h : Int64) (a : Int32) (hs : sa = nI (Int32.toNatClampNeg sa)) (hs6 : Int32.toNatClampNeg sa ≤ 6) (hm : rOk s 0) : xM l g.1 (xT g) yX7_reverse (ws_ yX7_reverse cX7_reverse 2 (some .boolean)) (xRm 3 67 0 0) 0 0 [.ref (am 0), .int a] (wMo g am s fi tx dm th sa ln pa le sk nu h) (fun r9 w9 => r9 = some (.int (sp_X7_reverse s sa a)) ∧ w9 = (wMo g am (sp_X7_reverse_s s sa a) fi tx dm (sp_X7_reverse_th a) (sp_X7_reverse_sa sa a) ln pa le sk nu h)) (fun _ _ => False) := by
  refine x_start (own := RX7) (nm := "reverse") rfl rfl (by decide +kernel) rfl (nle rfl) (fun p e σ m args below meth c A C hno hr => ?_)
  refine x_lve (lv' := [(0, .ref (am 0)), (1, .int a)]) rfl ?_
  refine x_aload_n C 0 rfl rfl dX7_reverse_0 ?_
  refine x_iload_n C 1 rfl rfl dX7_reverse_1 ?_
  refine x_FS (w1 := ([] : va_W)) (wc := ([] : va_W)) (w2 := (wMo g am s fi tx dm th sa ln pa le sk nu h)) [.int a] [.ref (am 0)] (wMo g am s fi tx dm th sa ln pa le sk nu h) C (k_X7_isServo l g a) rfl yS_X7_isServo wML_X7_105 rfl rfl rfl (nle rfl) (nle rfl) (nle rfl) (nle rfl) (nle rfl) dX7_reverse_2 ?_
  refine x_if_eq C 12 (by decide) dX7_reverse_5 (fun h1 => ?_) (fun h1 => ?_)
  · refine x_iconst C 1 (by decide) dX7_reverse_12 ?_
    refine x_FV (w1 := ([] : va_W)) (wc := (wMo g am s fi tx dm th sa ln pa le sk nu h)) (w2 := ([] : va_W)) [.int 1] [] (wMo g am s fi tx dm 1 sa ln pa le sk nu h) C (k_X7_holds l g am s fi tx dm th sa ln pa le sk nu h 1) rfl yV_X7_holds wML_X7_99 rfl 0 rfl rfl rfl rfl (nle rfl) (nle rfl) (nle rfl) (nle rfl) (nle rfl) dX7_reverse_13 ?_
    refine x_st (st' := [.int 0]) (by rw [show (sp_X7_holds 1) = 0 from by decide]) ?_
    refine x_if_eq C 44 (by decide) dX7_reverse_16 (fun _ => ?_) (fun hz => absurd (by decide) hz)
    refine x_iconst C 0 (by decide) dX7_reverse_44 ?_
    exact x_zret C hr rfl (nle rfl) (nle rfl) dX7_reverse_45 ⟨(by first | (simp only [sp_X7_reverse, if_pos h1]; done) | (simp only [sp_X7_reverse, if_pos h1]; rfl)), (by first | (simp only [sp_X7_reverse_s, sp_X7_reverse_th, sp_X7_reverse_sa, if_pos h1]; done) | (simp only [sp_X7_reverse_s, sp_X7_reverse_th, sp_X7_reverse_sa, if_pos h1]; rfl))⟩
  · refine x_iconst C 0 (by decide) dX7_reverse_8 ?_
    refine x_goto C 13 (by decide) dX7_reverse_9 ?_
    refine x_FV (w1 := ([] : va_W)) (wc := (wMo g am s fi tx dm th sa ln pa le sk nu h)) (w2 := ([] : va_W)) [.int 0] [] (wMo g am s fi tx dm 0 sa ln pa le sk nu h) C (k_X7_holds l g am s fi tx dm th sa ln pa le sk nu h 0) rfl yV_X7_holds wML_X7_99 rfl 0 rfl rfl rfl rfl (nle rfl) (nle rfl) (nle rfl) (nle rfl) (nle rfl) dX7_reverse_13 ?_
    refine x_st (st' := [.int 1]) (by rw [show (sp_X7_holds 0) = 1 from by decide]) ?_
    refine x_if_eq C 44 (by decide) dX7_reverse_16 (fun hz => absurd hz (by decide)) (fun _ => ?_)
    refine x_aload_n C 0 rfl rfl dX7_reverse_19 ?_
    have h1l := in_le h1 (by decide) (show (5 : Int32) = nI 5 from rfl) (by decide)
    refine x_iload_n C 1 rfl rfl dX7_reverse_20 ?_
    refine x_iconst C 0 (by decide) dX7_reverse_21 ?_
    refine x_FS (w1 := ([] : va_W)) (wc := ([] : va_W)) (w2 := (wMo g am s fi tx dm 0 sa ln pa le sk nu h)) [.int a, .int 0] [.ref (am 0)] (wMo g am s fi tx dm 0 sa ln pa le sk nu h) C (k_X7_place l g a (Int32.toNatClampNeg a) (in_nat h1 (by decide)) 0 0 rfl) rfl yS_X7_place wML_X7_114 rfl rfl rfl (nle rfl) (nle rfl) (nle rfl) (nle rfl) (nle rfl) dX7_reverse_22 ?_
    refine x_iconst C 1 (by decide) dX7_reverse_25 ?_
    refine x_aload_n C 0 rfl rfl dX7_reverse_26 ?_
    refine x_iconst C 0 (by decide) dX7_reverse_27 ?_
    have h1l := in_le h1 (by decide) (show (5 : Int32) = nI 5 from rfl) (by decide)
    refine x_iload_n C 1 rfl rfl dX7_reverse_28 ?_
    refine x_iconst C 0 (by decide) dX7_reverse_29 ?_
    refine x_FV (w1 := ([] : va_W)) (wc := (wMo g am s fi tx dm 0 sa ln pa le sk nu h)) (w2 := ([] : va_W)) [.int 0, .int a, .int 0] [.int 1, .int (nI (87 + 10 * (Int32.toNatClampNeg a) + 0)), .ref (am 0)] (wMo g am s fi tx dm 0 sa ln pa le sk nu h) C (k_X7_of l g am s fi tx dm 0 sa ln pa le sk nu h 0 0 rfl a (Int32.toNatClampNeg a) (in_nat h1 (by decide)) 0 0 rfl (by omega)) rfl yV_X7_of wML_X7_57 rfl 0 rfl rfl rfl rfl (nle rfl) (nle rfl) (nle rfl) (nle rfl) (nle rfl) dX7_reverse_30 ?_
    refine x_isub C dX7_reverse_33 ?_
    refine x_FV (w1 := ([] : va_W)) (wc := (wMo g am s fi tx dm 0 sa ln pa le sk nu h)) (w2 := ([] : va_W)) [.int (nI (87 + 10 * (Int32.toNatClampNeg a) + 0)), .int (1 - (s (0 + 87 + 10 * (Int32.toNatClampNeg a) + 0)))] [] (wMo g am (upd (sp_X7_save_s s sa) (87 + 10 * (Int32.toNatClampNeg a) + 0) (1 - (s (0 + 87 + 10 * (Int32.toNatClampNeg a) + 0)))) fi tx dm 0 (sp_X7_save_sa sa) ln pa le sk nu h) C (k_X7_changed l g am s fi tx dm 0 sa ln pa le sk nu h (nI (87 + 10 * (Int32.toNatClampNeg a) + 0)) (87 + 10 * (Int32.toNatClampNeg a) + 0) rfl (1 - (s (0 + 87 + 10 * (Int32.toNatClampNeg a) + 0))) hs hs6 (by omega)) rfl yV_X7_changed wML_X7_102 rfl 0 rfl rfl rfl rfl (nle rfl) (nle rfl) (nle rfl) (nle rfl) (nle rfl) dX7_reverse_34 ?_
    suffices K3 : xW p l e _ σ m args below meth c g.1 A 2 0 0 _ (wMo g am (upd (sp_X7_save_s s sa) (87 + 10 * (Int32.toNatClampNeg a) + 0) (1 - (s (0 + 87 + 10 * (Int32.toNatClampNeg a) + 0)))) fi tx dm 0 (sp_X7_save_sa sa) ln pa le sk nu h) [(0, .ref (am 0)), (1, .int a)] 45 [.int (if ((sp_X7_save_s s sa) (87 + 10 * (Int32.toNatClampNeg a) + 0)) = 0 then (1 : Int32) else 0)] by
      refine x_if_ne C 44 (by decide) dX7_reverse_37 (fun h2 => ?_) (fun h2 => ?_)
      · refine x_iconst C 0 (by decide) dX7_reverse_44 ?_
        refine x_st (st' := [.int (if ((sp_X7_save_s s sa) (87 + 10 * (Int32.toNatClampNeg a) + 0)) = 0 then (1 : Int32) else 0)]) (by simp only [if_neg h2]) ?_
        exact K3
      · refine x_iconst C 1 (by decide) dX7_reverse_40 ?_
        refine x_goto C 45 (by decide) dX7_reverse_41 ?_
        refine x_st (st' := [.int (if ((sp_X7_save_s s sa) (87 + 10 * (Int32.toNatClampNeg a) + 0)) = 0 then (1 : Int32) else 0)]) (by simp only [if_pos h2]) ?_
        exact K3
    exact x_zret C hr (xnz (bool_ite (Or.inr rfl) (Or.inl rfl))) (nle rfl) (nle rfl) dX7_reverse_45 ⟨(by first | (simp only [sp_X7_reverse, if_neg h1]; done) | (simp only [sp_X7_reverse, if_neg h1]; rfl)), (by first | (simp only [sp_X7_reverse_s, sp_X7_reverse_th, sp_X7_reverse_sa, if_neg h1]; done) | (simp only [sp_X7_reverse_s, sp_X7_reverse_th, sp_X7_reverse_sa, if_neg h1]; rfl))⟩
def sp_X7_setNeutral (s : Nat → Int32) (sa : Int32) (a : Int32) (b : Int32) : Int32 := (if (sp_X7_in a 0 5) = 0 then 0 else (if (sp_X7_in b (-50) 50) = 0 then 0 else ((sp_X7_save_s s sa) (87 + 10 * (Int32.toNatClampNeg a) + 1))))
def sp_X7_setNeutral_s (s : Nat → Int32) (sa : Int32) (a : Int32) (b : Int32) : Nat → Int32 := (if (sp_X7_in a 0 5) = 0 then s else (if (sp_X7_in b (-50) 50) = 0 then s else (upd (sp_X7_save_s s sa) (87 + 10 * (Int32.toNatClampNeg a) + 1) b)))
def sp_X7_setNeutral_th (a : Int32) (b : Int32) : Int32 := (if (sp_X7_in a 0 5) = 0 then 1 else (if (sp_X7_in b (-50) 50) = 0 then 2 else 0))
def sp_X7_setNeutral_sa (sa : Int32) (a : Int32) (b : Int32) : Int32 := (if (sp_X7_in a 0 5) = 0 then sa else (if (sp_X7_in b (-50) 50) = 0 then sa else (sp_X7_save_sa sa)))
set_option maxRecDepth 100000 in
theorem k_X7_setNeutral (l : Launch) (g : xGt) (am : Nat → Nat) (s fi tx dm : Nat → Int32) (th sa ln pa le sk nu : Int32) (h : Int64) (a : Int32) (b : Int32) (hs : sa = nI (Int32.toNatClampNeg sa)) (hs6 : Int32.toNatClampNeg sa ≤ 6) (hm : rOk s 0) : xM l g.1 (xT g) yX7_setNeutral (ws_ yX7_setNeutral cX7_setNeutral 3 (some .int)) (xRm 3 67 0 0) 0 0 [.ref (am 0), .int a, .int b] (wMo g am s fi tx dm th sa ln pa le sk nu h) (fun r9 w9 => r9 = some (.int (sp_X7_setNeutral s sa a b)) ∧ w9 = (wMo g am (sp_X7_setNeutral_s s sa a b) fi tx dm (sp_X7_setNeutral_th a b) (sp_X7_setNeutral_sa sa a b) ln pa le sk nu h)) (fun _ _ => False) := by
  refine x_start (own := RX7) (nm := "setNeutral") rfl rfl (by decide +kernel) rfl (nle rfl) (fun p e σ m args below meth c A C hno hr => ?_)
  refine x_lve (lv' := [(0, .ref (am 0)), (1, .int a), (2, .int b)]) rfl ?_
  refine x_aload_n C 0 rfl rfl dX7_setNeutral_0 ?_
  refine x_iload_n C 1 rfl rfl dX7_setNeutral_1 ?_
  refine x_FS (w1 := ([] : va_W)) (wc := ([] : va_W)) (w2 := (wMo g am s fi tx dm th sa ln pa le sk nu h)) [.int a] [.ref (am 0)] (wMo g am s fi tx dm th sa ln pa le sk nu h) C (k_X7_isServo l g a) rfl yS_X7_isServo wML_X7_105 rfl rfl rfl (nle rfl) (nle rfl) (nle rfl) (nle rfl) (nle rfl) dX7_setNeutral_2 ?_
  refine x_if_ne C 12 (by decide) dX7_setNeutral_5 (fun h1 => ?_) (fun h1 => ?_)
  · refine x_iload_n C 2 rfl rfl dX7_setNeutral_12 ?_
    refine x_bipush C (-50) (by decide) dX7_setNeutral_13 ?_
    refine x_bipush C 50 (by decide) dX7_setNeutral_15 ?_
    refine x_FS (w1 := ([] : va_W)) (wc := ([] : va_W)) (w2 := (wMo g am s fi tx dm th sa ln pa le sk nu h)) [.int b, .int (-50), .int 50] [.ref (am 0)] (wMo g am s fi tx dm th sa ln pa le sk nu h) C (k_X7_in l g b (-50) 50) rfl yS_X7_in wML_X7_35 rfl rfl rfl (nle rfl) (nle rfl) (nle rfl) (nle rfl) (nle rfl) dX7_setNeutral_17 ?_
    refine x_if_ne C 27 (by decide) dX7_setNeutral_20 (fun h2 => ?_) (fun h2 => ?_)
    · refine x_iconst C 0 (by decide) dX7_setNeutral_27 ?_
      refine x_FV (w1 := ([] : va_W)) (wc := (wMo g am s fi tx dm th sa ln pa le sk nu h)) (w2 := ([] : va_W)) [.int 0] [] (wMo g am s fi tx dm 0 sa ln pa le sk nu h) C (k_X7_holds l g am s fi tx dm th sa ln pa le sk nu h 0) rfl yV_X7_holds wML_X7_99 rfl 0 rfl rfl rfl rfl (nle rfl) (nle rfl) (nle rfl) (nle rfl) (nle rfl) dX7_setNeutral_28 ?_
      refine x_st (st' := [.int 1]) (by rw [show (sp_X7_holds 0) = 1 from by decide]) ?_
      refine x_if_eq C 47 (by decide) dX7_setNeutral_31 (fun hz => absurd hz (by decide)) (fun _ => ?_)
      refine x_aload_n C 0 rfl rfl dX7_setNeutral_34 ?_
      have h1l := in_le h1 (by decide) (show (5 : Int32) = nI 5 from rfl) (by decide)
      refine x_iload_n C 1 rfl rfl dX7_setNeutral_35 ?_
      refine x_iconst C 1 (by decide) dX7_setNeutral_36 ?_
      refine x_FS (w1 := ([] : va_W)) (wc := ([] : va_W)) (w2 := (wMo g am s fi tx dm 0 sa ln pa le sk nu h)) [.int a, .int 1] [.ref (am 0)] (wMo g am s fi tx dm 0 sa ln pa le sk nu h) C (k_X7_place l g a (Int32.toNatClampNeg a) (in_nat h1 (by decide)) 1 1 rfl) rfl yS_X7_place wML_X7_114 rfl rfl rfl (nle rfl) (nle rfl) (nle rfl) (nle rfl) (nle rfl) dX7_setNeutral_37 ?_
      refine x_iload_n C 2 rfl rfl dX7_setNeutral_40 ?_
      refine x_FV (w1 := ([] : va_W)) (wc := (wMo g am s fi tx dm 0 sa ln pa le sk nu h)) (w2 := ([] : va_W)) [.int (nI (87 + 10 * (Int32.toNatClampNeg a) + 1)), .int b] [] (wMo g am (upd (sp_X7_save_s s sa) (87 + 10 * (Int32.toNatClampNeg a) + 1) b) fi tx dm 0 (sp_X7_save_sa sa) ln pa le sk nu h) C (k_X7_changed l g am s fi tx dm 0 sa ln pa le sk nu h (nI (87 + 10 * (Int32.toNatClampNeg a) + 1)) (87 + 10 * (Int32.toNatClampNeg a) + 1) rfl b hs hs6 (by omega)) rfl yV_X7_changed wML_X7_102 rfl 0 rfl rfl rfl rfl (nle rfl) (nle rfl) (nle rfl) (nle rfl) (nle rfl) dX7_setNeutral_41 ?_
      refine x_goto C 48 (by decide) dX7_setNeutral_44 ?_
      exact x_iret C hr (nle rfl) (nle rfl) dX7_setNeutral_48 ⟨(by first | (simp only [sp_X7_setNeutral, if_neg h1, if_neg h2]; done) | (simp only [sp_X7_setNeutral, if_neg h1, if_neg h2]; rfl)), (by first | (simp only [sp_X7_setNeutral_s, sp_X7_setNeutral_th, sp_X7_setNeutral_sa, if_neg h1, if_neg h2]; done) | (simp only [sp_X7_setNeutral_s, sp_X7_setNeutral_th, sp_X7_setNeutral_sa, if_neg h1, if_neg h2]; rfl))⟩
    · refine x_iconst C 2 (by decide) dX7_setNeutral_23 ?_
      refine x_goto C 28 (by decide) dX7_setNeutral_24 ?_
      refine x_FV (w1 := ([] : va_W)) (wc := (wMo g am s fi tx dm th sa ln pa le sk nu h)) (w2 := ([] : va_W)) [.int 2] [] (wMo g am s fi tx dm 2 sa ln pa le sk nu h) C (k_X7_holds l g am s fi tx dm th sa ln pa le sk nu h 2) rfl yV_X7_holds wML_X7_99 rfl 0 rfl rfl rfl rfl (nle rfl) (nle rfl) (nle rfl) (nle rfl) (nle rfl) dX7_setNeutral_28 ?_
      refine x_st (st' := [.int 0]) (by rw [show (sp_X7_holds 2) = 0 from by decide]) ?_
      refine x_if_eq C 47 (by decide) dX7_setNeutral_31 (fun _ => ?_) (fun hz => absurd (by decide) hz)
      refine x_iconst C 0 (by decide) dX7_setNeutral_47 ?_
      exact x_iret C hr (nle rfl) (nle rfl) dX7_setNeutral_48 ⟨(by first | (simp only [sp_X7_setNeutral, if_neg h1, if_pos h2]; done) | (simp only [sp_X7_setNeutral, if_neg h1, if_pos h2]; rfl)), (by first | (simp only [sp_X7_setNeutral_s, sp_X7_setNeutral_th, sp_X7_setNeutral_sa, if_neg h1, if_pos h2]; done) | (simp only [sp_X7_setNeutral_s, sp_X7_setNeutral_th, sp_X7_setNeutral_sa, if_neg h1, if_pos h2]; rfl))⟩
  · refine x_iconst C 1 (by decide) dX7_setNeutral_8 ?_
    refine x_goto C 28 (by decide) dX7_setNeutral_9 ?_
    refine x_FV (w1 := ([] : va_W)) (wc := (wMo g am s fi tx dm th sa ln pa le sk nu h)) (w2 := ([] : va_W)) [.int 1] [] (wMo g am s fi tx dm 1 sa ln pa le sk nu h) C (k_X7_holds l g am s fi tx dm th sa ln pa le sk nu h 1) rfl yV_X7_holds wML_X7_99 rfl 0 rfl rfl rfl rfl (nle rfl) (nle rfl) (nle rfl) (nle rfl) (nle rfl) dX7_setNeutral_28 ?_
    refine x_st (st' := [.int 0]) (by rw [show (sp_X7_holds 1) = 0 from by decide]) ?_
    refine x_if_eq C 47 (by decide) dX7_setNeutral_31 (fun _ => ?_) (fun hz => absurd (by decide) hz)
    refine x_iconst C 0 (by decide) dX7_setNeutral_47 ?_
    exact x_iret C hr (nle rfl) (nle rfl) dX7_setNeutral_48 ⟨(by first | (simp only [sp_X7_setNeutral, if_pos h1]; done) | (simp only [sp_X7_setNeutral, if_pos h1]; rfl)), (by first | (simp only [sp_X7_setNeutral_s, sp_X7_setNeutral_th, sp_X7_setNeutral_sa, if_pos h1]; done) | (simp only [sp_X7_setNeutral_s, sp_X7_setNeutral_th, sp_X7_setNeutral_sa, if_pos h1]; rfl))⟩
def sp_X7_setLimits (s : Nat → Int32) (sa : Int32) (a : Int32) (b : Int32) (c_ : Int32) : Int32 := (if (sp_X7_in a 0 5) = 0 then 0 else (if (sp_X7_in b (-150) 0) = 0 then 0 else (if (sp_X7_in c_ 0 150) = 0 then 0 else (((sp_X7_save_s s sa) (0 + 87 + 10 * (Int32.toNatClampNeg a) + 3)) - ((sp_X7_save_s s sa) (0 + 87 + 10 * (Int32.toNatClampNeg a) + 2))))))
def sp_X7_setLimits_s (s : Nat → Int32) (sa : Int32) (a : Int32) (b : Int32) (c_ : Int32) : Nat → Int32 := (if (sp_X7_in a 0 5) = 0 then s else (if (sp_X7_in b (-150) 0) = 0 then s else (if (sp_X7_in c_ 0 150) = 0 then s else (upd (upd (sp_X7_save_s s sa) (0 + 87 + 10 * (Int32.toNatClampNeg a) + 2) b) (0 + 87 + 10 * (Int32.toNatClampNeg a) + 3) c_))))
def sp_X7_setLimits_th (a : Int32) (b : Int32) (c_ : Int32) : Int32 := (if (sp_X7_in a 0 5) = 0 then 1 else (if (sp_X7_in b (-150) 0) = 0 then 2 else (if (sp_X7_in c_ 0 150) = 0 then 2 else 0)))
def sp_X7_setLimits_sa (sa : Int32) (a : Int32) (b : Int32) (c_ : Int32) : Int32 := (if (sp_X7_in a 0 5) = 0 then sa else (if (sp_X7_in b (-150) 0) = 0 then sa else (if (sp_X7_in c_ 0 150) = 0 then sa else (sp_X7_save_sa sa))))
set_option maxRecDepth 100000 in
theorem k_X7_setLimits (l : Launch) (g : xGt) (am : Nat → Nat) (s fi tx dm : Nat → Int32) (th sa ln pa le sk nu : Int32) (h : Int64) (a : Int32) (b : Int32) (c_ : Int32) (hs : sa = nI (Int32.toNatClampNeg sa)) (hs6 : Int32.toNatClampNeg sa ≤ 6) (hm : rOk s 0) : xM l g.1 (xT g) yX7_setLimits (ws_ yX7_setLimits cX7_setLimits 5 (some .int)) (xRm 2 44 0 0) 0 0 [.ref (am 0), .int a, .int b, .int c_] (wMo g am s fi tx dm th sa ln pa le sk nu h) (fun r9 w9 => r9 = some (.int (sp_X7_setLimits s sa a b c_)) ∧ w9 = (wMo g am (sp_X7_setLimits_s s sa a b c_) fi tx dm (sp_X7_setLimits_th a b c_) (sp_X7_setLimits_sa sa a b c_) ln pa le sk nu h)) (fun _ _ => False) := by
  refine x_start (own := RX7) (nm := "setLimits") rfl rfl (by decide +kernel) rfl (nle rfl) (fun p e σ m args below meth c A C hno hr => ?_)
  refine x_lve (lv' := [(0, .ref (am 0)), (1, .int a), (2, .int b), (3, .int c_)]) rfl ?_
  refine x_aload_n C 0 rfl rfl dX7_setLimits_0 ?_
  refine x_iload_n C 1 rfl rfl dX7_setLimits_1 ?_
  refine x_FS (w1 := ([] : va_W)) (wc := ([] : va_W)) (w2 := (wMo g am s fi tx dm th sa ln pa le sk nu h)) [.int a] [.ref (am 0)] (wMo g am s fi tx dm th sa ln pa le sk nu h) C (k_X7_isServo l g a) rfl yS_X7_isServo wML_X7_105 rfl rfl rfl (nle rfl) (nle rfl) (nle rfl) (nle rfl) (nle rfl) dX7_setLimits_2 ?_
  refine x_if_ne C 12 (by decide) dX7_setLimits_5 (fun h1 => ?_) (fun h1 => ?_)
  · refine x_iload_n C 2 rfl rfl dX7_setLimits_12 ?_
    refine x_sipush C (-150) (by decide) dX7_setLimits_13 ?_
    refine x_iconst C 0 (by decide) dX7_setLimits_16 ?_
    refine x_FS (w1 := ([] : va_W)) (wc := ([] : va_W)) (w2 := (wMo g am s fi tx dm th sa ln pa le sk nu h)) [.int b, .int (-150), .int 0] [.ref (am 0)] (wMo g am s fi tx dm th sa ln pa le sk nu h) C (k_X7_in l g b (-150) 0) rfl yS_X7_in wML_X7_35 rfl rfl rfl (nle rfl) (nle rfl) (nle rfl) (nle rfl) (nle rfl) dX7_setLimits_17 ?_
    refine x_if_eq C 34 (by decide) dX7_setLimits_20 (fun h2 => ?_) (fun h2 => ?_)
    · refine x_iconst C 2 (by decide) dX7_setLimits_34 ?_
      refine x_goto C 39 (by decide) dX7_setLimits_35 ?_
      refine x_FV (w1 := ([] : va_W)) (wc := (wMo g am s fi tx dm th sa ln pa le sk nu h)) (w2 := ([] : va_W)) [.int 2] [] (wMo g am s fi tx dm 2 sa ln pa le sk nu h) C (k_X7_holds l g am s fi tx dm th sa ln pa le sk nu h 2) rfl yV_X7_holds wML_X7_99 rfl 0 rfl rfl rfl rfl (nle rfl) (nle rfl) (nle rfl) (nle rfl) (nle rfl) dX7_setLimits_39 ?_
      refine x_st (st' := [.int 0]) (by rw [show (sp_X7_holds 2) = 0 from by decide]) ?_
      refine x_if_ne C 47 (by decide) dX7_setLimits_42 (fun hz => absurd (by decide) hz) (fun _ => ?_)
      refine x_iconst C 0 (by decide) dX7_setLimits_45 ?_
      exact x_iret C hr (nle rfl) (nle rfl) dX7_setLimits_46 ⟨(by first | (simp only [sp_X7_setLimits, if_neg h1, if_pos h2]; done) | (simp only [sp_X7_setLimits, if_neg h1, if_pos h2]; rfl)), (by first | (simp only [sp_X7_setLimits_s, sp_X7_setLimits_th, sp_X7_setLimits_sa, if_neg h1, if_pos h2]; done) | (simp only [sp_X7_setLimits_s, sp_X7_setLimits_th, sp_X7_setLimits_sa, if_neg h1, if_pos h2]; rfl))⟩
    · refine x_iload_n C 3 rfl rfl dX7_setLimits_23 ?_
      refine x_iconst C 0 (by decide) dX7_setLimits_24 ?_
      refine x_sipush C 150 (by decide) dX7_setLimits_25 ?_
      refine x_FS (w1 := ([] : va_W)) (wc := ([] : va_W)) (w2 := (wMo g am s fi tx dm th sa ln pa le sk nu h)) [.int c_, .int 0, .int 150] [.ref (am 0)] (wMo g am s fi tx dm th sa ln pa le sk nu h) C (k_X7_in l g c_ 0 150) rfl yS_X7_in wML_X7_35 rfl rfl rfl (nle rfl) (nle rfl) (nle rfl) (nle rfl) (nle rfl) dX7_setLimits_28 ?_
      refine x_if_ne C 38 (by decide) dX7_setLimits_31 (fun h3 => ?_) (fun h3 => ?_)
      · refine x_iconst C 0 (by decide) dX7_setLimits_38 ?_
        refine x_FV (w1 := ([] : va_W)) (wc := (wMo g am s fi tx dm th sa ln pa le sk nu h)) (w2 := ([] : va_W)) [.int 0] [] (wMo g am s fi tx dm 0 sa ln pa le sk nu h) C (k_X7_holds l g am s fi tx dm th sa ln pa le sk nu h 0) rfl yV_X7_holds wML_X7_99 rfl 0 rfl rfl rfl rfl (nle rfl) (nle rfl) (nle rfl) (nle rfl) (nle rfl) dX7_setLimits_39 ?_
        refine x_st (st' := [.int 1]) (by rw [show (sp_X7_holds 0) = 1 from by decide]) ?_
        refine x_if_ne C 47 (by decide) dX7_setLimits_42 (fun _ => ?_) (fun hz => absurd hz (by decide))
        refine x_aload_n C 0 rfl rfl dX7_setLimits_47 ?_
        refine x_GV (w1 := ([] : va_W)) (wc := (wMo g am s fi tx dm 0 sa ln pa le sk nu h)) (w2 := ([] : va_W)) [] [] (wMo g am (sp_X7_save_s s sa) fi tx dm 0 (sp_X7_save_sa sa) ln pa le sk nu h) C (k_X7_save l g am s fi tx dm 0 sa ln pa le sk nu h hs hs6) rfl yV_X7_save wML_X7_92 rfl 0 rfl rfl rfl rfl (nle rfl) (nle rfl) (nle rfl) (nle rfl) (nle rfl) dX7_setLimits_48 ?_
        refine x_aload_n C 0 rfl rfl dX7_setLimits_51 ?_
        refine x_iconst C 0 (by decide) dX7_setLimits_52 ?_
        have h1l := in_le h1 (by decide) (show (5 : Int32) = nI 5 from rfl) (by decide)
        refine x_iload_n C 1 rfl rfl dX7_setLimits_53 ?_
        refine x_iconst C 3 (by decide) dX7_setLimits_54 ?_
        refine x_FV (w1 := ([] : va_W)) (wc := (wMo g am (sp_X7_save_s s sa) fi tx dm 0 (sp_X7_save_sa sa) ln pa le sk nu h)) (w2 := ([] : va_W)) [.int 0, .int a, .int 3] [] (wMo g am (sp_X7_save_s s sa) fi tx dm 0 (sp_X7_save_sa sa) ln pa le sk nu h) C (k_X7_of l g am (sp_X7_save_s s sa) fi tx dm 0 (sp_X7_save_sa sa) ln pa le sk nu h 0 0 rfl a (Int32.toNatClampNeg a) (in_nat h1 (by decide)) 3 3 rfl (by omega)) rfl yV_X7_of wML_X7_57 rfl 0 rfl rfl rfl rfl (nle rfl) (nle rfl) (nle rfl) (nle rfl) (nle rfl) dX7_setLimits_55 ?_
        refine x_aload_n C 0 rfl rfl dX7_setLimits_58 ?_
        refine x_iconst C 0 (by decide) dX7_setLimits_59 ?_
        have h1l := in_le h1 (by decide) (show (5 : Int32) = nI 5 from rfl) (by decide)
        refine x_iload_n C 1 rfl rfl dX7_setLimits_60 ?_
        refine x_iconst C 2 (by decide) dX7_setLimits_61 ?_
        refine x_FV (w1 := ([] : va_W)) (wc := (wMo g am (sp_X7_save_s s sa) fi tx dm 0 (sp_X7_save_sa sa) ln pa le sk nu h)) (w2 := ([] : va_W)) [.int 0, .int a, .int 2] [.int ((sp_X7_save_s s sa) (0 + 87 + 10 * (Int32.toNatClampNeg a) + 3))] (wMo g am (sp_X7_save_s s sa) fi tx dm 0 (sp_X7_save_sa sa) ln pa le sk nu h) C (k_X7_of l g am (sp_X7_save_s s sa) fi tx dm 0 (sp_X7_save_sa sa) ln pa le sk nu h 0 0 rfl a (Int32.toNatClampNeg a) (in_nat h1 (by decide)) 2 2 rfl (by omega)) rfl yV_X7_of wML_X7_57 rfl 0 rfl rfl rfl rfl (nle rfl) (nle rfl) (nle rfl) (nle rfl) (nle rfl) dX7_setLimits_62 ?_
        refine x_isub C dX7_setLimits_65 ?_
        refine x_istore C [(4, .int (((sp_X7_save_s s sa) (0 + 87 + 10 * (Int32.toNatClampNeg a) + 3)) - ((sp_X7_save_s s sa) (0 + 87 + 10 * (Int32.toNatClampNeg a) + 2)))), (0, .ref (am 0)), (1, .int a), (2, .int b), (3, .int c_)] rfl (by decide) dX7_setLimits_66 ?_
        refine x_aload_n C 1 rfl rfl dX7_setLimits_68 ?_
        refine x_iconst C 0 (by decide) dX7_setLimits_69 ?_
        have h1l := in_le h1 (by decide) (show (5 : Int32) = nI 5 from rfl) (by decide)
        refine x_iload_n C 2 rfl rfl dX7_setLimits_70 ?_
        refine x_iconst C 2 (by decide) dX7_setLimits_71 ?_
        refine x_iload_n C 3 rfl rfl dX7_setLimits_72 ?_
        refine x_GV (w1 := ([] : va_W)) (wc := (wMo g am (sp_X7_save_s s sa) fi tx dm 0 (sp_X7_save_sa sa) ln pa le sk nu h)) (w2 := ([] : va_W)) [.int 0, .int a, .int 2, .int b] [] (wMo g am (upd (sp_X7_save_s s sa) (0 + 87 + 10 * (Int32.toNatClampNeg a) + 2) b) fi tx dm 0 (sp_X7_save_sa sa) ln pa le sk nu h) C (k_X7_lay l g am (sp_X7_save_s s sa) fi tx dm 0 (sp_X7_save_sa sa) ln pa le sk nu h 0 0 rfl a (Int32.toNatClampNeg a) (in_nat h1 (by decide)) 2 2 rfl b (by omega)) rfl yV_X7_lay wML_X7_27 rfl 0 rfl rfl rfl rfl (nle rfl) (nle rfl) (nle rfl) (nle rfl) (nle rfl) dX7_setLimits_73 ?_
        refine x_aload_n C 1 rfl rfl dX7_setLimits_76 ?_
        refine x_iconst C 0 (by decide) dX7_setLimits_77 ?_
        have h1l := in_le h1 (by decide) (show (5 : Int32) = nI 5 from rfl) (by decide)
        refine x_iload_n C 2 rfl rfl dX7_setLimits_78 ?_
        refine x_iconst C 3 (by decide) dX7_setLimits_79 ?_
        have h3l := in_le h3 (by decide) (show (150 : Int32) = nI 150 from rfl) (by decide)
        refine x_iload_n C 4 rfl rfl dX7_setLimits_80 ?_
        refine x_GV (w1 := ([] : va_W)) (wc := (wMo g am (upd (sp_X7_save_s s sa) (0 + 87 + 10 * (Int32.toNatClampNeg a) + 2) b) fi tx dm 0 (sp_X7_save_sa sa) ln pa le sk nu h)) (w2 := ([] : va_W)) [.int 0, .int a, .int 3, .int c_] [] (wMo g am (upd (upd (sp_X7_save_s s sa) (0 + 87 + 10 * (Int32.toNatClampNeg a) + 2) b) (0 + 87 + 10 * (Int32.toNatClampNeg a) + 3) c_) fi tx dm 0 (sp_X7_save_sa sa) ln pa le sk nu h) C (k_X7_lay l g am (upd (sp_X7_save_s s sa) (0 + 87 + 10 * (Int32.toNatClampNeg a) + 2) b) fi tx dm 0 (sp_X7_save_sa sa) ln pa le sk nu h 0 0 rfl a (Int32.toNatClampNeg a) (in_nat h1 (by decide)) 3 3 rfl c_ (by omega)) rfl yV_X7_lay wML_X7_27 rfl 0 rfl rfl rfl rfl (nle rfl) (nle rfl) (nle rfl) (nle rfl) (nle rfl) dX7_setLimits_81 ?_
        refine x_iload C 0 rfl dX7_setLimits_84 ?_
        exact x_iret C hr (nle rfl) (nle rfl) dX7_setLimits_86 ⟨(by first | (simp only [sp_X7_setLimits, if_neg h1, if_neg h2, if_neg h3]; done) | (simp only [sp_X7_setLimits, if_neg h1, if_neg h2, if_neg h3]; rfl)), (by first | (simp only [sp_X7_setLimits_s, sp_X7_setLimits_th, sp_X7_setLimits_sa, if_neg h1, if_neg h2, if_neg h3]; done) | (simp only [sp_X7_setLimits_s, sp_X7_setLimits_th, sp_X7_setLimits_sa, if_neg h1, if_neg h2, if_neg h3]; rfl))⟩
      · refine x_iconst C 2 (by decide) dX7_setLimits_34 ?_
        refine x_goto C 39 (by decide) dX7_setLimits_35 ?_
        refine x_FV (w1 := ([] : va_W)) (wc := (wMo g am s fi tx dm th sa ln pa le sk nu h)) (w2 := ([] : va_W)) [.int 2] [] (wMo g am s fi tx dm 2 sa ln pa le sk nu h) C (k_X7_holds l g am s fi tx dm th sa ln pa le sk nu h 2) rfl yV_X7_holds wML_X7_99 rfl 0 rfl rfl rfl rfl (nle rfl) (nle rfl) (nle rfl) (nle rfl) (nle rfl) dX7_setLimits_39 ?_
        refine x_st (st' := [.int 0]) (by rw [show (sp_X7_holds 2) = 0 from by decide]) ?_
        refine x_if_ne C 47 (by decide) dX7_setLimits_42 (fun hz => absurd (by decide) hz) (fun _ => ?_)
        refine x_iconst C 0 (by decide) dX7_setLimits_45 ?_
        exact x_iret C hr (nle rfl) (nle rfl) dX7_setLimits_46 ⟨(by first | (simp only [sp_X7_setLimits, if_neg h1, if_neg h2, if_pos h3]; done) | (simp only [sp_X7_setLimits, if_neg h1, if_neg h2, if_pos h3]; rfl)), (by first | (simp only [sp_X7_setLimits_s, sp_X7_setLimits_th, sp_X7_setLimits_sa, if_neg h1, if_neg h2, if_pos h3]; done) | (simp only [sp_X7_setLimits_s, sp_X7_setLimits_th, sp_X7_setLimits_sa, if_neg h1, if_neg h2, if_pos h3]; rfl))⟩
  · refine x_iconst C 1 (by decide) dX7_setLimits_8 ?_
    refine x_goto C 39 (by decide) dX7_setLimits_9 ?_
    refine x_FV (w1 := ([] : va_W)) (wc := (wMo g am s fi tx dm th sa ln pa le sk nu h)) (w2 := ([] : va_W)) [.int 1] [] (wMo g am s fi tx dm 1 sa ln pa le sk nu h) C (k_X7_holds l g am s fi tx dm th sa ln pa le sk nu h 1) rfl yV_X7_holds wML_X7_99 rfl 0 rfl rfl rfl rfl (nle rfl) (nle rfl) (nle rfl) (nle rfl) (nle rfl) dX7_setLimits_39 ?_
    refine x_st (st' := [.int 0]) (by rw [show (sp_X7_holds 1) = 0 from by decide]) ?_
    refine x_if_ne C 47 (by decide) dX7_setLimits_42 (fun hz => absurd (by decide) hz) (fun _ => ?_)
    refine x_iconst C 0 (by decide) dX7_setLimits_45 ?_
    exact x_iret C hr (nle rfl) (nle rfl) dX7_setLimits_46 ⟨(by first | (simp only [sp_X7_setLimits, if_pos h1]; done) | (simp only [sp_X7_setLimits, if_pos h1]; rfl)), (by first | (simp only [sp_X7_setLimits_s, sp_X7_setLimits_th, sp_X7_setLimits_sa, if_pos h1]; done) | (simp only [sp_X7_setLimits_s, sp_X7_setLimits_th, sp_X7_setLimits_sa, if_pos h1]; rfl))⟩
def sp_X7_setSpeed (s : Nat → Int32) (sa : Int32) (a : Int32) (b : Int32) : Int32 := (if (sp_X7_in a 0 5) = 0 then 0 else (if (sp_X7_in b 1 300) = 0 then 0 else ((sp_X7_save_s s sa) (87 + 10 * (Int32.toNatClampNeg a) + 4))))
def sp_X7_setSpeed_s (s : Nat → Int32) (sa : Int32) (a : Int32) (b : Int32) : Nat → Int32 := (if (sp_X7_in a 0 5) = 0 then s else (if (sp_X7_in b 1 300) = 0 then s else (upd (sp_X7_save_s s sa) (87 + 10 * (Int32.toNatClampNeg a) + 4) b)))
def sp_X7_setSpeed_th (a : Int32) (b : Int32) : Int32 := (if (sp_X7_in a 0 5) = 0 then 1 else (if (sp_X7_in b 1 300) = 0 then 2 else 0))
def sp_X7_setSpeed_sa (sa : Int32) (a : Int32) (b : Int32) : Int32 := (if (sp_X7_in a 0 5) = 0 then sa else (if (sp_X7_in b 1 300) = 0 then sa else (sp_X7_save_sa sa)))
set_option maxRecDepth 100000 in
theorem k_X7_setSpeed (l : Launch) (g : xGt) (am : Nat → Nat) (s fi tx dm : Nat → Int32) (th sa ln pa le sk nu : Int32) (h : Int64) (a : Int32) (b : Int32) (hs : sa = nI (Int32.toNatClampNeg sa)) (hs6 : Int32.toNatClampNeg sa ≤ 6) (hm : rOk s 0) : xM l g.1 (xT g) yX7_setSpeed (ws_ yX7_setSpeed cX7_setSpeed 3 (some .int)) (xRm 3 67 0 0) 0 0 [.ref (am 0), .int a, .int b] (wMo g am s fi tx dm th sa ln pa le sk nu h) (fun r9 w9 => r9 = some (.int (sp_X7_setSpeed s sa a b)) ∧ w9 = (wMo g am (sp_X7_setSpeed_s s sa a b) fi tx dm (sp_X7_setSpeed_th a b) (sp_X7_setSpeed_sa sa a b) ln pa le sk nu h)) (fun _ _ => False) := by
  refine x_start (own := RX7) (nm := "setSpeed") rfl rfl (by decide +kernel) rfl (nle rfl) (fun p e σ m args below meth c A C hno hr => ?_)
  refine x_lve (lv' := [(0, .ref (am 0)), (1, .int a), (2, .int b)]) rfl ?_
  refine x_aload_n C 0 rfl rfl dX7_setSpeed_0 ?_
  refine x_iload_n C 1 rfl rfl dX7_setSpeed_1 ?_
  refine x_FS (w1 := ([] : va_W)) (wc := ([] : va_W)) (w2 := (wMo g am s fi tx dm th sa ln pa le sk nu h)) [.int a] [.ref (am 0)] (wMo g am s fi tx dm th sa ln pa le sk nu h) C (k_X7_isServo l g a) rfl yS_X7_isServo wML_X7_105 rfl rfl rfl (nle rfl) (nle rfl) (nle rfl) (nle rfl) (nle rfl) dX7_setSpeed_2 ?_
  refine x_if_ne C 12 (by decide) dX7_setSpeed_5 (fun h1 => ?_) (fun h1 => ?_)
  · refine x_iload_n C 2 rfl rfl dX7_setSpeed_12 ?_
    refine x_iconst C 1 (by decide) dX7_setSpeed_13 ?_
    refine x_sipush C 300 (by decide) dX7_setSpeed_14 ?_
    refine x_FS (w1 := ([] : va_W)) (wc := ([] : va_W)) (w2 := (wMo g am s fi tx dm th sa ln pa le sk nu h)) [.int b, .int 1, .int 300] [.ref (am 0)] (wMo g am s fi tx dm th sa ln pa le sk nu h) C (k_X7_in l g b 1 300) rfl yS_X7_in wML_X7_35 rfl rfl rfl (nle rfl) (nle rfl) (nle rfl) (nle rfl) (nle rfl) dX7_setSpeed_17 ?_
    refine x_if_ne C 27 (by decide) dX7_setSpeed_20 (fun h2 => ?_) (fun h2 => ?_)
    · refine x_iconst C 0 (by decide) dX7_setSpeed_27 ?_
      refine x_FV (w1 := ([] : va_W)) (wc := (wMo g am s fi tx dm th sa ln pa le sk nu h)) (w2 := ([] : va_W)) [.int 0] [] (wMo g am s fi tx dm 0 sa ln pa le sk nu h) C (k_X7_holds l g am s fi tx dm th sa ln pa le sk nu h 0) rfl yV_X7_holds wML_X7_99 rfl 0 rfl rfl rfl rfl (nle rfl) (nle rfl) (nle rfl) (nle rfl) (nle rfl) dX7_setSpeed_28 ?_
      refine x_st (st' := [.int 1]) (by rw [show (sp_X7_holds 0) = 1 from by decide]) ?_
      refine x_if_eq C 47 (by decide) dX7_setSpeed_31 (fun hz => absurd hz (by decide)) (fun _ => ?_)
      refine x_aload_n C 0 rfl rfl dX7_setSpeed_34 ?_
      have h1l := in_le h1 (by decide) (show (5 : Int32) = nI 5 from rfl) (by decide)
      refine x_iload_n C 1 rfl rfl dX7_setSpeed_35 ?_
      refine x_iconst C 4 (by decide) dX7_setSpeed_36 ?_
      refine x_FS (w1 := ([] : va_W)) (wc := ([] : va_W)) (w2 := (wMo g am s fi tx dm 0 sa ln pa le sk nu h)) [.int a, .int 4] [.ref (am 0)] (wMo g am s fi tx dm 0 sa ln pa le sk nu h) C (k_X7_place l g a (Int32.toNatClampNeg a) (in_nat h1 (by decide)) 4 4 rfl) rfl yS_X7_place wML_X7_114 rfl rfl rfl (nle rfl) (nle rfl) (nle rfl) (nle rfl) (nle rfl) dX7_setSpeed_37 ?_
      have h2l := in_le h2 (by decide) (show (300 : Int32) = nI 300 from rfl) (by decide)
      refine x_iload_n C 2 rfl rfl dX7_setSpeed_40 ?_
      refine x_FV (w1 := ([] : va_W)) (wc := (wMo g am s fi tx dm 0 sa ln pa le sk nu h)) (w2 := ([] : va_W)) [.int (nI (87 + 10 * (Int32.toNatClampNeg a) + 4)), .int b] [] (wMo g am (upd (sp_X7_save_s s sa) (87 + 10 * (Int32.toNatClampNeg a) + 4) b) fi tx dm 0 (sp_X7_save_sa sa) ln pa le sk nu h) C (k_X7_changed l g am s fi tx dm 0 sa ln pa le sk nu h (nI (87 + 10 * (Int32.toNatClampNeg a) + 4)) (87 + 10 * (Int32.toNatClampNeg a) + 4) rfl b hs hs6 (by omega)) rfl yV_X7_changed wML_X7_102 rfl 0 rfl rfl rfl rfl (nle rfl) (nle rfl) (nle rfl) (nle rfl) (nle rfl) dX7_setSpeed_41 ?_
      refine x_goto C 48 (by decide) dX7_setSpeed_44 ?_
      exact x_iret C hr (nle rfl) (nle rfl) dX7_setSpeed_48 ⟨(by first | (simp only [sp_X7_setSpeed, if_neg h1, if_neg h2]; done) | (simp only [sp_X7_setSpeed, if_neg h1, if_neg h2]; rfl)), (by first | (simp only [sp_X7_setSpeed_s, sp_X7_setSpeed_th, sp_X7_setSpeed_sa, if_neg h1, if_neg h2]; done) | (simp only [sp_X7_setSpeed_s, sp_X7_setSpeed_th, sp_X7_setSpeed_sa, if_neg h1, if_neg h2]; rfl))⟩
    · refine x_iconst C 2 (by decide) dX7_setSpeed_23 ?_
      refine x_goto C 28 (by decide) dX7_setSpeed_24 ?_
      refine x_FV (w1 := ([] : va_W)) (wc := (wMo g am s fi tx dm th sa ln pa le sk nu h)) (w2 := ([] : va_W)) [.int 2] [] (wMo g am s fi tx dm 2 sa ln pa le sk nu h) C (k_X7_holds l g am s fi tx dm th sa ln pa le sk nu h 2) rfl yV_X7_holds wML_X7_99 rfl 0 rfl rfl rfl rfl (nle rfl) (nle rfl) (nle rfl) (nle rfl) (nle rfl) dX7_setSpeed_28 ?_
      refine x_st (st' := [.int 0]) (by rw [show (sp_X7_holds 2) = 0 from by decide]) ?_
      refine x_if_eq C 47 (by decide) dX7_setSpeed_31 (fun _ => ?_) (fun hz => absurd (by decide) hz)
      refine x_iconst C 0 (by decide) dX7_setSpeed_47 ?_
      exact x_iret C hr (nle rfl) (nle rfl) dX7_setSpeed_48 ⟨(by first | (simp only [sp_X7_setSpeed, if_neg h1, if_pos h2]; done) | (simp only [sp_X7_setSpeed, if_neg h1, if_pos h2]; rfl)), (by first | (simp only [sp_X7_setSpeed_s, sp_X7_setSpeed_th, sp_X7_setSpeed_sa, if_neg h1, if_pos h2]; done) | (simp only [sp_X7_setSpeed_s, sp_X7_setSpeed_th, sp_X7_setSpeed_sa, if_neg h1, if_pos h2]; rfl))⟩
  · refine x_iconst C 1 (by decide) dX7_setSpeed_8 ?_
    refine x_goto C 28 (by decide) dX7_setSpeed_9 ?_
    refine x_FV (w1 := ([] : va_W)) (wc := (wMo g am s fi tx dm th sa ln pa le sk nu h)) (w2 := ([] : va_W)) [.int 1] [] (wMo g am s fi tx dm 1 sa ln pa le sk nu h) C (k_X7_holds l g am s fi tx dm th sa ln pa le sk nu h 1) rfl yV_X7_holds wML_X7_99 rfl 0 rfl rfl rfl rfl (nle rfl) (nle rfl) (nle rfl) (nle rfl) (nle rfl) dX7_setSpeed_28 ?_
    refine x_st (st' := [.int 0]) (by rw [show (sp_X7_holds 1) = 0 from by decide]) ?_
    refine x_if_eq C 47 (by decide) dX7_setSpeed_31 (fun _ => ?_) (fun hz => absurd (by decide) hz)
    refine x_iconst C 0 (by decide) dX7_setSpeed_47 ?_
    exact x_iret C hr (nle rfl) (nle rfl) dX7_setSpeed_48 ⟨(by first | (simp only [sp_X7_setSpeed, if_pos h1]; done) | (simp only [sp_X7_setSpeed, if_pos h1]; rfl)), (by first | (simp only [sp_X7_setSpeed_s, sp_X7_setSpeed_th, sp_X7_setSpeed_sa, if_pos h1]; done) | (simp only [sp_X7_setSpeed_s, sp_X7_setSpeed_th, sp_X7_setSpeed_sa, if_pos h1]; rfl))⟩
def sp_X7_setFailsafe (s : Nat → Int32) (sa : Int32) (a : Int32) (b : Int32) (c_ : Int32) : Int32 := (if (sp_X7_in a 0 5) = 0 then 0 else (if (sp_X7_in b 0 2) = 0 then 0 else (if (sp_X7_in c_ (-150) 150) = 0 then 0 else ((sp_X7_save_s s sa) (0 + 87 + 10 * (Int32.toNatClampNeg a) + 5)))))
def sp_X7_setFailsafe_s (s : Nat → Int32) (sa : Int32) (a : Int32) (b : Int32) (c_ : Int32) : Nat → Int32 := (if (sp_X7_in a 0 5) = 0 then s else (if (sp_X7_in b 0 2) = 0 then s else (if (sp_X7_in c_ (-150) 150) = 0 then s else (upd (upd (sp_X7_save_s s sa) (0 + 87 + 10 * (Int32.toNatClampNeg a) + 5) b) (0 + 87 + 10 * (Int32.toNatClampNeg a) + 6) c_))))
def sp_X7_setFailsafe_th (a : Int32) (b : Int32) (c_ : Int32) : Int32 := (if (sp_X7_in a 0 5) = 0 then 1 else (if (sp_X7_in b 0 2) = 0 then 2 else (if (sp_X7_in c_ (-150) 150) = 0 then 2 else 0)))
def sp_X7_setFailsafe_sa (sa : Int32) (a : Int32) (b : Int32) (c_ : Int32) : Int32 := (if (sp_X7_in a 0 5) = 0 then sa else (if (sp_X7_in b 0 2) = 0 then sa else (if (sp_X7_in c_ (-150) 150) = 0 then sa else (sp_X7_save_sa sa))))
set_option maxRecDepth 100000 in
theorem k_X7_setFailsafe (l : Launch) (g : xGt) (am : Nat → Nat) (s fi tx dm : Nat → Int32) (th sa ln pa le sk nu : Int32) (h : Int64) (a : Int32) (b : Int32) (c_ : Int32) (hs : sa = nI (Int32.toNatClampNeg sa)) (hs6 : Int32.toNatClampNeg sa ≤ 6) (hm : rOk s 0) : xM l g.1 (xT g) yX7_setFailsafe (ws_ yX7_setFailsafe cX7_setFailsafe 5 (some .int)) (xRm 2 44 0 0) 0 0 [.ref (am 0), .int a, .int b, .int c_] (wMo g am s fi tx dm th sa ln pa le sk nu h) (fun r9 w9 => r9 = some (.int (sp_X7_setFailsafe s sa a b c_)) ∧ w9 = (wMo g am (sp_X7_setFailsafe_s s sa a b c_) fi tx dm (sp_X7_setFailsafe_th a b c_) (sp_X7_setFailsafe_sa sa a b c_) ln pa le sk nu h)) (fun _ _ => False) := by
  refine x_start (own := RX7) (nm := "setFailsafe") rfl rfl (by decide +kernel) rfl (nle rfl) (fun p e σ m args below meth c A C hno hr => ?_)
  refine x_lve (lv' := [(0, .ref (am 0)), (1, .int a), (2, .int b), (3, .int c_)]) rfl ?_
  refine x_aload_n C 0 rfl rfl dX7_setFailsafe_0 ?_
  refine x_iload_n C 1 rfl rfl dX7_setFailsafe_1 ?_
  refine x_FS (w1 := ([] : va_W)) (wc := ([] : va_W)) (w2 := (wMo g am s fi tx dm th sa ln pa le sk nu h)) [.int a] [.ref (am 0)] (wMo g am s fi tx dm th sa ln pa le sk nu h) C (k_X7_isServo l g a) rfl yS_X7_isServo wML_X7_105 rfl rfl rfl (nle rfl) (nle rfl) (nle rfl) (nle rfl) (nle rfl) dX7_setFailsafe_2 ?_
  refine x_if_ne C 12 (by decide) dX7_setFailsafe_5 (fun h1 => ?_) (fun h1 => ?_)
  · refine x_iload_n C 2 rfl rfl dX7_setFailsafe_12 ?_
    refine x_iconst C 0 (by decide) dX7_setFailsafe_13 ?_
    refine x_iconst C 2 (by decide) dX7_setFailsafe_14 ?_
    refine x_FS (w1 := ([] : va_W)) (wc := ([] : va_W)) (w2 := (wMo g am s fi tx dm th sa ln pa le sk nu h)) [.int b, .int 0, .int 2] [.ref (am 0)] (wMo g am s fi tx dm th sa ln pa le sk nu h) C (k_X7_in l g b 0 2) rfl yS_X7_in wML_X7_35 rfl rfl rfl (nle rfl) (nle rfl) (nle rfl) (nle rfl) (nle rfl) dX7_setFailsafe_15 ?_
    refine x_if_eq C 34 (by decide) dX7_setFailsafe_18 (fun h2 => ?_) (fun h2 => ?_)
    · refine x_iconst C 2 (by decide) dX7_setFailsafe_34 ?_
      refine x_goto C 39 (by decide) dX7_setFailsafe_35 ?_
      refine x_FV (w1 := ([] : va_W)) (wc := (wMo g am s fi tx dm th sa ln pa le sk nu h)) (w2 := ([] : va_W)) [.int 2] [] (wMo g am s fi tx dm 2 sa ln pa le sk nu h) C (k_X7_holds l g am s fi tx dm th sa ln pa le sk nu h 2) rfl yV_X7_holds wML_X7_99 rfl 0 rfl rfl rfl rfl (nle rfl) (nle rfl) (nle rfl) (nle rfl) (nle rfl) dX7_setFailsafe_39 ?_
      refine x_st (st' := [.int 0]) (by rw [show (sp_X7_holds 2) = 0 from by decide]) ?_
      refine x_if_ne C 47 (by decide) dX7_setFailsafe_42 (fun hz => absurd (by decide) hz) (fun _ => ?_)
      refine x_iconst C 0 (by decide) dX7_setFailsafe_45 ?_
      exact x_iret C hr (nle rfl) (nle rfl) dX7_setFailsafe_46 ⟨(by first | (simp only [sp_X7_setFailsafe, if_neg h1, if_pos h2]; done) | (simp only [sp_X7_setFailsafe, if_neg h1, if_pos h2]; rfl)), (by first | (simp only [sp_X7_setFailsafe_s, sp_X7_setFailsafe_th, sp_X7_setFailsafe_sa, if_neg h1, if_pos h2]; done) | (simp only [sp_X7_setFailsafe_s, sp_X7_setFailsafe_th, sp_X7_setFailsafe_sa, if_neg h1, if_pos h2]; rfl))⟩
    · refine x_iload_n C 3 rfl rfl dX7_setFailsafe_21 ?_
      refine x_sipush C (-150) (by decide) dX7_setFailsafe_22 ?_
      refine x_sipush C 150 (by decide) dX7_setFailsafe_25 ?_
      refine x_FS (w1 := ([] : va_W)) (wc := ([] : va_W)) (w2 := (wMo g am s fi tx dm th sa ln pa le sk nu h)) [.int c_, .int (-150), .int 150] [.ref (am 0)] (wMo g am s fi tx dm th sa ln pa le sk nu h) C (k_X7_in l g c_ (-150) 150) rfl yS_X7_in wML_X7_35 rfl rfl rfl (nle rfl) (nle rfl) (nle rfl) (nle rfl) (nle rfl) dX7_setFailsafe_28 ?_
      refine x_if_ne C 38 (by decide) dX7_setFailsafe_31 (fun h3 => ?_) (fun h3 => ?_)
      · refine x_iconst C 0 (by decide) dX7_setFailsafe_38 ?_
        refine x_FV (w1 := ([] : va_W)) (wc := (wMo g am s fi tx dm th sa ln pa le sk nu h)) (w2 := ([] : va_W)) [.int 0] [] (wMo g am s fi tx dm 0 sa ln pa le sk nu h) C (k_X7_holds l g am s fi tx dm th sa ln pa le sk nu h 0) rfl yV_X7_holds wML_X7_99 rfl 0 rfl rfl rfl rfl (nle rfl) (nle rfl) (nle rfl) (nle rfl) (nle rfl) dX7_setFailsafe_39 ?_
        refine x_st (st' := [.int 1]) (by rw [show (sp_X7_holds 0) = 1 from by decide]) ?_
        refine x_if_ne C 47 (by decide) dX7_setFailsafe_42 (fun _ => ?_) (fun hz => absurd hz (by decide))
        refine x_aload_n C 0 rfl rfl dX7_setFailsafe_47 ?_
        refine x_GV (w1 := ([] : va_W)) (wc := (wMo g am s fi tx dm 0 sa ln pa le sk nu h)) (w2 := ([] : va_W)) [] [] (wMo g am (sp_X7_save_s s sa) fi tx dm 0 (sp_X7_save_sa sa) ln pa le sk nu h) C (k_X7_save l g am s fi tx dm 0 sa ln pa le sk nu h hs hs6) rfl yV_X7_save wML_X7_92 rfl 0 rfl rfl rfl rfl (nle rfl) (nle rfl) (nle rfl) (nle rfl) (nle rfl) dX7_setFailsafe_48 ?_
        refine x_aload_n C 0 rfl rfl dX7_setFailsafe_51 ?_
        refine x_iconst C 0 (by decide) dX7_setFailsafe_52 ?_
        have h1l := in_le h1 (by decide) (show (5 : Int32) = nI 5 from rfl) (by decide)
        refine x_iload_n C 1 rfl rfl dX7_setFailsafe_53 ?_
        refine x_iconst C 5 (by decide) dX7_setFailsafe_54 ?_
        refine x_FV (w1 := ([] : va_W)) (wc := (wMo g am (sp_X7_save_s s sa) fi tx dm 0 (sp_X7_save_sa sa) ln pa le sk nu h)) (w2 := ([] : va_W)) [.int 0, .int a, .int 5] [] (wMo g am (sp_X7_save_s s sa) fi tx dm 0 (sp_X7_save_sa sa) ln pa le sk nu h) C (k_X7_of l g am (sp_X7_save_s s sa) fi tx dm 0 (sp_X7_save_sa sa) ln pa le sk nu h 0 0 rfl a (Int32.toNatClampNeg a) (in_nat h1 (by decide)) 5 5 rfl (by omega)) rfl yV_X7_of wML_X7_57 rfl 0 rfl rfl rfl rfl (nle rfl) (nle rfl) (nle rfl) (nle rfl) (nle rfl) dX7_setFailsafe_55 ?_
        refine x_istore C [(4, .int ((sp_X7_save_s s sa) (0 + 87 + 10 * (Int32.toNatClampNeg a) + 5))), (0, .ref (am 0)), (1, .int a), (2, .int b), (3, .int c_)] rfl (by decide) dX7_setFailsafe_58 ?_
        refine x_aload_n C 1 rfl rfl dX7_setFailsafe_60 ?_
        refine x_iconst C 0 (by decide) dX7_setFailsafe_61 ?_
        have h1l := in_le h1 (by decide) (show (5 : Int32) = nI 5 from rfl) (by decide)
        refine x_iload_n C 2 rfl rfl dX7_setFailsafe_62 ?_
        refine x_iconst C 5 (by decide) dX7_setFailsafe_63 ?_
        have h2l := in_le h2 (by decide) (show (2 : Int32) = nI 2 from rfl) (by decide)
        refine x_iload_n C 3 rfl rfl dX7_setFailsafe_64 ?_
        refine x_GV (w1 := ([] : va_W)) (wc := (wMo g am (sp_X7_save_s s sa) fi tx dm 0 (sp_X7_save_sa sa) ln pa le sk nu h)) (w2 := ([] : va_W)) [.int 0, .int a, .int 5, .int b] [] (wMo g am (upd (sp_X7_save_s s sa) (0 + 87 + 10 * (Int32.toNatClampNeg a) + 5) b) fi tx dm 0 (sp_X7_save_sa sa) ln pa le sk nu h) C (k_X7_lay l g am (sp_X7_save_s s sa) fi tx dm 0 (sp_X7_save_sa sa) ln pa le sk nu h 0 0 rfl a (Int32.toNatClampNeg a) (in_nat h1 (by decide)) 5 5 rfl b (by omega)) rfl yV_X7_lay wML_X7_27 rfl 0 rfl rfl rfl rfl (nle rfl) (nle rfl) (nle rfl) (nle rfl) (nle rfl) dX7_setFailsafe_65 ?_
        refine x_aload_n C 1 rfl rfl dX7_setFailsafe_68 ?_
        refine x_iconst C 0 (by decide) dX7_setFailsafe_69 ?_
        have h1l := in_le h1 (by decide) (show (5 : Int32) = nI 5 from rfl) (by decide)
        refine x_iload_n C 2 rfl rfl dX7_setFailsafe_70 ?_
        refine x_bipush C 6 (by decide) dX7_setFailsafe_71 ?_
        refine x_iload_n C 4 rfl rfl dX7_setFailsafe_73 ?_
        refine x_GV (w1 := ([] : va_W)) (wc := (wMo g am (upd (sp_X7_save_s s sa) (0 + 87 + 10 * (Int32.toNatClampNeg a) + 5) b) fi tx dm 0 (sp_X7_save_sa sa) ln pa le sk nu h)) (w2 := ([] : va_W)) [.int 0, .int a, .int 6, .int c_] [] (wMo g am (upd (upd (sp_X7_save_s s sa) (0 + 87 + 10 * (Int32.toNatClampNeg a) + 5) b) (0 + 87 + 10 * (Int32.toNatClampNeg a) + 6) c_) fi tx dm 0 (sp_X7_save_sa sa) ln pa le sk nu h) C (k_X7_lay l g am (upd (sp_X7_save_s s sa) (0 + 87 + 10 * (Int32.toNatClampNeg a) + 5) b) fi tx dm 0 (sp_X7_save_sa sa) ln pa le sk nu h 0 0 rfl a (Int32.toNatClampNeg a) (in_nat h1 (by decide)) 6 6 rfl c_ (by omega)) rfl yV_X7_lay wML_X7_27 rfl 0 rfl rfl rfl rfl (nle rfl) (nle rfl) (nle rfl) (nle rfl) (nle rfl) dX7_setFailsafe_74 ?_
        refine x_iload C 0 rfl dX7_setFailsafe_77 ?_
        exact x_iret C hr (nle rfl) (nle rfl) dX7_setFailsafe_79 ⟨(by first | (simp only [sp_X7_setFailsafe, if_neg h1, if_neg h2, if_neg h3]; done) | (simp only [sp_X7_setFailsafe, if_neg h1, if_neg h2, if_neg h3]; rfl)), (by first | (simp only [sp_X7_setFailsafe_s, sp_X7_setFailsafe_th, sp_X7_setFailsafe_sa, if_neg h1, if_neg h2, if_neg h3]; done) | (simp only [sp_X7_setFailsafe_s, sp_X7_setFailsafe_th, sp_X7_setFailsafe_sa, if_neg h1, if_neg h2, if_neg h3]; rfl))⟩
      · refine x_iconst C 2 (by decide) dX7_setFailsafe_34 ?_
        refine x_goto C 39 (by decide) dX7_setFailsafe_35 ?_
        refine x_FV (w1 := ([] : va_W)) (wc := (wMo g am s fi tx dm th sa ln pa le sk nu h)) (w2 := ([] : va_W)) [.int 2] [] (wMo g am s fi tx dm 2 sa ln pa le sk nu h) C (k_X7_holds l g am s fi tx dm th sa ln pa le sk nu h 2) rfl yV_X7_holds wML_X7_99 rfl 0 rfl rfl rfl rfl (nle rfl) (nle rfl) (nle rfl) (nle rfl) (nle rfl) dX7_setFailsafe_39 ?_
        refine x_st (st' := [.int 0]) (by rw [show (sp_X7_holds 2) = 0 from by decide]) ?_
        refine x_if_ne C 47 (by decide) dX7_setFailsafe_42 (fun hz => absurd (by decide) hz) (fun _ => ?_)
        refine x_iconst C 0 (by decide) dX7_setFailsafe_45 ?_
        exact x_iret C hr (nle rfl) (nle rfl) dX7_setFailsafe_46 ⟨(by first | (simp only [sp_X7_setFailsafe, if_neg h1, if_neg h2, if_pos h3]; done) | (simp only [sp_X7_setFailsafe, if_neg h1, if_neg h2, if_pos h3]; rfl)), (by first | (simp only [sp_X7_setFailsafe_s, sp_X7_setFailsafe_th, sp_X7_setFailsafe_sa, if_neg h1, if_neg h2, if_pos h3]; done) | (simp only [sp_X7_setFailsafe_s, sp_X7_setFailsafe_th, sp_X7_setFailsafe_sa, if_neg h1, if_neg h2, if_pos h3]; rfl))⟩
  · refine x_iconst C 1 (by decide) dX7_setFailsafe_8 ?_
    refine x_goto C 39 (by decide) dX7_setFailsafe_9 ?_
    refine x_FV (w1 := ([] : va_W)) (wc := (wMo g am s fi tx dm th sa ln pa le sk nu h)) (w2 := ([] : va_W)) [.int 1] [] (wMo g am s fi tx dm 1 sa ln pa le sk nu h) C (k_X7_holds l g am s fi tx dm th sa ln pa le sk nu h 1) rfl yV_X7_holds wML_X7_99 rfl 0 rfl rfl rfl rfl (nle rfl) (nle rfl) (nle rfl) (nle rfl) (nle rfl) dX7_setFailsafe_39 ?_
    refine x_st (st' := [.int 0]) (by rw [show (sp_X7_holds 1) = 0 from by decide]) ?_
    refine x_if_ne C 47 (by decide) dX7_setFailsafe_42 (fun hz => absurd (by decide) hz) (fun _ => ?_)
    refine x_iconst C 0 (by decide) dX7_setFailsafe_45 ?_
    exact x_iret C hr (nle rfl) (nle rfl) dX7_setFailsafe_46 ⟨(by first | (simp only [sp_X7_setFailsafe, if_pos h1]; done) | (simp only [sp_X7_setFailsafe, if_pos h1]; rfl)), (by first | (simp only [sp_X7_setFailsafe_s, sp_X7_setFailsafe_th, sp_X7_setFailsafe_sa, if_pos h1]; done) | (simp only [sp_X7_setFailsafe_s, sp_X7_setFailsafe_th, sp_X7_setFailsafe_sa, if_pos h1]; rfl))⟩
def sp_X7_demand (s : Nat → Int32) (dm : Nat → Int32) (a : Int32) : Int32 := (if (sp_X7_in a 0 5) = 0 then 0 else ((sp_dems s 0 dm 6) (Int32.toNatClampNeg a)))
def sp_X7_demand_dm (s : Nat → Int32) (dm : Nat → Int32) (a : Int32) : Nat → Int32 := (if (sp_X7_in a 0 5) = 0 then dm else (sp_dems s 0 dm 6))
def sp_X7_demand_th (a : Int32) : Int32 := (if (sp_X7_in a 0 5) = 0 then 1 else 0)
set_option maxRecDepth 100000 in
theorem k_X7_demand (l : Launch) (g : xGt) (am : Nat → Nat) (s fi tx dm : Nat → Int32) (th sa ln pa le sk nu : Int32) (h : Int64) (a : Int32) (hs : sa = nI (Int32.toNatClampNeg sa)) (hs6 : Int32.toNatClampNeg sa ≤ 6) (hm : rOk s 0) : xM l g.1 (xT g) yX7_demand (ws_ yX7_demand cX7_demand 2 (some .int)) (xRm 4 94 0 0) 0 0 [.ref (am 0), .int a] (wMo g am s fi tx dm th sa ln pa le sk nu h) (fun r9 w9 => r9 = some (.int (sp_X7_demand s dm a)) ∧ w9 = (wMo g am s fi tx (sp_X7_demand_dm s dm a) (sp_X7_demand_th a) sa ln pa le sk nu h)) (fun _ _ => False) := by
  refine x_start (own := RX7) (nm := "demand") rfl rfl (by decide +kernel) rfl (nle rfl) (fun p e σ m args below meth c A C hno hr => ?_)
  refine x_lve (lv' := [(0, .ref (am 0)), (1, .int a)]) rfl ?_
  refine x_aload_n C 0 rfl rfl dX7_demand_0 ?_
  refine x_iload_n C 1 rfl rfl dX7_demand_1 ?_
  refine x_FS (w1 := ([] : va_W)) (wc := ([] : va_W)) (w2 := (wMo g am s fi tx dm th sa ln pa le sk nu h)) [.int a] [.ref (am 0)] (wMo g am s fi tx dm th sa ln pa le sk nu h) C (k_X7_isServo l g a) rfl yS_X7_isServo wML_X7_105 rfl rfl rfl (nle rfl) (nle rfl) (nle rfl) (nle rfl) (nle rfl) dX7_demand_2 ?_
  refine x_if_eq C 12 (by decide) dX7_demand_5 (fun h1 => ?_) (fun h1 => ?_)
  · refine x_iconst C 1 (by decide) dX7_demand_12 ?_
    refine x_FV (w1 := ([] : va_W)) (wc := (wMo g am s fi tx dm th sa ln pa le sk nu h)) (w2 := ([] : va_W)) [.int 1] [] (wMo g am s fi tx dm 1 sa ln pa le sk nu h) C (k_X7_holds l g am s fi tx dm th sa ln pa le sk nu h 1) rfl yV_X7_holds wML_X7_99 rfl 0 rfl rfl rfl rfl (nle rfl) (nle rfl) (nle rfl) (nle rfl) (nle rfl) dX7_demand_13 ?_
    refine x_st (st' := [.int 0]) (by rw [show (sp_X7_holds 1) = 0 from by decide]) ?_
    refine x_if_ne C 21 (by decide) dX7_demand_16 (fun hz => absurd (by decide) hz) (fun _ => ?_)
    refine x_iconst C 0 (by decide) dX7_demand_19 ?_
    exact x_iret C hr (nle rfl) (nle rfl) dX7_demand_20 ⟨(by first | (simp only [sp_X7_demand, if_pos h1]; done) | (simp only [sp_X7_demand, if_pos h1]; rfl)), (by first | (simp only [sp_X7_demand_dm, sp_X7_demand_th, if_pos h1]; done) | (simp only [sp_X7_demand_dm, sp_X7_demand_th, if_pos h1]; rfl))⟩
  · refine x_iconst C 0 (by decide) dX7_demand_8 ?_
    refine x_goto C 13 (by decide) dX7_demand_9 ?_
    refine x_FV (w1 := ([] : va_W)) (wc := (wMo g am s fi tx dm th sa ln pa le sk nu h)) (w2 := ([] : va_W)) [.int 0] [] (wMo g am s fi tx dm 0 sa ln pa le sk nu h) C (k_X7_holds l g am s fi tx dm th sa ln pa le sk nu h 0) rfl yV_X7_holds wML_X7_99 rfl 0 rfl rfl rfl rfl (nle rfl) (nle rfl) (nle rfl) (nle rfl) (nle rfl) dX7_demand_13 ?_
    refine x_st (st' := [.int 1]) (by rw [show (sp_X7_holds 0) = 1 from by decide]) ?_
    refine x_if_ne C 21 (by decide) dX7_demand_16 (fun _ => ?_) (fun hz => absurd hz (by decide))
    refine x_aload_n C 0 rfl rfl dX7_demand_21 ?_
    refine x_iconst C 0 (by decide) dX7_demand_22 ?_
    refine x_GV (w1 := ([] : va_W)) (wc := (wMo g am s fi tx dm 0 sa ln pa le sk nu h)) (w2 := ([] : va_W)) [.int 0] [] (wMo g am s fi tx (sp_dems s 0 dm 6) 0 sa ln pa le sk nu h) C (k_X7_demandsLaid l g am s fi tx dm 0 sa ln pa le sk nu h 0 0 rfl (by omega) hm) rfl yV_X7_demandsLaid wML_X7_63 rfl 0 rfl rfl rfl rfl (nle rfl) (nle rfl) (nle rfl) (nle rfl) (nle rfl) dX7_demand_23 ?_
    refine x_aload_n C 0 rfl rfl dX7_demand_26 ?_
    refine x_get C 0 7 10 rfl rfl wLy_X7 wFL_X7_20 rfl (by decide) rfl dX7_demand_27 ?_
    have h1l := in_le h1 (by decide) (show (5 : Int32) = nI 5 from rfl) (by decide)
    refine x_iload_n C 1 rfl rfl dX7_demand_30 ?_
    refine x_ialdN (f := (sp_dems s 0 dm 6)) C 4 0 (Int32.toNatClampNeg a) rfl rfl (in_nat h1 (by decide)) (by omega) (by decide) dX7_demand_31 ?_
    exact x_iret C hr (nle rfl) (nle rfl) dX7_demand_32 ⟨(by first | (simp only [sp_X7_demand, if_neg h1]; done) | (simp only [sp_X7_demand, if_neg h1]; rfl)), (by first | (simp only [sp_X7_demand_dm, sp_X7_demand_th, if_neg h1]; done) | (simp only [sp_X7_demand_dm, sp_X7_demand_th, if_neg h1]; rfl))⟩
def sp_X7_aim (s : Nat → Int32) (dm : Nat → Int32) (a : Int32) : Int32 := (if (sp_X7_in a 0 5) = 0 then 0 else (sp_X7_within (sp_X7_raw s (sp_dems s 0 dm 6) 0 (Int32.toNatClampNeg a)) (s (0 + 87 + 10 * (Int32.toNatClampNeg a) + 2)) (s (0 + 87 + 10 * (Int32.toNatClampNeg a) + 3))))
def sp_X7_aim_dm (s : Nat → Int32) (dm : Nat → Int32) (a : Int32) : Nat → Int32 := (if (sp_X7_in a 0 5) = 0 then dm else (sp_dems s 0 dm 6))
def sp_X7_aim_th (a : Int32) : Int32 := (if (sp_X7_in a 0 5) = 0 then 1 else 0)
set_option maxRecDepth 100000 in
theorem k_X7_aim (l : Launch) (g : xGt) (am : Nat → Nat) (s fi tx dm : Nat → Int32) (th sa ln pa le sk nu : Int32) (h : Int64) (a : Int32) (hs : sa = nI (Int32.toNatClampNeg sa)) (hs6 : Int32.toNatClampNeg sa ≤ 6) (hm : rOk s 0) : xM l g.1 (xT g) yX7_aim (ws_ yX7_aim cX7_aim 2 (some .int)) (xRm 5 116 0 0) 0 0 [.ref (am 0), .int a] (wMo g am s fi tx dm th sa ln pa le sk nu h) (fun r9 w9 => r9 = some (.int (sp_X7_aim s dm a)) ∧ w9 = (wMo g am s fi tx (sp_X7_aim_dm s dm a) (sp_X7_aim_th a) sa ln pa le sk nu h)) (fun _ _ => False) := by
  refine x_start (own := RX7) (nm := "aim") rfl rfl (by decide +kernel) rfl (nle rfl) (fun p e σ m args below meth c A C hno hr => ?_)
  refine x_lve (lv' := [(0, .ref (am 0)), (1, .int a)]) rfl ?_
  refine x_aload_n C 0 rfl rfl dX7_aim_0 ?_
  refine x_iload_n C 1 rfl rfl dX7_aim_1 ?_
  refine x_FS (w1 := ([] : va_W)) (wc := ([] : va_W)) (w2 := (wMo g am s fi tx dm th sa ln pa le sk nu h)) [.int a] [.ref (am 0)] (wMo g am s fi tx dm th sa ln pa le sk nu h) C (k_X7_isServo l g a) rfl yS_X7_isServo wML_X7_105 rfl rfl rfl (nle rfl) (nle rfl) (nle rfl) (nle rfl) (nle rfl) dX7_aim_2 ?_
  refine x_if_eq C 12 (by decide) dX7_aim_5 (fun h1 => ?_) (fun h1 => ?_)
  · refine x_iconst C 1 (by decide) dX7_aim_12 ?_
    refine x_FV (w1 := ([] : va_W)) (wc := (wMo g am s fi tx dm th sa ln pa le sk nu h)) (w2 := ([] : va_W)) [.int 1] [] (wMo g am s fi tx dm 1 sa ln pa le sk nu h) C (k_X7_holds l g am s fi tx dm th sa ln pa le sk nu h 1) rfl yV_X7_holds wML_X7_99 rfl 0 rfl rfl rfl rfl (nle rfl) (nle rfl) (nle rfl) (nle rfl) (nle rfl) dX7_aim_13 ?_
    refine x_st (st' := [.int 0]) (by rw [show (sp_X7_holds 1) = 0 from by decide]) ?_
    refine x_if_eq C 28 (by decide) dX7_aim_16 (fun _ => ?_) (fun hz => absurd (by decide) hz)
    refine x_iconst C 0 (by decide) dX7_aim_28 ?_
    exact x_iret C hr (nle rfl) (nle rfl) dX7_aim_29 ⟨(by first | (simp only [sp_X7_aim, if_pos h1]; done) | (simp only [sp_X7_aim, if_pos h1]; rfl)), (by first | (simp only [sp_X7_aim_dm, sp_X7_aim_th, if_pos h1]; done) | (simp only [sp_X7_aim_dm, sp_X7_aim_th, if_pos h1]; rfl))⟩
  · refine x_iconst C 0 (by decide) dX7_aim_8 ?_
    refine x_goto C 13 (by decide) dX7_aim_9 ?_
    refine x_FV (w1 := ([] : va_W)) (wc := (wMo g am s fi tx dm th sa ln pa le sk nu h)) (w2 := ([] : va_W)) [.int 0] [] (wMo g am s fi tx dm 0 sa ln pa le sk nu h) C (k_X7_holds l g am s fi tx dm th sa ln pa le sk nu h 0) rfl yV_X7_holds wML_X7_99 rfl 0 rfl rfl rfl rfl (nle rfl) (nle rfl) (nle rfl) (nle rfl) (nle rfl) dX7_aim_13 ?_
    refine x_st (st' := [.int 1]) (by rw [show (sp_X7_holds 0) = 1 from by decide]) ?_
    refine x_if_eq C 28 (by decide) dX7_aim_16 (fun hz => absurd hz (by decide)) (fun _ => ?_)
    refine x_aload_n C 0 rfl rfl dX7_aim_19 ?_
    refine x_iconst C 0 (by decide) dX7_aim_20 ?_
    have h1l := in_le h1 (by decide) (show (5 : Int32) = nI 5 from rfl) (by decide)
    refine x_iload_n C 1 rfl rfl dX7_aim_21 ?_
    refine x_FV (w1 := ([] : va_W)) (wc := (wMo g am s fi tx dm 0 sa ln pa le sk nu h)) (w2 := ([] : va_W)) [.int 0, .int a] [] (wMo g am s fi tx (sp_dems s 0 dm 6) 0 sa ln pa le sk nu h) C (k_X7_aimOf l g am s fi tx dm 0 sa ln pa le sk nu h 0 0 rfl a (Int32.toNatClampNeg a) (in_nat h1 (by decide)) (by omega) hm (by omega)) rfl yV_X7_aimOf wML_X7_117 rfl 0 rfl rfl rfl rfl (nle rfl) (nle rfl) (nle rfl) (nle rfl) (nle rfl) dX7_aim_22 ?_
    refine x_goto C 29 (by decide) dX7_aim_25 ?_
    exact x_iret C hr (nle rfl) (nle rfl) dX7_aim_29 ⟨(by first | (simp only [sp_X7_aim, if_neg h1]; done) | (simp only [sp_X7_aim, if_neg h1]; rfl)), (by first | (simp only [sp_X7_aim_dm, sp_X7_aim_th, if_neg h1]; done) | (simp only [sp_X7_aim_dm, sp_X7_aim_th, if_neg h1]; rfl))⟩
def sp_X7_excess (s : Nat → Int32) (dm : Nat → Int32) (a : Int32) : Int32 := (if (sp_X7_in a 0 5) = 0 then 0 else ((sp_X7_raw s (sp_dems s 0 dm 6) 0 (Int32.toNatClampNeg a)) - (sp_X7_within (sp_X7_raw s (sp_dems s 0 dm 6) 0 (Int32.toNatClampNeg a)) (s (0 + 87 + 10 * (Int32.toNatClampNeg a) + 2)) (s (0 + 87 + 10 * (Int32.toNatClampNeg a) + 3)))))
def sp_X7_excess_dm (s : Nat → Int32) (dm : Nat → Int32) (a : Int32) : Nat → Int32 := (if (sp_X7_in a 0 5) = 0 then dm else (sp_dems s 0 dm 6))
def sp_X7_excess_th (a : Int32) : Int32 := (if (sp_X7_in a 0 5) = 0 then 1 else 0)
set_option maxRecDepth 100000 in
theorem k_X7_excess (l : Launch) (g : xGt) (am : Nat → Nat) (s fi tx dm : Nat → Int32) (th sa ln pa le sk nu : Int32) (h : Int64) (a : Int32) (hs : sa = nI (Int32.toNatClampNeg sa)) (hs6 : Int32.toNatClampNeg sa ≤ 6) (hm : rOk s 0) : xM l g.1 (xT g) yX7_excess (ws_ yX7_excess cX7_excess 3 (some .int)) (xRm 5 116 0 0) 0 0 [.ref (am 0), .int a] (wMo g am s fi tx dm th sa ln pa le sk nu h) (fun r9 w9 => r9 = some (.int (sp_X7_excess s dm a)) ∧ w9 = (wMo g am s fi tx (sp_X7_excess_dm s dm a) (sp_X7_excess_th a) sa ln pa le sk nu h)) (fun _ _ => False) := by
  refine x_start (own := RX7) (nm := "excess") rfl rfl (by decide +kernel) rfl (nle rfl) (fun p e σ m args below meth c A C hno hr => ?_)
  refine x_lve (lv' := [(0, .ref (am 0)), (1, .int a)]) rfl ?_
  refine x_aload_n C 0 rfl rfl dX7_excess_0 ?_
  refine x_iload_n C 1 rfl rfl dX7_excess_1 ?_
  refine x_FS (w1 := ([] : va_W)) (wc := ([] : va_W)) (w2 := (wMo g am s fi tx dm th sa ln pa le sk nu h)) [.int a] [.ref (am 0)] (wMo g am s fi tx dm th sa ln pa le sk nu h) C (k_X7_isServo l g a) rfl yS_X7_isServo wML_X7_105 rfl rfl rfl (nle rfl) (nle rfl) (nle rfl) (nle rfl) (nle rfl) dX7_excess_2 ?_
  refine x_if_eq C 12 (by decide) dX7_excess_5 (fun h1 => ?_) (fun h1 => ?_)
  · refine x_iconst C 1 (by decide) dX7_excess_12 ?_
    refine x_FV (w1 := ([] : va_W)) (wc := (wMo g am s fi tx dm th sa ln pa le sk nu h)) (w2 := ([] : va_W)) [.int 1] [] (wMo g am s fi tx dm 1 sa ln pa le sk nu h) C (k_X7_holds l g am s fi tx dm th sa ln pa le sk nu h 1) rfl yV_X7_holds wML_X7_99 rfl 0 rfl rfl rfl rfl (nle rfl) (nle rfl) (nle rfl) (nle rfl) (nle rfl) dX7_excess_13 ?_
    refine x_st (st' := [.int 0]) (by rw [show (sp_X7_holds 1) = 0 from by decide]) ?_
    refine x_if_ne C 21 (by decide) dX7_excess_16 (fun hz => absurd (by decide) hz) (fun _ => ?_)
    refine x_iconst C 0 (by decide) dX7_excess_19 ?_
    exact x_iret C hr (nle rfl) (nle rfl) dX7_excess_20 ⟨(by first | (simp only [sp_X7_excess, if_pos h1]; done) | (simp only [sp_X7_excess, if_pos h1]; rfl)), (by first | (simp only [sp_X7_excess_dm, sp_X7_excess_th, if_pos h1]; done) | (simp only [sp_X7_excess_dm, sp_X7_excess_th, if_pos h1]; rfl))⟩
  · refine x_iconst C 0 (by decide) dX7_excess_8 ?_
    refine x_goto C 13 (by decide) dX7_excess_9 ?_
    refine x_FV (w1 := ([] : va_W)) (wc := (wMo g am s fi tx dm th sa ln pa le sk nu h)) (w2 := ([] : va_W)) [.int 0] [] (wMo g am s fi tx dm 0 sa ln pa le sk nu h) C (k_X7_holds l g am s fi tx dm th sa ln pa le sk nu h 0) rfl yV_X7_holds wML_X7_99 rfl 0 rfl rfl rfl rfl (nle rfl) (nle rfl) (nle rfl) (nle rfl) (nle rfl) dX7_excess_13 ?_
    refine x_st (st' := [.int 1]) (by rw [show (sp_X7_holds 0) = 1 from by decide]) ?_
    refine x_if_ne C 21 (by decide) dX7_excess_16 (fun _ => ?_) (fun hz => absurd hz (by decide))
    refine x_aload_n C 0 rfl rfl dX7_excess_21 ?_
    refine x_iconst C 0 (by decide) dX7_excess_22 ?_
    have h1l := in_le h1 (by decide) (show (5 : Int32) = nI 5 from rfl) (by decide)
    refine x_iload_n C 1 rfl rfl dX7_excess_23 ?_
    refine x_FV (w1 := ([] : va_W)) (wc := (wMo g am s fi tx dm 0 sa ln pa le sk nu h)) (w2 := ([] : va_W)) [.int 0, .int a] [] (wMo g am s fi tx (sp_dems s 0 dm 6) 0 sa ln pa le sk nu h) C (k_X7_aimOf l g am s fi tx dm 0 sa ln pa le sk nu h 0 0 rfl a (Int32.toNatClampNeg a) (in_nat h1 (by decide)) (by omega) hm (by omega)) rfl yV_X7_aimOf wML_X7_117 rfl 0 rfl rfl rfl rfl (nle rfl) (nle rfl) (nle rfl) (nle rfl) (nle rfl) dX7_excess_24 ?_
    refine x_istore_n C [(2, .int (sp_X7_within (sp_X7_raw s (sp_dems s 0 dm 6) 0 (Int32.toNatClampNeg a)) (s (0 + 87 + 10 * (Int32.toNatClampNeg a) + 2)) (s (0 + 87 + 10 * (Int32.toNatClampNeg a) + 3)))), (0, .ref (am 0)), (1, .int a)] rfl rfl (by decide) dX7_excess_27 ?_
    refine x_aload_n C 1 rfl rfl dX7_excess_28 ?_
    refine x_iconst C 0 (by decide) dX7_excess_29 ?_
    have h1l := in_le h1 (by decide) (show (5 : Int32) = nI 5 from rfl) (by decide)
    refine x_iload_n C 2 rfl rfl dX7_excess_30 ?_
    refine x_FV (w1 := ([] : va_W)) (wc := (wMo g am s fi tx (sp_dems s 0 dm 6) 0 sa ln pa le sk nu h)) (w2 := ([] : va_W)) [.int 0, .int a] [] (wMo g am s fi tx (sp_dems s 0 dm 6) 0 sa ln pa le sk nu h) C (k_X7_raw l g am s fi tx (sp_dems s 0 dm 6) 0 sa ln pa le sk nu h 0 0 rfl a (Int32.toNatClampNeg a) (in_nat h1 (by decide)) (by omega) (by omega)) rfl yV_X7_raw wML_X7_60 rfl 0 rfl rfl rfl rfl (nle rfl) (nle rfl) (nle rfl) (nle rfl) (nle rfl) dX7_excess_31 ?_
    refine x_iload_n C 0 rfl rfl dX7_excess_34 ?_
    refine x_isub C dX7_excess_35 ?_
    exact x_iret C hr (nle rfl) (nle rfl) dX7_excess_36 ⟨(by first | (simp only [sp_X7_excess, if_neg h1]; done) | (simp only [sp_X7_excess, if_neg h1]; rfl)), (by first | (simp only [sp_X7_excess_dm, sp_X7_excess_th, if_neg h1]; done) | (simp only [sp_X7_excess_dm, sp_X7_excess_th, if_neg h1]; rfl))⟩
def sp_X7_target (s : Nat → Int32) (a : Int32) : Int32 := (if (sp_X7_in a 0 5) = 0 then 0 else (s (0 + 87 + 10 * (Int32.toNatClampNeg a) + 7)))
def sp_X7_target_th (a : Int32) : Int32 := (if (sp_X7_in a 0 5) = 0 then 1 else 0)
set_option maxRecDepth 100000 in
theorem k_X7_target (l : Launch) (g : xGt) (am : Nat → Nat) (s fi tx dm : Nat → Int32) (th sa ln pa le sk nu : Int32) (h : Int64) (a : Int32) (hs : sa = nI (Int32.toNatClampNeg sa)) (hs6 : Int32.toNatClampNeg sa ≤ 6) (hm : rOk s 0) : xM l g.1 (xT g) yX7_target (ws_ yX7_target cX7_target 2 (some .int)) (xRm 2 42 0 0) 0 0 [.ref (am 0), .int a] (wMo g am s fi tx dm th sa ln pa le sk nu h) (fun r9 w9 => r9 = some (.int (sp_X7_target s a)) ∧ w9 = (wMo g am s fi tx dm (sp_X7_target_th a) sa ln pa le sk nu h)) (fun _ _ => False) := by
  refine x_start (own := RX7) (nm := "target") rfl rfl (by decide +kernel) rfl (nle rfl) (fun p e σ m args below meth c A C hno hr => ?_)
  refine x_lve (lv' := [(0, .ref (am 0)), (1, .int a)]) rfl ?_
  refine x_aload_n C 0 rfl rfl dX7_target_0 ?_
  refine x_iload_n C 1 rfl rfl dX7_target_1 ?_
  refine x_FS (w1 := ([] : va_W)) (wc := ([] : va_W)) (w2 := (wMo g am s fi tx dm th sa ln pa le sk nu h)) [.int a] [.ref (am 0)] (wMo g am s fi tx dm th sa ln pa le sk nu h) C (k_X7_isServo l g a) rfl yS_X7_isServo wML_X7_105 rfl rfl rfl (nle rfl) (nle rfl) (nle rfl) (nle rfl) (nle rfl) dX7_target_2 ?_
  refine x_if_eq C 12 (by decide) dX7_target_5 (fun h1 => ?_) (fun h1 => ?_)
  · refine x_iconst C 1 (by decide) dX7_target_12 ?_
    refine x_FV (w1 := ([] : va_W)) (wc := (wMo g am s fi tx dm th sa ln pa le sk nu h)) (w2 := ([] : va_W)) [.int 1] [] (wMo g am s fi tx dm 1 sa ln pa le sk nu h) C (k_X7_holds l g am s fi tx dm th sa ln pa le sk nu h 1) rfl yV_X7_holds wML_X7_99 rfl 0 rfl rfl rfl rfl (nle rfl) (nle rfl) (nle rfl) (nle rfl) (nle rfl) dX7_target_13 ?_
    refine x_st (st' := [.int 0]) (by rw [show (sp_X7_holds 1) = 0 from by decide]) ?_
    refine x_if_eq C 30 (by decide) dX7_target_16 (fun _ => ?_) (fun hz => absurd (by decide) hz)
    refine x_iconst C 0 (by decide) dX7_target_30 ?_
    exact x_iret C hr (nle rfl) (nle rfl) dX7_target_31 ⟨(by first | (simp only [sp_X7_target, if_pos h1]; done) | (simp only [sp_X7_target, if_pos h1]; rfl)), (by first | (simp only [sp_X7_target_th, if_pos h1]; done) | (simp only [sp_X7_target_th, if_pos h1]; rfl))⟩
  · refine x_iconst C 0 (by decide) dX7_target_8 ?_
    refine x_goto C 13 (by decide) dX7_target_9 ?_
    refine x_FV (w1 := ([] : va_W)) (wc := (wMo g am s fi tx dm th sa ln pa le sk nu h)) (w2 := ([] : va_W)) [.int 0] [] (wMo g am s fi tx dm 0 sa ln pa le sk nu h) C (k_X7_holds l g am s fi tx dm th sa ln pa le sk nu h 0) rfl yV_X7_holds wML_X7_99 rfl 0 rfl rfl rfl rfl (nle rfl) (nle rfl) (nle rfl) (nle rfl) (nle rfl) dX7_target_13 ?_
    refine x_st (st' := [.int 1]) (by rw [show (sp_X7_holds 0) = 1 from by decide]) ?_
    refine x_if_eq C 30 (by decide) dX7_target_16 (fun hz => absurd hz (by decide)) (fun _ => ?_)
    refine x_aload_n C 0 rfl rfl dX7_target_19 ?_
    refine x_iconst C 0 (by decide) dX7_target_20 ?_
    have h1l := in_le h1 (by decide) (show (5 : Int32) = nI 5 from rfl) (by decide)
    refine x_iload_n C 1 rfl rfl dX7_target_21 ?_
    refine x_bipush C 7 (by decide) dX7_target_22 ?_
    refine x_FV (w1 := ([] : va_W)) (wc := (wMo g am s fi tx dm 0 sa ln pa le sk nu h)) (w2 := ([] : va_W)) [.int 0, .int a, .int 7] [] (wMo g am s fi tx dm 0 sa ln pa le sk nu h) C (k_X7_of l g am s fi tx dm 0 sa ln pa le sk nu h 0 0 rfl a (Int32.toNatClampNeg a) (in_nat h1 (by decide)) 7 7 rfl (by omega)) rfl yV_X7_of wML_X7_57 rfl 0 rfl rfl rfl rfl (nle rfl) (nle rfl) (nle rfl) (nle rfl) (nle rfl) dX7_target_24 ?_
    refine x_goto C 31 (by decide) dX7_target_27 ?_
    exact x_iret C hr (nle rfl) (nle rfl) dX7_target_31 ⟨(by first | (simp only [sp_X7_target, if_neg h1]; done) | (simp only [sp_X7_target, if_neg h1]; rfl)), (by first | (simp only [sp_X7_target_th, if_neg h1]; done) | (simp only [sp_X7_target_th, if_neg h1]; rfl))⟩
def sp_X7_servoPosition (s : Nat → Int32) (a : Int32) : Int32 := (if (sp_X7_in a 0 5) = 0 then 0 else (s (0 + 87 + 10 * (Int32.toNatClampNeg a) + 8)))
def sp_X7_servoPosition_th (a : Int32) : Int32 := (if (sp_X7_in a 0 5) = 0 then 1 else 0)
set_option maxRecDepth 100000 in
theorem k_X7_servoPosition (l : Launch) (g : xGt) (am : Nat → Nat) (s fi tx dm : Nat → Int32) (th sa ln pa le sk nu : Int32) (h : Int64) (a : Int32) (hs : sa = nI (Int32.toNatClampNeg sa)) (hs6 : Int32.toNatClampNeg sa ≤ 6) (hm : rOk s 0) : xM l g.1 (xT g) yX7_servoPosition (ws_ yX7_servoPosition cX7_servoPosition 2 (some .int)) (xRm 2 42 0 0) 0 0 [.ref (am 0), .int a] (wMo g am s fi tx dm th sa ln pa le sk nu h) (fun r9 w9 => r9 = some (.int (sp_X7_servoPosition s a)) ∧ w9 = (wMo g am s fi tx dm (sp_X7_servoPosition_th a) sa ln pa le sk nu h)) (fun _ _ => False) := by
  refine x_start (own := RX7) (nm := "servoPosition") rfl rfl (by decide +kernel) rfl (nle rfl) (fun p e σ m args below meth c A C hno hr => ?_)
  refine x_lve (lv' := [(0, .ref (am 0)), (1, .int a)]) rfl ?_
  refine x_aload_n C 0 rfl rfl dX7_servoPosition_0 ?_
  refine x_iload_n C 1 rfl rfl dX7_servoPosition_1 ?_
  refine x_FS (w1 := ([] : va_W)) (wc := ([] : va_W)) (w2 := (wMo g am s fi tx dm th sa ln pa le sk nu h)) [.int a] [.ref (am 0)] (wMo g am s fi tx dm th sa ln pa le sk nu h) C (k_X7_isServo l g a) rfl yS_X7_isServo wML_X7_105 rfl rfl rfl (nle rfl) (nle rfl) (nle rfl) (nle rfl) (nle rfl) dX7_servoPosition_2 ?_
  refine x_if_eq C 12 (by decide) dX7_servoPosition_5 (fun h1 => ?_) (fun h1 => ?_)
  · refine x_iconst C 1 (by decide) dX7_servoPosition_12 ?_
    refine x_FV (w1 := ([] : va_W)) (wc := (wMo g am s fi tx dm th sa ln pa le sk nu h)) (w2 := ([] : va_W)) [.int 1] [] (wMo g am s fi tx dm 1 sa ln pa le sk nu h) C (k_X7_holds l g am s fi tx dm th sa ln pa le sk nu h 1) rfl yV_X7_holds wML_X7_99 rfl 0 rfl rfl rfl rfl (nle rfl) (nle rfl) (nle rfl) (nle rfl) (nle rfl) dX7_servoPosition_13 ?_
    refine x_st (st' := [.int 0]) (by rw [show (sp_X7_holds 1) = 0 from by decide]) ?_
    refine x_if_eq C 30 (by decide) dX7_servoPosition_16 (fun _ => ?_) (fun hz => absurd (by decide) hz)
    refine x_iconst C 0 (by decide) dX7_servoPosition_30 ?_
    exact x_iret C hr (nle rfl) (nle rfl) dX7_servoPosition_31 ⟨(by first | (simp only [sp_X7_servoPosition, if_pos h1]; done) | (simp only [sp_X7_servoPosition, if_pos h1]; rfl)), (by first | (simp only [sp_X7_servoPosition_th, if_pos h1]; done) | (simp only [sp_X7_servoPosition_th, if_pos h1]; rfl))⟩
  · refine x_iconst C 0 (by decide) dX7_servoPosition_8 ?_
    refine x_goto C 13 (by decide) dX7_servoPosition_9 ?_
    refine x_FV (w1 := ([] : va_W)) (wc := (wMo g am s fi tx dm th sa ln pa le sk nu h)) (w2 := ([] : va_W)) [.int 0] [] (wMo g am s fi tx dm 0 sa ln pa le sk nu h) C (k_X7_holds l g am s fi tx dm th sa ln pa le sk nu h 0) rfl yV_X7_holds wML_X7_99 rfl 0 rfl rfl rfl rfl (nle rfl) (nle rfl) (nle rfl) (nle rfl) (nle rfl) dX7_servoPosition_13 ?_
    refine x_st (st' := [.int 1]) (by rw [show (sp_X7_holds 0) = 1 from by decide]) ?_
    refine x_if_eq C 30 (by decide) dX7_servoPosition_16 (fun hz => absurd hz (by decide)) (fun _ => ?_)
    refine x_aload_n C 0 rfl rfl dX7_servoPosition_19 ?_
    refine x_iconst C 0 (by decide) dX7_servoPosition_20 ?_
    have h1l := in_le h1 (by decide) (show (5 : Int32) = nI 5 from rfl) (by decide)
    refine x_iload_n C 1 rfl rfl dX7_servoPosition_21 ?_
    refine x_bipush C 8 (by decide) dX7_servoPosition_22 ?_
    refine x_FV (w1 := ([] : va_W)) (wc := (wMo g am s fi tx dm 0 sa ln pa le sk nu h)) (w2 := ([] : va_W)) [.int 0, .int a, .int 8] [] (wMo g am s fi tx dm 0 sa ln pa le sk nu h) C (k_X7_of l g am s fi tx dm 0 sa ln pa le sk nu h 0 0 rfl a (Int32.toNatClampNeg a) (in_nat h1 (by decide)) 8 8 rfl (by omega)) rfl yV_X7_of wML_X7_57 rfl 0 rfl rfl rfl rfl (nle rfl) (nle rfl) (nle rfl) (nle rfl) (nle rfl) dX7_servoPosition_24 ?_
    refine x_goto C 31 (by decide) dX7_servoPosition_27 ?_
    exact x_iret C hr (nle rfl) (nle rfl) dX7_servoPosition_31 ⟨(by first | (simp only [sp_X7_servoPosition, if_neg h1]; done) | (simp only [sp_X7_servoPosition, if_neg h1]; rfl)), (by first | (simp only [sp_X7_servoPosition_th, if_neg h1]; done) | (simp only [sp_X7_servoPosition_th, if_neg h1]; rfl))⟩
def sp_X7_wear (s : Nat → Int32) (a : Int32) : Int32 := (if (sp_X7_in a 0 5) = 0 then 0 else (s (0 + 87 + 10 * (Int32.toNatClampNeg a) + 9)))
def sp_X7_wear_th (a : Int32) : Int32 := (if (sp_X7_in a 0 5) = 0 then 1 else 0)
set_option maxRecDepth 100000 in
theorem k_X7_wear (l : Launch) (g : xGt) (am : Nat → Nat) (s fi tx dm : Nat → Int32) (th sa ln pa le sk nu : Int32) (h : Int64) (a : Int32) (hs : sa = nI (Int32.toNatClampNeg sa)) (hs6 : Int32.toNatClampNeg sa ≤ 6) (hm : rOk s 0) : xM l g.1 (xT g) yX7_wear (ws_ yX7_wear cX7_wear 2 (some .int)) (xRm 2 42 0 0) 0 0 [.ref (am 0), .int a] (wMo g am s fi tx dm th sa ln pa le sk nu h) (fun r9 w9 => r9 = some (.int (sp_X7_wear s a)) ∧ w9 = (wMo g am s fi tx dm (sp_X7_wear_th a) sa ln pa le sk nu h)) (fun _ _ => False) := by
  refine x_start (own := RX7) (nm := "wear") rfl rfl (by decide +kernel) rfl (nle rfl) (fun p e σ m args below meth c A C hno hr => ?_)
  refine x_lve (lv' := [(0, .ref (am 0)), (1, .int a)]) rfl ?_
  refine x_aload_n C 0 rfl rfl dX7_wear_0 ?_
  refine x_iload_n C 1 rfl rfl dX7_wear_1 ?_
  refine x_FS (w1 := ([] : va_W)) (wc := ([] : va_W)) (w2 := (wMo g am s fi tx dm th sa ln pa le sk nu h)) [.int a] [.ref (am 0)] (wMo g am s fi tx dm th sa ln pa le sk nu h) C (k_X7_isServo l g a) rfl yS_X7_isServo wML_X7_105 rfl rfl rfl (nle rfl) (nle rfl) (nle rfl) (nle rfl) (nle rfl) dX7_wear_2 ?_
  refine x_if_eq C 12 (by decide) dX7_wear_5 (fun h1 => ?_) (fun h1 => ?_)
  · refine x_iconst C 1 (by decide) dX7_wear_12 ?_
    refine x_FV (w1 := ([] : va_W)) (wc := (wMo g am s fi tx dm th sa ln pa le sk nu h)) (w2 := ([] : va_W)) [.int 1] [] (wMo g am s fi tx dm 1 sa ln pa le sk nu h) C (k_X7_holds l g am s fi tx dm th sa ln pa le sk nu h 1) rfl yV_X7_holds wML_X7_99 rfl 0 rfl rfl rfl rfl (nle rfl) (nle rfl) (nle rfl) (nle rfl) (nle rfl) dX7_wear_13 ?_
    refine x_st (st' := [.int 0]) (by rw [show (sp_X7_holds 1) = 0 from by decide]) ?_
    refine x_if_eq C 30 (by decide) dX7_wear_16 (fun _ => ?_) (fun hz => absurd (by decide) hz)
    refine x_iconst C 0 (by decide) dX7_wear_30 ?_
    exact x_iret C hr (nle rfl) (nle rfl) dX7_wear_31 ⟨(by first | (simp only [sp_X7_wear, if_pos h1]; done) | (simp only [sp_X7_wear, if_pos h1]; rfl)), (by first | (simp only [sp_X7_wear_th, if_pos h1]; done) | (simp only [sp_X7_wear_th, if_pos h1]; rfl))⟩
  · refine x_iconst C 0 (by decide) dX7_wear_8 ?_
    refine x_goto C 13 (by decide) dX7_wear_9 ?_
    refine x_FV (w1 := ([] : va_W)) (wc := (wMo g am s fi tx dm th sa ln pa le sk nu h)) (w2 := ([] : va_W)) [.int 0] [] (wMo g am s fi tx dm 0 sa ln pa le sk nu h) C (k_X7_holds l g am s fi tx dm th sa ln pa le sk nu h 0) rfl yV_X7_holds wML_X7_99 rfl 0 rfl rfl rfl rfl (nle rfl) (nle rfl) (nle rfl) (nle rfl) (nle rfl) dX7_wear_13 ?_
    refine x_st (st' := [.int 1]) (by rw [show (sp_X7_holds 0) = 1 from by decide]) ?_
    refine x_if_eq C 30 (by decide) dX7_wear_16 (fun hz => absurd hz (by decide)) (fun _ => ?_)
    refine x_aload_n C 0 rfl rfl dX7_wear_19 ?_
    refine x_iconst C 0 (by decide) dX7_wear_20 ?_
    have h1l := in_le h1 (by decide) (show (5 : Int32) = nI 5 from rfl) (by decide)
    refine x_iload_n C 1 rfl rfl dX7_wear_21 ?_
    refine x_bipush C 9 (by decide) dX7_wear_22 ?_
    refine x_FV (w1 := ([] : va_W)) (wc := (wMo g am s fi tx dm 0 sa ln pa le sk nu h)) (w2 := ([] : va_W)) [.int 0, .int a, .int 9] [] (wMo g am s fi tx dm 0 sa ln pa le sk nu h) C (k_X7_of l g am s fi tx dm 0 sa ln pa le sk nu h 0 0 rfl a (Int32.toNatClampNeg a) (in_nat h1 (by decide)) 9 9 rfl (by omega)) rfl yV_X7_of wML_X7_57 rfl 0 rfl rfl rfl rfl (nle rfl) (nle rfl) (nle rfl) (nle rfl) (nle rfl) dX7_wear_24 ?_
    refine x_goto C 31 (by decide) dX7_wear_27 ?_
    exact x_iret C hr (nle rfl) (nle rfl) dX7_wear_31 ⟨(by first | (simp only [sp_X7_wear, if_neg h1]; done) | (simp only [sp_X7_wear, if_neg h1]; rfl)), (by first | (simp only [sp_X7_wear_th, if_neg h1]; done) | (simp only [sp_X7_wear_th, if_neg h1]; rfl))⟩
