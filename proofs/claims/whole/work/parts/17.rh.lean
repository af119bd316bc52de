set_option maxRecDepth 100000 in
theorem k_X7_firstError (l : Launch) (g : xGt) (am : Nat → Nat) (s fi tx dm : Nat → Int32) (th sa ln pa le sk nu : Int32) (h : Int64) (hs : sa = nI (Int32.toNatClampNeg sa)) (hs6 : Int32.toNatClampNeg sa ≤ 6) (hm : rOk s 0) (hln : ln = nI (Int32.toNatClampNeg ln) ∧ Int32.toNatClampNeg ln ≤ 60) : xM l g.1 (xT g) yX7_firstError (ws_ yX7_firstError cX7_firstError 1 (some .int)) (xRm 5 108 0 0) 0 0 [.ref (am 0)] (wMo g am s fi tx dm th sa ln pa le sk nu h) (fun r9 w9 => r9 = some (.int ((sp_ipl tx ln 61 0 le sk nu).2.1)) ∧ w9 = (wMo g am s fi tx dm 0 sa ln ((sp_ipl tx ln 61 0 le sk nu).2.1) ((sp_ipl tx ln 61 0 le sk nu).2.2.1) ((sp_ipl tx ln 61 0 le sk nu).2.2.2.1) ((sp_ipl tx ln 61 0 le sk nu).2.2.2.2) h)) (fun _ _ => False) := by
  refine x_start (own := RX7) (nm := "firstError") rfl rfl (by decide +kernel) rfl (nle rfl) (fun p e σ m args below meth c A C hno hr => ?_)
  refine x_lve (lv' := [(0, .ref (am 0))]) rfl ?_
  refine x_aload_n C 0 rfl rfl dX7_firstError_0 ?_
  refine x_iconst C 0 (by decide) dX7_firstError_1 ?_
  refine x_put C 0 7 0 tyX7 (wMo g am s fi tx dm 0 sa ln pa le sk nu h) rfl rfl rfl wLy_X7 tyX7_ok nmX7 wFL_X7_31 rfl (by decide) rfl rfl rfl rfl (nlt rfl) dX7_firstError_2 ?_
  refine x_aload_n C 0 rfl rfl dX7_firstError_5 ?_
  refine x_FV (w1 := ([] : va_W)) (wc := (wMo g am s fi tx dm 0 sa ln pa le sk nu h)) (w2 := ([] : va_W)) [] [] (wMo g am s fi tx dm 0 sa ln ((sp_ipl tx ln 61 0 le sk nu).2.1) ((sp_ipl tx ln 61 0 le sk nu).2.2.1) ((sp_ipl tx ln 61 0 le sk nu).2.2.2.1) ((sp_ipl tx ln 61 0 le sk nu).2.2.2.2) h) C (k_X7_isProgram l g am s fi tx dm 0 sa ln pa le sk nu h hln) rfl yV_X7_isProgram wML_X7_159 rfl 0 rfl rfl rfl rfl (nle rfl) (nle rfl) (nle rfl) (nle rfl) (nle rfl) dX7_firstError_6 ?_
  refine x_pop C rfl dX7_firstError_9 ?_
  refine x_aload_n C 0 rfl rfl dX7_firstError_10 ?_
  refine x_get C 0 7 6 rfl rfl wLy_X7 wFL_X7_130 rfl (by decide) rfl dX7_firstError_11 ?_
  exact x_iret C hr (nle rfl) (nle rfl) dX7_firstError_14 ⟨rfl, rfl⟩
theorem lk_ne {x : Int32} {n : Int} (h : n = x.toInt) : Int32.ofInt n = x := by rw [h]; exact Int32.ofInt_toInt x
theorem lk4 {x : Int32} {a b c d : Int} (h1 : ¬ x = 99) (h2 : ¬ x = 114) (h3 : ¬ x = 115) (h4 : ¬ x = 116) : Op.lookupswitch.offset [(99, a), (114, b), (115, c), (116, d)] 125 x.toInt = 125 := by
  have g : ∀ (n : Int) (k : Int32), Int32.ofInt n = k → ¬ x = k → ¬ n = x.toInt := fun n k e h q => h ((lk_ne q).symm.trans e)
  have g1 := g 99 99 rfl h1
  have g2 := g 114 114 rfl h2
  have g3 := g 115 115 rfl h3
  have g4 := g 116 116 rfl h4
  simp [Op.lookupswitch.offset, g1, g2, g3, g4]
/-- what a command that was read holds -/
def dOk (le sk nu : Int32) : Prop := ((le = 115 ∨ le = 116) → sk = nI sk.toNatClampNeg ∧ sk.toNatClampNeg < 4) ∧ (¬ le = 99 → ¬ le = 114 → ¬ le = 115 → ¬ le = 116 → nu = nI nu.toNatClampNeg ∧ nu.toNatClampNeg ≤ 50)
def sp_X7_does (s : Nat → Int32) (dm : Nat → Int32) (le : Int32) (nu : Int32) : Int32 := (if le = 99 then 0 else (if le = 114 then 0 else (if le = 115 then 0 else (if le = 116 then 0 else (sp_fs (if le = 102 then (1 : Int32) else 0) s dm 0 ((Int32.toNatClampNeg nu) + 0)).2.2))))
def sp_X7_does_s (s : Nat → Int32) (dm : Nat → Int32) (le : Int32) (sk : Int32) (nu : Int32) : Nat → Int32 := (if le = 99 then (upd s 25 (1 - (s 25))) else (if le = 114 then (upd s 24 (1 - (s 24))) else (if le = 115 then (upd s (0 + (Int32.toNatClampNeg sk)) nu) else (if le = 116 then (upd s (16 + 4 * (Int32.toNatClampNeg (s 24)) + (Int32.toNatClampNeg sk)) nu) else (sp_fs (if le = 102 then (1 : Int32) else 0) s dm 0 ((Int32.toNatClampNeg nu) + 0)).1))))
def sp_X7_does_dm (s : Nat → Int32) (dm : Nat → Int32) (le : Int32) (nu : Int32) : Nat → Int32 := (if le = 99 then dm else (if le = 114 then dm else (if le = 115 then dm else (if le = 116 then dm else (sp_fs (if le = 102 then (1 : Int32) else 0) s dm 0 ((Int32.toNatClampNeg nu) + 0)).2.1))))
set_option maxRecDepth 100000 in
theorem k_X7_does (l : Launch) (g : xGt) (am : Nat → Nat) (s fi tx dm : Nat → Int32) (th sa ln pa le sk nu : Int32) (h : Int64) (hm : rOk s 0) (hd : dOk le sk nu) : xM l g.1 (xT g) yX7_does (ws_ yX7_does cX7_does 1 (some .int)) (xRm 7 168 0 0) 0 0 [.ref (am 0)] (wMo g am s fi tx dm th sa ln pa le sk nu h) (fun r9 w9 => r9 = some (.int (sp_X7_does s dm le nu)) ∧ w9 = (wMo g am (sp_X7_does_s s dm le sk nu) fi tx (sp_X7_does_dm s dm le nu) th sa ln pa le sk nu h)) (fun _ _ => False) := by
  have hx24 : (Int32.toNatClampNeg (s 24)) ≤ 1 := xb_le hm.2.2.1
  refine x_start (own := RX7) (nm := "does") rfl rfl (by decide +kernel) rfl (nle rfl) (fun p e σ m args below meth c A C hno hr => ?_)
  refine x_lve (lv' := [(0, .ref (am 0))]) rfl ?_
  refine x_aload_n C 0 rfl rfl dX7_does_0 ?_
  refine x_get C 0 7 7 rfl rfl wLy_X7 wFL_X7_146 rfl (by decide) rfl dX7_does_1 ?_
  by_cases h1 : le = 99
  · refine x_lookup C 111 dX7_does_4 (by decide) (by rw [h1]) (by decide) ?_
    refine x_aload_n C 0 rfl rfl dX7_does_111 ?_
    refine x_get C 0 7 1 rfl rfl wLy_X7 wFL_X7_7 rfl (by decide) rfl dX7_does_112 ?_
    refine x_bipush C 25 (by decide) dX7_does_115 ?_
    refine x_iconst C 1 (by decide) dX7_does_117 ?_
    refine x_aload_n C 0 rfl rfl dX7_does_118 ?_
    refine x_get C 0 7 1 rfl rfl wLy_X7 wFL_X7_7 rfl (by decide) rfl dX7_does_119 ?_
    refine x_bipush C 25 (by decide) dX7_does_122 ?_
    refine x_ialdN (f := s) C 1 0 25 rfl rfl rfl (by omega) (by decide) dX7_does_124 ?_
    refine x_isub C dX7_does_125 ?_
    refine x_iastN (f := s) C 1 0 25 (wMo g am (upd s 25 (1 - (s 25))) fi tx dm th sa ln pa le sk nu h) rfl rfl rfl rfl (by omega) (by decide) dX7_does_126 ?_
    refine x_iconst C 0 (by decide) dX7_does_127 ?_
    exact x_iret C hr (nle rfl) (nle rfl) dX7_does_128 ⟨(by first | (simp only [sp_X7_does, if_pos h1]; done) | (simp only [sp_X7_does, if_pos h1]; rfl)), (by first | (simp only [sp_X7_does_s, sp_X7_does_dm, if_pos h1]; done) | (simp only [sp_X7_does_s, sp_X7_does_dm, if_pos h1]; rfl))⟩
  · by_cases h2 : le = 114
    · refine x_lookup C 93 dX7_does_4 (by decide) (by rw [h2]) (by decide) ?_
      refine x_aload_n C 0 rfl rfl dX7_does_93 ?_
      refine x_get C 0 7 1 rfl rfl wLy_X7 wFL_X7_7 rfl (by decide) rfl dX7_does_94 ?_
      refine x_bipush C 24 (by decide) dX7_does_97 ?_
      refine x_iconst C 1 (by decide) dX7_does_99 ?_
      refine x_aload_n C 0 rfl rfl dX7_does_100 ?_
      refine x_get C 0 7 1 rfl rfl wLy_X7 wFL_X7_7 rfl (by decide) rfl dX7_does_101 ?_
      refine x_bipush C 24 (by decide) dX7_does_104 ?_
      refine x_ialdN (f := s) C 1 0 24 rfl rfl rfl (by omega) (by decide) dX7_does_106 ?_
      refine x_isub C dX7_does_107 ?_
      refine x_iastN (f := s) C 1 0 24 (wMo g am (upd s 24 (1 - (s 24))) fi tx dm th sa ln pa le sk nu h) rfl rfl rfl rfl (by omega) (by decide) dX7_does_108 ?_
      refine x_iconst C 0 (by decide) dX7_does_109 ?_
      exact x_iret C hr (nle rfl) (nle rfl) dX7_does_110 ⟨(by first | (simp only [sp_X7_does, if_neg h1, if_pos h2]; done) | (simp only [sp_X7_does, if_neg h1, if_pos h2]; rfl)), (by first | (simp only [sp_X7_does_s, sp_X7_does_dm, if_neg h1, if_pos h2]; done) | (simp only [sp_X7_does_s, sp_X7_does_dm, if_neg h1, if_pos h2]; rfl))⟩
    · by_cases h3 : le = 115
      · refine x_lookup C 48 dX7_does_4 (by decide) (by rw [h3]) (by decide) ?_
        refine x_aload_n C 0 rfl rfl dX7_does_48 ?_
        refine x_get C 0 7 1 rfl rfl wLy_X7 wFL_X7_7 rfl (by decide) rfl dX7_does_49 ?_
        refine x_iconst C 0 (by decide) dX7_does_52 ?_
        have hsk := (hd.1 (Or.inl h3)).2
        refine x_aload_n C 0 rfl rfl dX7_does_53 ?_
        refine x_get C 0 7 8 rfl rfl wLy_X7 wFL_X7_149 rfl (by decide) rfl dX7_does_54 ?_
        refine x_iaddN C 0 (Int32.toNatClampNeg sk) rfl (hd.1 (Or.inl h3)).1 dX7_does_57 ?_
        refine x_aload_n C 0 rfl rfl dX7_does_58 ?_
        refine x_get C 0 7 9 rfl rfl wLy_X7 wFL_X7_137 rfl (by decide) rfl dX7_does_59 ?_
        refine x_iastN (f := s) C 1 0 (0 + (Int32.toNatClampNeg sk)) (wMo g am (upd s (0 + (Int32.toNatClampNeg sk)) nu) fi tx dm th sa ln pa le sk nu h) rfl rfl rfl rfl (by omega) (by decide) dX7_does_62 ?_
        refine x_iconst C 0 (by decide) dX7_does_63 ?_
        exact x_iret C hr (nle rfl) (nle rfl) dX7_does_64 ⟨(by first | (simp only [sp_X7_does, if_neg h1, if_neg h2, if_pos h3]; done) | (simp only [sp_X7_does, if_neg h1, if_neg h2, if_pos h3]; rfl)), (by first | (simp only [sp_X7_does_s, sp_X7_does_dm, if_neg h1, if_neg h2, if_pos h3]; done) | (simp only [sp_X7_does_s, sp_X7_does_dm, if_neg h1, if_neg h2, if_pos h3]; rfl))⟩
      · by_cases h4 : le = 116
        · refine x_lookup C 65 dX7_does_4 (by decide) (by rw [h4]) (by decide) ?_
          refine x_aload_n C 0 rfl rfl dX7_does_65 ?_
          refine x_get C 0 7 1 rfl rfl wLy_X7 wFL_X7_7 rfl (by decide) rfl dX7_does_66 ?_
          have hsk := (hd.1 (Or.inr h4)).2
          refine x_bipush C 16 (by decide) dX7_does_69 ?_
          refine x_iconst C 4 (by decide) dX7_does_71 ?_
          refine x_aload_n C 0 rfl rfl dX7_does_72 ?_
          refine x_get C 0 7 1 rfl rfl wLy_X7 wFL_X7_7 rfl (by decide) rfl dX7_does_73 ?_
          refine x_bipush C 24 (by decide) dX7_does_76 ?_
          refine x_ialdN (f := s) C 1 0 24 rfl rfl rfl (by omega) (by decide) dX7_does_78 ?_
          refine x_imulN C 4 (Int32.toNatClampNeg (s 24)) rfl (xb_nat hm.2.2.1) dX7_does_79 ?_
          refine x_iaddN C 16 (4 * (Int32.toNatClampNeg (s 24))) rfl rfl dX7_does_80 ?_
          refine x_aload_n C 0 rfl rfl dX7_does_81 ?_
          refine x_get C 0 7 8 rfl rfl wLy_X7 wFL_X7_149 rfl (by decide) rfl dX7_does_82 ?_
          refine x_iaddN C (16 + 4 * (Int32.toNatClampNeg (s 24))) (Int32.toNatClampNeg sk) rfl (hd.1 (Or.inr h4)).1 dX7_does_85 ?_
          refine x_aload_n C 0 rfl rfl dX7_does_86 ?_
          refine x_get C 0 7 9 rfl rfl wLy_X7 wFL_X7_137 rfl (by decide) rfl dX7_does_87 ?_
          refine x_iastN (f := s) C 1 0 (16 + 4 * (Int32.toNatClampNeg (s 24)) + (Int32.toNatClampNeg sk)) (wMo g am (upd s (16 + 4 * (Int32.toNatClampNeg (s 24)) + (Int32.toNatClampNeg sk)) nu) fi tx dm th sa ln pa le sk nu h) rfl rfl rfl rfl (by omega) (by decide) dX7_does_90 ?_
          refine x_iconst C 0 (by decide) dX7_does_91 ?_
          exact x_iret C hr (nle rfl) (nle rfl) dX7_does_92 ⟨(by first | (simp only [sp_X7_does, if_neg h1, if_neg h2, if_neg h3, if_pos h4]; done) | (simp only [sp_X7_does, if_neg h1, if_neg h2, if_neg h3, if_pos h4]; rfl)), (by first | (simp only [sp_X7_does_s, sp_X7_does_dm, if_neg h1, if_neg h2, if_neg h3, if_pos h4]; done) | (simp only [sp_X7_does_s, sp_X7_does_dm, if_neg h1, if_neg h2, if_neg h3, if_pos h4]; rfl))⟩
        · refine x_lookup C 129 dX7_does_4 (by decide) (lk4 h1 h2 h3 h4) (by decide) ?_
          have hnu := hd.2 h1 h2 h3 h4
          have hnu2 := hnu.2
          refine x_aload_n C 0 rfl rfl dX7_does_129 ?_
          refine x_aload_n C 0 rfl rfl dX7_does_130 ?_
          refine x_get C 0 7 9 rfl rfl wLy_X7 wFL_X7_137 rfl (by decide) rfl dX7_does_131 ?_
          refine x_aload_n C 0 rfl rfl dX7_does_134 ?_
          refine x_get C 0 7 7 rfl rfl wLy_X7 wFL_X7_146 rfl (by decide) rfl dX7_does_135 ?_
          refine x_bipush C 102 (by decide) dX7_does_138 ?_
          suffices K6 : xW p l e _ σ m args below meth c g.1 A 1 0 0 _ (wMo g am s fi tx dm th sa ln pa le sk nu h) [(0, .ref (am 0))] 148 [.int (if le = 102 then (1 : Int32) else 0), .int nu, .ref (am 0)] by
            refine x_icmp_ne C 147 (by decide) dX7_does_140 (fun h5 => ?_) (fun h5 => ?_)
            · refine x_iconst C 0 (by decide) dX7_does_147 ?_
              refine x_st (st' := [.int (if le = 102 then (1 : Int32) else 0), .int nu, .ref (am 0)]) (by simp only [if_neg h5]) ?_
              exact K6
            · refine x_iconst C 1 (by decide) dX7_does_143 ?_
              refine x_goto C 148 (by decide) dX7_does_144 ?_
              refine x_st (st' := [.int (if le = 102 then (1 : Int32) else 0), .int nu, .ref (am 0)]) (by simp only [if_pos h5]) ?_
              exact K6
          refine x_FV (w1 := ([] : va_W)) (wc := (wMo g am s fi tx dm th sa ln pa le sk nu h)) (w2 := ([] : va_W)) [.int nu, .int (if le = 102 then (1 : Int32) else 0)] [] (wMo g am ((sp_fs (if le = 102 then (1 : Int32) else 0) s dm 0 ((Int32.toNatClampNeg nu) + 0)).1) fi tx ((sp_fs (if le = 102 then (1 : Int32) else 0) s dm 0 ((Int32.toNatClampNeg nu) + 0)).2.1) th sa ln pa le sk nu h) C (k_X7_framesSent l g am s fi tx dm th sa ln pa le sk nu h nu (Int32.toNatClampNeg nu) hnu.1 (if le = 102 then (1 : Int32) else 0) (bool_ite (Or.inr rfl) (Or.inl rfl)) (by omega) hm) rfl yV_X7_framesSent wML_X7_120 rfl 0 rfl rfl rfl rfl (nle rfl) (nle rfl) (nle rfl) (nle rfl) (nle rfl) dX7_does_148 ?_
          exact x_iret C hr (nle rfl) (nle rfl) dX7_does_151 ⟨(by first | (simp only [sp_X7_does, if_neg h1, if_neg h2, if_neg h3, if_neg h4]; done) | (simp only [sp_X7_does, if_neg h1, if_neg h2, if_neg h3, if_neg h4]; rfl)), (by first | (simp only [sp_X7_does_s, sp_X7_does_dm, if_neg h1, if_neg h2, if_neg h3, if_neg h4]; done) | (simp only [sp_X7_does_s, sp_X7_does_dm, if_neg h1, if_neg h2, if_neg h3, if_neg h4]; rfl))⟩
theorem rOk_upd {s : Nat → Int32} {k : Nat} {v : Int32} (hm : rOk s 0) (hk : k < 26 ∨ 87 ≤ k) (h24 : k = 24 → v = 0 ∨ v = 1) : rOk (upd s k v) 0 := by
  obtain ⟨h1, h2, h3, h4⟩ := hm
  have e : ∀ j, j ≠ k → upd s k v j = s j := fun j hj => if_neg hj
  have eN : rN (upd s k v) 0 = rN s 0 := by unfold rN; rw [e _ (by omega)]
  refine ⟨by rw [eN, e _ (by omega)]; exact h1, by rw [eN]; exact h2, ?_, fun j hj => ?_⟩
  · by_cases c : 0 + 24 = k
    · rw [← c, up_eq]; exact h24 (by omega)
    · rw [e _ c]; exact h3
  · rw [eN] at hj
    have hj2 := h2
    have eS : rS (upd s k v) 0 j = rS s 0 j := by unfold rS; rw [e _ (by omega)]
    rw [eS, e _ (by omega)]
    exact h4 j hj
theorem does_ok {s dm : Nat → Int32} {le sk nu : Int32} (hm : rOk s 0) (hd : dOk le sk nu) : rOk (sp_X7_does_s s dm le sk nu) 0 := by
  have h24 := xb_le hm.2.2.1
  have h24' : (s 24).toNatClampNeg ≤ 1 := h24
  unfold sp_X7_does_s
  split
  · exact rOk_upd hm (Or.inl (by decide)) (fun e => absurd e (by decide))
  · split
    · refine rOk_upd hm (Or.inl (by decide)) (fun _ => ?_)
      rcases hm.2.2.1 with e | e
      · have e : s 24 = 0 := e
        rw [e]; exact Or.inr (by decide)
      · have e : s 24 = 1 := e
        rw [e]; exact Or.inl (by decide)
    · split
      · rename_i c
        have := (hd.1 (Or.inl c)).2
        exact rOk_upd hm (Or.inl (by omega)) (fun e => by omega)
      · split
        · rename_i c
          have := (hd.1 (Or.inr c)).2
          exact rOk_upd hm (Or.inl (by omega)) (fun e => by omega)
        · exact rOk_of (fun k _ h2 => sp_fs_lo _ _ _ _ k (by omega) _) hm
theorem in_rng {x lo hi : Int32} {a b : Nat} (h : ¬ sp_X7_in x lo hi = 0) (ha : lo = nI a) (hb : hi = nI b) (ha2 : a < 2 ^ 31) (hb2 : b < 2 ^ 31) : x = nI x.toNatClampNeg ∧ a ≤ x.toNatClampNeg ∧ x.toNatClampNeg ≤ b := by
  have h0 : (0 : Int32) ≤ lo := by rw [ha]; exact nI_pos' ha2
  have e := in_nat h h0
  refine ⟨e, ?_, in_le h h0 hb hb2⟩
  unfold sp_X7_in at h
  by_cases c : x < lo
  · exact absurd (if_pos c) h
  · have d : lo ≤ x := Int32.not_lt.mp c
    rw [e, ha] at d
    exact (nI_leI ha2 (Int32.toNatClampNeg_lt x)).mp d
theorem rdl_nu {tx : Nat → Int32} {ln : Int32} : ∀ (f : Nat) (nu pa : Int32), nu = nI nu.toNatClampNeg → nu.toNatClampNeg ≤ 50 → (sp_rdl tx ln 50 f nu pa).1 = nI (sp_rdl tx ln 50 f nu pa).1.toNatClampNeg ∧ (sp_rdl tx ln 50 f nu pa).1.toNatClampNeg ≤ 50
  | 0, _, _, h1, h2 => ⟨h1, h2⟩
  | f + 1, nu, pa, h1, h2 => by
    simp only [sp_rdl]
    split
    · exact ⟨h1, h2⟩
    · split
      · exact ⟨h1, h2⟩
      · rename_i c
        obtain ⟨r1, r2, r3⟩ := in_rng c (show (48 : Int32) = nI 48 from rfl) (show (57 : Int32) = nI 57 from rfl) (by decide) (by decide)
        have e : (10 * nu + sp_X7_sign tx ln pa) - 48 = nI (10 * nu.toNatClampNeg + (sp_X7_sign tx ln pa).toNatClampNeg - 48) := by
          conv => lhs; rw [h1, r1]
          rw [show (10 : Int32) = nI 10 from rfl, show (48 : Int32) = nI 48 from rfl, pk_mul, nI_add, pk_sub (by omega)]
        split
        · exact ⟨h1, h2⟩
        · rename_i d
          have hq : 10 * nu.toNatClampNeg + (sp_X7_sign tx ln pa).toNatClampNeg - 48 < 2 ^ 31 := by omega
          have e2 : ((10 * nu + sp_X7_sign tx ln pa) - 48).toNatClampNeg = 10 * nu.toNatClampNeg + (sp_X7_sign tx ln pa).toNatClampNeg - 48 := by rw [e, nI_clamp hq]
          have d2 : ((10 * nu + sp_X7_sign tx ln pa) - 48) ≤ 50 := Int32.not_lt.mp d
          rw [e, show (50 : Int32) = nI 50 from rfl] at d2
          have d3 := (nI_leI hq (by decide)).mp d2
          exact rdl_nu f _ (pa + 1) (by rw [e2]; exact e) (by rw [e2]; exact d3)
theorem takes_no {tx : Nat → Int32} {ln pa cc : Int32} (h : sp_X7_takes tx ln pa cc = 0) : sp_X7_takes_pa tx ln pa cc = pa ∧ ¬ sp_X7_sign tx ln pa = cc := by
  unfold sp_X7_takes at h
  by_cases c : sp_X7_sign tx ln pa = cc
  · rw [if_pos c] at h; exact absurd h (by decide)
  · unfold sp_X7_takes_pa
    simp only [if_neg c, if_true]
    exact ⟨Int32.add_zero pa, c⟩
theorem takes_yes {tx : Nat → Int32} {ln pa cc : Int32} (h : ¬ sp_X7_takes tx ln pa cc = 0) : sp_X7_sign tx ln pa = cc := by
  unfold sp_X7_takes at h
  by_cases c : sp_X7_sign tx ln pa = cc
  · exact c
  · rw [if_neg c] at h; exact absurd rfl h
theorem rdD_nu {tx : Nat → Int32} {ln pa nu : Int32} (h : ¬ sp_X7_readsDigits tx ln pa 1 = 0) : sp_X7_readsDigits_nu tx ln pa nu 1 50 = nI (sp_X7_readsDigits_nu tx ln pa nu 1 50).toNatClampNeg ∧ (sp_X7_readsDigits_nu tx ln pa nu 1 50).toNatClampNeg ≤ 50 := by
  unfold sp_X7_readsDigits at h
  unfold sp_X7_readsDigits_nu
  by_cases c : sp_X7_in (sp_X7_sign tx ln pa) (48 + 1) 57 = 0
  · rw [if_pos c] at h; exact absurd rfl h
  · rw [if_neg c]
    obtain ⟨r1, r2, r3⟩ := in_rng c (show (48 + 1 : Int32) = nI 49 from rfl) (show (57 : Int32) = nI 57 from rfl) (by decide) (by decide)
    have e : sp_X7_sign tx ln pa - 48 = nI ((sp_X7_sign tx ln pa).toNatClampNeg - 48) := by
      conv => lhs; rw [r1]
      rw [show (48 : Int32) = nI 48 from rfl, pk_sub (by omega)]
    have e2 : (sp_X7_sign tx ln pa - 48).toNatClampNeg = (sp_X7_sign tx ln pa).toNatClampNeg - 48 := by rw [e, nI_clamp (by omega)]
    exact rdl_nu 61 _ (pa + 1) (by rw [e2]; exact e) (by rw [e2]; omega)
theorem st_sk {x : Int32} (h : ¬ sp_X7_in x 0 3 = 0) : x = nI x.toNatClampNeg ∧ x.toNatClampNeg < 4 := ⟨in_nat h (by decide), by have := in_le h (by decide) (show (3 : Int32) = nI 3 from rfl) (by decide); omega⟩
theorem rc_dOk {tx : Nat → Int32} {ln pa sk nu : Int32} (h : ¬ sp_X7_readsCommand tx ln pa = 0) : dOk (sp_X7_sign tx ln pa) (sp_X7_readsCommand_sk tx ln pa sk) (sp_X7_readsCommand_nu tx ln pa nu) := by
  unfold sp_X7_readsCommand at h
  unfold sp_X7_readsCommand_sk sp_X7_readsCommand_nu
  by_cases k1 : sp_X7_takes tx ln pa 115 = 0
  · simp only [if_pos k1] at h ⊢
    obtain ⟨e1, n1⟩ := takes_no k1
    rw [e1] at h ⊢
    by_cases k2 : sp_X7_takes tx ln pa 116 = 0
    · simp only [if_pos k2] at h ⊢
      obtain ⟨e2, n2⟩ := takes_no k2
      rw [e2] at h ⊢
      refine ⟨fun q => absurd q (by rintro (q | q); exact n1 q; exact n2 q), fun a b _ _ => ?_⟩
      by_cases k3 : sp_X7_takes tx ln pa 102 = 0
      · simp only [if_pos k3] at h ⊢
        obtain ⟨e3, n3⟩ := takes_no k3
        rw [e3] at h ⊢
        by_cases k4 : sp_X7_takes tx ln pa 108 = 0
        · simp only [if_pos k4] at h ⊢
          obtain ⟨e4, n4⟩ := takes_no k4
          rw [e4] at h
          by_cases k5 : sp_X7_takes tx ln pa 114 = 0
          · simp only [if_pos k5] at h
            obtain ⟨e5, n5⟩ := takes_no k5
            rw [e5] at h
            by_cases k6 : sp_X7_takes tx ln pa 99 = 0
            · rw [if_pos k6] at h; exact absurd rfl h
            · exact absurd (takes_yes k6) a
          · exact absurd (takes_yes k5) b
        · simp only [if_neg k4] at h ⊢
          exact rdD_nu h
      · simp only [if_neg k3] at h ⊢
        exact rdD_nu h
    · simp only [if_neg k2] at h ⊢
      have y := takes_yes k2
      refine ⟨fun _ => ?_, fun _ _ _ q => absurd y q⟩
      by_cases k3 : sp_X7_in (sp_X7_sign tx ln (sp_X7_takes_pa tx ln pa 116) - 48) 0 3 = 0
      · rw [if_pos k3] at h; exact absurd rfl h
      · exact st_sk k3
  · simp only [if_neg k1] at h ⊢
    have y := takes_yes k1
    refine ⟨fun _ => ?_, fun _ _ q _ => absurd y q⟩
    by_cases k3 : sp_X7_in (sp_X7_sign tx ln (sp_X7_takes_pa tx ln pa 115) - 48) 0 3 = 0
    · rw [if_pos k3] at h; exact absurd rfl h
    · exact st_sk k3
def sp_run (tx : Nat → Int32) (ln : Int32) : Nat → (Nat → Int32) → (Nat → Int32) → (Int32) → (Int32) → (Int32) → (Int32) → (Int32) → (Nat → Int32) × (Nat → Int32) × (Int32) × (Int32) × (Int32) × (Int32) × (Int32)
  | 0, v2_s, v2_dm, v2_1, v2_pa, v2_le, v2_sk, v2_nu => (v2_s, v2_dm, v2_1, v2_pa, v2_le, v2_sk, v2_nu)
  | f_ + 1, v2_s, v2_dm, v2_1, v2_pa, v2_le, v2_sk, v2_nu => (if (sp_X7_readsCommand tx ln v2_pa) = 0 then (v2_s, v2_dm, v2_1, (sp_X7_readsCommand_pa tx ln v2_pa), (sp_X7_readsCommand_le tx ln v2_pa), (sp_X7_readsCommand_sk tx ln v2_pa v2_sk), (sp_X7_readsCommand_nu tx ln v2_pa v2_nu)) else (sp_run tx ln f_ (sp_X7_does_s v2_s v2_dm (sp_X7_readsCommand_le tx ln v2_pa) (sp_X7_readsCommand_sk tx ln v2_pa v2_sk) (sp_X7_readsCommand_nu tx ln v2_pa v2_nu)) (sp_X7_does_dm v2_s v2_dm (sp_X7_readsCommand_le tx ln v2_pa) (sp_X7_readsCommand_nu tx ln v2_pa v2_nu)) (v2_1 + (sp_X7_does v2_s v2_dm (sp_X7_readsCommand_le tx ln v2_pa) (sp_X7_readsCommand_nu tx ln v2_pa v2_nu))) (sp_X7_takes_pa tx ln (sp_X7_readsCommand_pa tx ln v2_pa) 59) (sp_X7_readsCommand_le tx ln v2_pa) (sp_X7_readsCommand_sk tx ln v2_pa v2_sk) (sp_X7_readsCommand_nu tx ln v2_pa v2_nu)))
def sp_X7_run (s : Nat → Int32) (tx : Nat → Int32) (dm : Nat → Int32) (sa : Int32) (ln : Int32) (le : Int32) (sk : Int32) (nu : Int32) : Int32 := (if ((sp_ipl tx ln 61 0 le sk nu).1) = 0 then 0 else (sp_run tx ln 61 (sp_X7_save_s s sa) dm 0 0 ((sp_ipl tx ln 61 0 le sk nu).2.2.1) ((sp_ipl tx ln 61 0 le sk nu).2.2.2.1) ((sp_ipl tx ln 61 0 le sk nu).2.2.2.2)).2.2.1)
def sp_X7_run_s (s : Nat → Int32) (tx : Nat → Int32) (dm : Nat → Int32) (sa : Int32) (ln : Int32) (le : Int32) (sk : Int32) (nu : Int32) : Nat → Int32 := (if ((sp_ipl tx ln 61 0 le sk nu).1) = 0 then s else (sp_run tx ln 61 (sp_X7_save_s s sa) dm 0 0 ((sp_ipl tx ln 61 0 le sk nu).2.2.1) ((sp_ipl tx ln 61 0 le sk nu).2.2.2.1) ((sp_ipl tx ln 61 0 le sk nu).2.2.2.2)).1)
def sp_X7_run_dm (s : Nat → Int32) (tx : Nat → Int32) (dm : Nat → Int32) (sa : Int32) (ln : Int32) (le : Int32) (sk : Int32) (nu : Int32) : Nat → Int32 := (if ((sp_ipl tx ln 61 0 le sk nu).1) = 0 then dm else (sp_run tx ln 61 (sp_X7_save_s s sa) dm 0 0 ((sp_ipl tx ln 61 0 le sk nu).2.2.1) ((sp_ipl tx ln 61 0 le sk nu).2.2.2.1) ((sp_ipl tx ln 61 0 le sk nu).2.2.2.2)).2.1)
def sp_X7_run_th (tx : Nat → Int32) (ln : Int32) (le : Int32) (sk : Int32) (nu : Int32) : Int32 := (if ((sp_ipl tx ln 61 0 le sk nu).1) = 0 then 1 else 0)
def sp_X7_run_sa (tx : Nat → Int32) (sa : Int32) (ln : Int32) (le : Int32) (sk : Int32) (nu : Int32) : Int32 := (if ((sp_ipl tx ln 61 0 le sk nu).1) = 0 then sa else (sp_X7_save_sa sa))
def sp_X7_run_ln (tx : Nat → Int32) (ln : Int32) (le : Int32) (sk : Int32) (nu : Int32) : Int32 := (if ((sp_ipl tx ln 61 0 le sk nu).1) = 0 then ln else 0)
def sp_X7_run_pa (s : Nat → Int32) (tx : Nat → Int32) (dm : Nat → Int32) (sa : Int32) (ln : Int32) (le : Int32) (sk : Int32) (nu : Int32) : Int32 := (if ((sp_ipl tx ln 61 0 le sk nu).1) = 0 then (sp_ipl tx ln 61 0 le sk nu).2.1 else (sp_run tx ln 61 (sp_X7_save_s s sa) dm 0 0 ((sp_ipl tx ln 61 0 le sk nu).2.2.1) ((sp_ipl tx ln 61 0 le sk nu).2.2.2.1) ((sp_ipl tx ln 61 0 le sk nu).2.2.2.2)).2.2.2.1)
def sp_X7_run_le (s : Nat → Int32) (tx : Nat → Int32) (dm : Nat → Int32) (sa : Int32) (ln : Int32) (le : Int32) (sk : Int32) (nu : Int32) : Int32 := (if ((sp_ipl tx ln 61 0 le sk nu).1) = 0 then (sp_ipl tx ln 61 0 le sk nu).2.2.1 else (sp_run tx ln 61 (sp_X7_save_s s sa) dm 0 0 ((sp_ipl tx ln 61 0 le sk nu).2.2.1) ((sp_ipl tx ln 61 0 le sk nu).2.2.2.1) ((sp_ipl tx ln 61 0 le sk nu).2.2.2.2)).2.2.2.2.1)
def sp_X7_run_sk (s : Nat → Int32) (tx : Nat → Int32) (dm : Nat → Int32) (sa : Int32) (ln : Int32) (le : Int32) (sk : Int32) (nu : Int32) : Int32 := (if ((sp_ipl tx ln 61 0 le sk nu).1) = 0 then (sp_ipl tx ln 61 0 le sk nu).2.2.2.1 else (sp_run tx ln 61 (sp_X7_save_s s sa) dm 0 0 ((sp_ipl tx ln 61 0 le sk nu).2.2.1) ((sp_ipl tx ln 61 0 le sk nu).2.2.2.1) ((sp_ipl tx ln 61 0 le sk nu).2.2.2.2)).2.2.2.2.2.1)
def sp_X7_run_nu (s : Nat → Int32) (tx : Nat → Int32) (dm : Nat → Int32) (sa : Int32) (ln : Int32) (le : Int32) (sk : Int32) (nu : Int32) : Int32 := (if ((sp_ipl tx ln 61 0 le sk nu).1) = 0 then (sp_ipl tx ln 61 0 le sk nu).2.2.2.2 else (sp_run tx ln 61 (sp_X7_save_s s sa) dm 0 0 ((sp_ipl tx ln 61 0 le sk nu).2.2.1) ((sp_ipl tx ln 61 0 le sk nu).2.2.2.1) ((sp_ipl tx ln 61 0 le sk nu).2.2.2.2)).2.2.2.2.2.2)
set_option maxRecDepth 100000 in
theorem k_X7_run (l : Launch) (g : xGt) (am : Nat → Nat) (s fi tx dm : Nat → Int32) (th sa ln pa le sk nu : Int32) (h : Int64) (hs : sa = nI (Int32.toNatClampNeg sa)) (hs6 : Int32.toNatClampNeg sa ≤ 6) (hm : rOk s 0) (hln : ln = nI (Int32.toNatClampNeg ln) ∧ Int32.toNatClampNeg ln ≤ 60) : xM l g.1 (xT g) yX7_run (ws_ yX7_run cX7_run 2 (some .int)) (xRm 8 188 0 0) 0 0 [.ref (am 0)] (wMo g am s fi tx dm th sa ln pa le sk nu h) (fun r9 w9 => r9 = some (.int (sp_X7_run s tx dm sa ln le sk nu)) ∧ w9 = (wMo g am (sp_X7_run_s s tx dm sa ln le sk nu) fi tx (sp_X7_run_dm s tx dm sa ln le sk nu) (sp_X7_run_th tx ln le sk nu) (sp_X7_run_sa tx sa ln le sk nu) (sp_X7_run_ln tx ln le sk nu) (sp_X7_run_pa s tx dm sa ln le sk nu) (sp_X7_run_le s tx dm sa ln le sk nu) (sp_X7_run_sk s tx dm sa ln le sk nu) (sp_X7_run_nu s tx dm sa ln le sk nu) h)) (fun _ _ => False) := by
  refine x_start (own := RX7) (nm := "run") rfl rfl (by decide +kernel) rfl (nle rfl) (fun p e σ m args below meth c A C hno hr => ?_)
  refine x_lve (lv' := [(0, .ref (am 0))]) rfl ?_
  refine x_aload_n C 0 rfl rfl dX7_run_0 ?_
  refine x_aload_n C 0 rfl rfl dX7_run_1 ?_
  refine x_FV (w1 := ([] : va_W)) (wc := (wMo g am s fi tx dm th sa ln pa le sk nu h)) (w2 := ([] : va_W)) [] [.ref (am 0)] (wMo g am s fi tx dm th sa ln ((sp_ipl tx ln 61 0 le sk nu).2.1) ((sp_ipl tx ln 61 0 le sk nu).2.2.1) ((sp_ipl tx ln 61 0 le sk nu).2.2.2.1) ((sp_ipl tx ln 61 0 le sk nu).2.2.2.2) h) C (k_X7_isProgram l g am s fi tx dm th sa ln pa le sk nu h hln) rfl yV_X7_isProgram wML_X7_159 rfl 0 rfl rfl rfl rfl (nle rfl) (nle rfl) (nle rfl) (nle rfl) (nle rfl) dX7_run_2 ?_
  refine x_if_eq C 12 (by decide) dX7_run_5 (fun h1 => ?_) (fun h1 => ?_)
  · refine x_iconst C 1 (by decide) dX7_run_12 ?_
    refine x_FV (w1 := ([] : va_W)) (wc := (wMo g am s fi tx dm th sa ln ((sp_ipl tx ln 61 0 le sk nu).2.1) ((sp_ipl tx ln 61 0 le sk nu).2.2.1) ((sp_ipl tx ln 61 0 le sk nu).2.2.2.1) ((sp_ipl tx ln 61 0 le sk nu).2.2.2.2) h)) (w2 := ([] : va_W)) [.int 1] [] (wMo g am s fi tx dm 1 sa ln ((sp_ipl tx ln 61 0 le sk nu).2.1) ((sp_ipl tx ln 61 0 le sk nu).2.2.1) ((sp_ipl tx ln 61 0 le sk nu).2.2.2.1) ((sp_ipl tx ln 61 0 le sk nu).2.2.2.2) h) C (k_X7_holds l g am s fi tx dm th sa ln ((sp_ipl tx ln 61 0 le sk nu).2.1) ((sp_ipl tx ln 61 0 le sk nu).2.2.1) ((sp_ipl tx ln 61 0 le sk nu).2.2.2.1) ((sp_ipl tx ln 61 0 le sk nu).2.2.2.2) h 1) rfl yV_X7_holds wML_X7_99 rfl 0 rfl rfl rfl rfl (nle rfl) (nle rfl) (nle rfl) (nle rfl) (nle rfl) dX7_run_13 ?_
    refine x_st (st' := [.int 0]) (by rw [show (sp_X7_holds 1) = 0 from by decide]) ?_
    refine x_if_ne C 21 (by decide) dX7_run_16 (fun hz => absurd (by decide) hz) (fun _ => ?_)
    refine x_iconst C 0 (by decide) dX7_run_19 ?_
    exact x_iret C hr (nle rfl) (nle rfl) dX7_run_20 ⟨(by first | (simp only [sp_X7_run, if_pos h1]; done) | (simp only [sp_X7_run, if_pos h1]; rfl)), (by first | (simp only [sp_X7_run_s, sp_X7_run_dm, sp_X7_run_th, sp_X7_run_sa, sp_X7_run_ln, sp_X7_run_pa, sp_X7_run_le, sp_X7_run_sk, sp_X7_run_nu, if_pos h1]; done) | (simp only [sp_X7_run_s, sp_X7_run_dm, sp_X7_run_th, sp_X7_run_sa, sp_X7_run_ln, sp_X7_run_pa, sp_X7_run_le, sp_X7_run_sk, sp_X7_run_nu, if_pos h1]; rfl))⟩
  · refine x_iconst C 0 (by decide) dX7_run_8 ?_
    refine x_goto C 13 (by decide) dX7_run_9 ?_
    refine x_FV (w1 := ([] : va_W)) (wc := (wMo g am s fi tx dm th sa ln ((sp_ipl tx ln 61 0 le sk nu).2.1) ((sp_ipl tx ln 61 0 le sk nu).2.2.1) ((sp_ipl tx ln 61 0 le sk nu).2.2.2.1) ((sp_ipl tx ln 61 0 le sk nu).2.2.2.2) h)) (w2 := ([] : va_W)) [.int 0] [] (wMo g am s fi tx dm 0 sa ln ((sp_ipl tx ln 61 0 le sk nu).2.1) ((sp_ipl tx ln 61 0 le sk nu).2.2.1) ((sp_ipl tx ln 61 0 le sk nu).2.2.2.1) ((sp_ipl tx ln 61 0 le sk nu).2.2.2.2) h) C (k_X7_holds l g am s fi tx dm th sa ln ((sp_ipl tx ln 61 0 le sk nu).2.1) ((sp_ipl tx ln 61 0 le sk nu).2.2.1) ((sp_ipl tx ln 61 0 le sk nu).2.2.2.1) ((sp_ipl tx ln 61 0 le sk nu).2.2.2.2) h 0) rfl yV_X7_holds wML_X7_99 rfl 0 rfl rfl rfl rfl (nle rfl) (nle rfl) (nle rfl) (nle rfl) (nle rfl) dX7_run_13 ?_
    refine x_st (st' := [.int 1]) (by rw [show (sp_X7_holds 0) = 1 from by decide]) ?_
    refine x_if_ne C 21 (by decide) dX7_run_16 (fun _ => ?_) (fun hz => absurd hz (by decide))
    refine x_aload_n C 0 rfl rfl dX7_run_21 ?_
    refine x_GV (w1 := ([] : va_W)) (wc := (wMo g am s fi tx dm 0 sa ln ((sp_ipl tx ln 61 0 le sk nu).2.1) ((sp_ipl tx ln 61 0 le sk nu).2.2.1) ((sp_ipl tx ln 61 0 le sk nu).2.2.2.1) ((sp_ipl tx ln 61 0 le sk nu).2.2.2.2) h)) (w2 := ([] : va_W)) [] [] (wMo g am (sp_X7_save_s s sa) fi tx dm 0 (sp_X7_save_sa sa) ln ((sp_ipl tx ln 61 0 le sk nu).2.1) ((sp_ipl tx ln 61 0 le sk nu).2.2.1) ((sp_ipl tx ln 61 0 le sk nu).2.2.2.1) ((sp_ipl tx ln 61 0 le sk nu).2.2.2.2) h) C (k_X7_save l g am s fi tx dm 0 sa ln ((sp_ipl tx ln 61 0 le sk nu).2.1) ((sp_ipl tx ln 61 0 le sk nu).2.2.1) ((sp_ipl tx ln 61 0 le sk nu).2.2.2.1) ((sp_ipl tx ln 61 0 le sk nu).2.2.2.2) h hs hs6) rfl yV_X7_save wML_X7_92 rfl 0 rfl rfl rfl rfl (nle rfl) (nle rfl) (nle rfl) (nle rfl) (nle rfl) dX7_run_22 ?_
    refine x_aload_n C 0 rfl rfl dX7_run_25 ?_
    refine x_iconst C 0 (by decide) dX7_run_26 ?_
    refine x_put C 0 7 6 tyX7 (wMo g am (sp_X7_save_s s sa) fi tx dm 0 (sp_X7_save_sa sa) ln 0 ((sp_ipl tx ln 61 0 le sk nu).2.2.1) ((sp_ipl tx ln 61 0 le sk nu).2.2.2.1) ((sp_ipl tx ln 61 0 le sk nu).2.2.2.2) h) rfl rfl rfl wLy_X7 tyX7_ok nmX7 wFL_X7_130 rfl (by decide) rfl rfl rfl rfl (nlt rfl) dX7_run_27 ?_
    refine x_iconst C 0 (by decide) dX7_run_30 ?_
    refine x_istore_n C [(1, .int 0), (0, .ref (am 0))] rfl rfl (by decide) dX7_run_31 ?_
    suffices KT2 : xW p l e _ σ m args below meth c g.1 A 2 0 0 _ (wMo g am ((sp_run tx ln 61 (sp_X7_save_s s sa) dm 0 0 ((sp_ipl tx ln 61 0 le sk nu).2.2.1) ((sp_ipl tx ln 61 0 le sk nu).2.2.2.1) ((sp_ipl tx ln 61 0 le sk nu).2.2.2.2)).1) fi tx ((sp_run tx ln 61 (sp_X7_save_s s sa) dm 0 0 ((sp_ipl tx ln 61 0 le sk nu).2.2.1) ((sp_ipl tx ln 61 0 le sk nu).2.2.2.1) ((sp_ipl tx ln 61 0 le sk nu).2.2.2.2)).2.1) 0 (sp_X7_save_sa sa) ln ((sp_run tx ln 61 (sp_X7_save_s s sa) dm 0 0 ((sp_ipl tx ln 61 0 le sk nu).2.2.1) ((sp_ipl tx ln 61 0 le sk nu).2.2.2.1) ((sp_ipl tx ln 61 0 le sk nu).2.2.2.2)).2.2.2.1) ((sp_run tx ln 61 (sp_X7_save_s s sa) dm 0 0 ((sp_ipl tx ln 61 0 le sk nu).2.2.1) ((sp_ipl tx ln 61 0 le sk nu).2.2.2.1) ((sp_ipl tx ln 61 0 le sk nu).2.2.2.2)).2.2.2.2.1) ((sp_run tx ln 61 (sp_X7_save_s s sa) dm 0 0 ((sp_ipl tx ln 61 0 le sk nu).2.2.1) ((sp_ipl tx ln 61 0 le sk nu).2.2.2.1) ((sp_ipl tx ln 61 0 le sk nu).2.2.2.2)).2.2.2.2.2.1) ((sp_run tx ln 61 (sp_X7_save_s s sa) dm 0 0 ((sp_ipl tx ln 61 0 le sk nu).2.2.1) ((sp_ipl tx ln 61 0 le sk nu).2.2.2.1) ((sp_ipl tx ln 61 0 le sk nu).2.2.2.2)).2.2.2.2.2.2) h) [(1, .int ((sp_run tx ln 61 (sp_X7_save_s s sa) dm 0 0 ((sp_ipl tx ln 61 0 le sk nu).2.2.1) ((sp_ipl tx ln 61 0 le sk nu).2.2.2.1) ((sp_ipl tx ln 61 0 le sk nu).2.2.2.2)).2.2.1)), (0, .ref (am 0))] 56 [] by
      suffices KL2 : ∀ (f_ : Nat) (v2_s : Nat → Int32) (v2_dm : Nat → Int32) (v2_1 : Int32) (v2_pa : Int32) (v2_le : Int32) (v2_sk : Int32) (v2_nu : Int32), rOk v2_s 0 ∧ pOk ln v2_pa → ln.toNatClampNeg - v2_pa.toNatClampNeg < f_ → sp_run tx ln f_ v2_s v2_dm v2_1 v2_pa v2_le v2_sk v2_nu = (sp_run tx ln 61 (sp_X7_save_s s sa) dm 0 0 ((sp_ipl tx ln 61 0 le sk nu).2.2.1) ((sp_ipl tx ln 61 0 le sk nu).2.2.2.1) ((sp_ipl tx ln 61 0 le sk nu).2.2.2.2)) → xW p l e _ σ m args below meth c g.1 A 2 0 0 _ (wMo g am v2_s fi tx v2_dm 0 (sp_X7_save_sa sa) ln v2_pa v2_le v2_sk v2_nu h) [(1, .int v2_1), (0, .ref (am 0))] 32 [] by
        exact KL2 61 (sp_X7_save_s s sa) dm 0 0 ((sp_ipl tx ln 61 0 le sk nu).2.2.1) ((sp_ipl tx ln 61 0 le sk nu).2.2.2.1) ((sp_ipl tx ln 61 0 le sk nu).2.2.2.2) ⟨save_ok hm, pOk_0 hln⟩ (by have := hln.2; show ln.toNatClampNeg - 0 < 61; omega) rfl
      intro f_
      induction f_ with
      | zero =>
        intro v2_s v2_dm v2_1 v2_pa v2_le v2_sk v2_nu hi2 hme2 hq2
        exact absurd hme2 (Nat.not_lt_zero _)
      | succ f_ ih2 =>
        intro v2_s v2_dm v2_1 v2_pa v2_le v2_sk v2_nu hi2 hme2 hq2
        refine x_aload_n C 1 rfl rfl dX7_run_32 ?_
        refine x_FV (w1 := ([] : va_W)) (wc := (wMo g am v2_s fi tx v2_dm 0 (sp_X7_save_sa sa) ln v2_pa v2_le v2_sk v2_nu h)) (w2 := ([] : va_W)) [] [] (wMo g am v2_s fi tx v2_dm 0 (sp_X7_save_sa sa) ln (sp_X7_readsCommand_pa tx ln v2_pa) (sp_X7_readsCommand_le tx ln v2_pa) (sp_X7_readsCommand_sk tx ln v2_pa v2_sk) (sp_X7_readsCommand_nu tx ln v2_pa v2_nu) h) C (k_X7_readsCommand l g am v2_s fi tx v2_dm 0 (sp_X7_save_sa sa) ln v2_pa v2_le v2_sk v2_nu h hi2.2) rfl yV_X7_readsCommand wML_X7_155 rfl 0 rfl rfl rfl rfl (nle rfl) (nle rfl) (nle rfl) (nle rfl) (nle rfl) dX7_run_33 ?_
        refine x_if_eq C 56 (by decide) dX7_run_36 (fun h3 => ?_) (fun h3 => ?_)
        · have e4 : (sp_run tx ln 61 (sp_X7_save_s s sa) dm 0 0 ((sp_ipl tx ln 61 0 le sk nu).2.2.1) ((sp_ipl tx ln 61 0 le sk nu).2.2.2.1) ((sp_ipl tx ln 61 0 le sk nu).2.2.2.2)) = (v2_s, v2_dm, v2_1, (sp_X7_readsCommand_pa tx ln v2_pa), (sp_X7_readsCommand_le tx ln v2_pa), (sp_X7_readsCommand_sk tx ln v2_pa v2_sk), (sp_X7_readsCommand_nu tx ln v2_pa v2_nu)) := by rw [← hq2]; simp only [sp_run, if_pos h3]
          refine x_lve (lv' := [(1, .int ((sp_run tx ln 61 (sp_X7_save_s s sa) dm 0 0 ((sp_ipl tx ln 61 0 le sk nu).2.2.1) ((sp_ipl tx ln 61 0 le sk nu).2.2.2.1) ((sp_ipl tx ln 61 0 le sk nu).2.2.2.2)).2.2.1)), (0, .ref (am 0))]) (by simp only [e4]) ?_
          refine x_ws (ws' := (wMo g am ((sp_run tx ln 61 (sp_X7_save_s s sa) dm 0 0 ((sp_ipl tx ln 61 0 le sk nu).2.2.1) ((sp_ipl tx ln 61 0 le sk nu).2.2.2.1) ((sp_ipl tx ln 61 0 le sk nu).2.2.2.2)).1) fi tx ((sp_run tx ln 61 (sp_X7_save_s s sa) dm 0 0 ((sp_ipl tx ln 61 0 le sk nu).2.2.1) ((sp_ipl tx ln 61 0 le sk nu).2.2.2.1) ((sp_ipl tx ln 61 0 le sk nu).2.2.2.2)).2.1) 0 (sp_X7_save_sa sa) ln ((sp_run tx ln 61 (sp_X7_save_s s sa) dm 0 0 ((sp_ipl tx ln 61 0 le sk nu).2.2.1) ((sp_ipl tx ln 61 0 le sk nu).2.2.2.1) ((sp_ipl tx ln 61 0 le sk nu).2.2.2.2)).2.2.2.1) ((sp_run tx ln 61 (sp_X7_save_s s sa) dm 0 0 ((sp_ipl tx ln 61 0 le sk nu).2.2.1) ((sp_ipl tx ln 61 0 le sk nu).2.2.2.1) ((sp_ipl tx ln 61 0 le sk nu).2.2.2.2)).2.2.2.2.1) ((sp_run tx ln 61 (sp_X7_save_s s sa) dm 0 0 ((sp_ipl tx ln 61 0 le sk nu).2.2.1) ((sp_ipl tx ln 61 0 le sk nu).2.2.2.1) ((sp_ipl tx ln 61 0 le sk nu).2.2.2.2)).2.2.2.2.2.1) ((sp_run tx ln 61 (sp_X7_save_s s sa) dm 0 0 ((sp_ipl tx ln 61 0 le sk nu).2.2.1) ((sp_ipl tx ln 61 0 le sk nu).2.2.2.1) ((sp_ipl tx ln 61 0 le sk nu).2.2.2.2)).2.2.2.2.2.2) h)) (by simp only [e4]) ?_
          exact KT2
        · refine x_iload_n C 0 rfl rfl dX7_run_39 ?_
          refine x_aload_n C 1 rfl rfl dX7_run_40 ?_
          refine x_FV (w1 := ([] : va_W)) (wc := (wMo g am v2_s fi tx v2_dm 0 (sp_X7_save_sa sa) ln (sp_X7_readsCommand_pa tx ln v2_pa) (sp_X7_readsCommand_le tx ln v2_pa) (sp_X7_readsCommand_sk tx ln v2_pa v2_sk) (sp_X7_readsCommand_nu tx ln v2_pa v2_nu) h)) (w2 := ([] : va_W)) [] [.int v2_1] (wMo g am (sp_X7_does_s v2_s v2_dm (sp_X7_readsCommand_le tx ln v2_pa) (sp_X7_readsCommand_sk tx ln v2_pa v2_sk) (sp_X7_readsCommand_nu tx ln v2_pa v2_nu)) fi tx (sp_X7_does_dm v2_s v2_dm (sp_X7_readsCommand_le tx ln v2_pa) (sp_X7_readsCommand_nu tx ln v2_pa v2_nu)) 0 (sp_X7_save_sa sa) ln (sp_X7_readsCommand_pa tx ln v2_pa) (sp_X7_readsCommand_le tx ln v2_pa) (sp_X7_readsCommand_sk tx ln v2_pa v2_sk) (sp_X7_readsCommand_nu tx ln v2_pa v2_nu) h) C (k_X7_does l g am v2_s fi tx v2_dm 0 (sp_X7_save_sa sa) ln (sp_X7_readsCommand_pa tx ln v2_pa) (sp_X7_readsCommand_le tx ln v2_pa) (sp_X7_readsCommand_sk tx ln v2_pa v2_sk) (sp_X7_readsCommand_nu tx ln v2_pa v2_nu) h hi2.1 (rc_dOk h3)) rfl yV_X7_does wML_X7_162 rfl 0 rfl rfl rfl rfl (nle rfl) (nle rfl) (nle rfl) (nle rfl) (nle rfl) dX7_run_41 ?_
          refine x_iadd C dX7_run_44 ?_
          refine x_istore_n C [(1, .int (v2_1 + (sp_X7_does v2_s v2_dm (sp_X7_readsCommand_le tx ln v2_pa) (sp_X7_readsCommand_nu tx ln v2_pa v2_nu)))), (0, .ref (am 0))] rfl rfl (by decide) dX7_run_45 ?_
          refine x_aload_n C 1 rfl rfl dX7_run_46 ?_
          refine x_bipush C 59 (by decide) dX7_run_47 ?_
          refine x_FV (w1 := ([] : va_W)) (wc := (wMo g am (sp_X7_does_s v2_s v2_dm (sp_X7_readsCommand_le tx ln v2_pa) (sp_X7_readsCommand_sk tx ln v2_pa v2_sk) (sp_X7_readsCommand_nu tx ln v2_pa v2_nu)) fi tx (sp_X7_does_dm v2_s v2_dm (sp_X7_readsCommand_le tx ln v2_pa) (sp_X7_readsCommand_nu tx ln v2_pa v2_nu)) 0 (sp_X7_save_sa sa) ln (sp_X7_readsCommand_pa tx ln v2_pa) (sp_X7_readsCommand_le tx ln v2_pa) (sp_X7_readsCommand_sk tx ln v2_pa v2_sk) (sp_X7_readsCommand_nu tx ln v2_pa v2_nu) h)) (w2 := ([] : va_W)) [.int 59] [] (wMo g am (sp_X7_does_s v2_s v2_dm (sp_X7_readsCommand_le tx ln v2_pa) (sp_X7_readsCommand_sk tx ln v2_pa v2_sk) (sp_X7_readsCommand_nu tx ln v2_pa v2_nu)) fi tx (sp_X7_does_dm v2_s v2_dm (sp_X7_readsCommand_le tx ln v2_pa) (sp_X7_readsCommand_nu tx ln v2_pa v2_nu)) 0 (sp_X7_save_sa sa) ln (sp_X7_takes_pa tx ln (sp_X7_readsCommand_pa tx ln v2_pa) 59) (sp_X7_readsCommand_le tx ln v2_pa) (sp_X7_readsCommand_sk tx ln v2_pa v2_sk) (sp_X7_readsCommand_nu tx ln v2_pa v2_nu) h) C (k_X7_takes l g am (sp_X7_does_s v2_s v2_dm (sp_X7_readsCommand_le tx ln v2_pa) (sp_X7_readsCommand_sk tx ln v2_pa v2_sk) (sp_X7_readsCommand_nu tx ln v2_pa v2_nu)) fi tx (sp_X7_does_dm v2_s v2_dm (sp_X7_readsCommand_le tx ln v2_pa) (sp_X7_readsCommand_nu tx ln v2_pa v2_nu)) 0 (sp_X7_save_sa sa) ln (sp_X7_readsCommand_pa tx ln v2_pa) (sp_X7_readsCommand_le tx ln v2_pa) (sp_X7_readsCommand_sk tx ln v2_pa v2_sk) (sp_X7_readsCommand_nu tx ln v2_pa v2_nu) h 59 (rc_fact hi2.2).1) rfl yV_X7_takes wML_X7_140 rfl 0 rfl rfl rfl rfl (nle rfl) (nle rfl) (nle rfl) (nle rfl) (nle rfl) dX7_run_49 ?_
          refine x_pop C rfl dX7_run_52 ?_
          refine x_goto C 32 (by decide) dX7_run_53 ?_
          exact ih2 (sp_X7_does_s v2_s v2_dm (sp_X7_readsCommand_le tx ln v2_pa) (sp_X7_readsCommand_sk tx ln v2_pa v2_sk) (sp_X7_readsCommand_nu tx ln v2_pa v2_nu)) (sp_X7_does_dm v2_s v2_dm (sp_X7_readsCommand_le tx ln v2_pa) (sp_X7_readsCommand_nu tx ln v2_pa v2_nu)) (v2_1 + (sp_X7_does v2_s v2_dm (sp_X7_readsCommand_le tx ln v2_pa) (sp_X7_readsCommand_nu tx ln v2_pa v2_nu))) (sp_X7_takes_pa tx ln (sp_X7_readsCommand_pa tx ln v2_pa) 59) (sp_X7_readsCommand_le tx ln v2_pa) (sp_X7_readsCommand_sk tx ln v2_pa v2_sk) (sp_X7_readsCommand_nu tx ln v2_pa v2_nu) ⟨(does_ok hi2.1 (rc_dOk h3)), (takes_ok (cc := 59) (rc_fact hi2.2).1 (by decide))⟩ (by have q1 := (rc_fact (tx := tx) hi2.2).2.2 h3; have q2 := (takes_fact (tx := tx) (cc := 59) (rc_fact (tx := tx) hi2.2).1 (by decide)).2; have q3 := hi2.2.2.2.2; have q4 := (rc_fact (tx := tx) hi2.2).1.2.2.2; split at q2 <;> omega) (by rw [← hq2]; simp only [sp_run, if_neg h3])
    refine x_aload_n C 1 rfl rfl dX7_run_56 ?_
    refine x_iconst C 0 (by decide) dX7_run_57 ?_
    refine x_put C 0 7 5 tyX7 (wMo g am ((sp_run tx ln 61 (sp_X7_save_s s sa) dm 0 0 ((sp_ipl tx ln 61 0 le sk nu).2.2.1) ((sp_ipl tx ln 61 0 le sk nu).2.2.2.1) ((sp_ipl tx ln 61 0 le sk nu).2.2.2.2)).1) fi tx ((sp_run tx ln 61 (sp_X7_save_s s sa) dm 0 0 ((sp_ipl tx ln 61 0 le sk nu).2.2.1) ((sp_ipl tx ln 61 0 le sk nu).2.2.2.1) ((sp_ipl tx ln 61 0 le sk nu).2.2.2.2)).2.1) 0 (sp_X7_save_sa sa) 0 ((sp_run tx ln 61 (sp_X7_save_s s sa) dm 0 0 ((sp_ipl tx ln 61 0 le sk nu).2.2.1) ((sp_ipl tx ln 61 0 le sk nu).2.2.2.1) ((sp_ipl tx ln 61 0 le sk nu).2.2.2.2)).2.2.2.1) ((sp_run tx ln 61 (sp_X7_save_s s sa) dm 0 0 ((sp_ipl tx ln 61 0 le sk nu).2.2.1) ((sp_ipl tx ln 61 0 le sk nu).2.2.2.1) ((sp_ipl tx ln 61 0 le sk nu).2.2.2.2)).2.2.2.2.1) ((sp_run tx ln 61 (sp_X7_save_s s sa) dm 0 0 ((sp_ipl tx ln 61 0 le sk nu).2.2.1) ((sp_ipl tx ln 61 0 le sk nu).2.2.2.1) ((sp_ipl tx ln 61 0 le sk nu).2.2.2.2)).2.2.2.2.2.1) ((sp_run tx ln 61 (sp_X7_save_s s sa) dm 0 0 ((sp_ipl tx ln 61 0 le sk nu).2.2.1) ((sp_ipl tx ln 61 0 le sk nu).2.2.2.1) ((sp_ipl tx ln 61 0 le sk nu).2.2.2.2)).2.2.2.2.2.2) h) rfl rfl rfl wLy_X7 tyX7_ok nmX7 wFL_X7_127 rfl (by decide) rfl rfl rfl rfl (nlt rfl) dX7_run_58 ?_
    refine x_iload_n C 0 rfl rfl dX7_run_61 ?_
    exact x_iret C hr (nle rfl) (nle rfl) dX7_run_62 ⟨(by first | (simp only [sp_X7_run, if_neg h1]; done) | (simp only [sp_X7_run, if_neg h1]; rfl)), (by first | (simp only [sp_X7_run_s, sp_X7_run_dm, sp_X7_run_th, sp_X7_run_sa, sp_X7_run_ln, sp_X7_run_pa, sp_X7_run_le, sp_X7_run_sk, sp_X7_run_nu, if_neg h1]; done) | (simp only [sp_X7_run_s, sp_X7_run_dm, sp_X7_run_th, sp_X7_run_sa, sp_X7_run_ln, sp_X7_run_pa, sp_X7_run_le, sp_X7_run_sk, sp_X7_run_nu, if_neg h1]; rfl))⟩
