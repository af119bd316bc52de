theorem z10 : ¬ (1 : Int32) = 0 := by decide
theorem cmR.e6 {tx : Nat → Int32} {N i : Nat} {le s m n z R pa' sk nu : Int32} (hi : i ≤ N) (hR : ¬ R = 0) (hp : pa' = nI i) (hs : (le = 115 ∨ le = 116) → s = sk) (hn : ¬ le = 99 → ¬ le = 114 → sp_X0_signedNumber n z = nu) : cmR tx N i (6, le, s, m, n, z) le R pa' sk nu := ⟨i, _, 0, ⟨rfl, rfl⟩, hi, hp, Or.inr ⟨hR, Or.inr rfl, rfl, hs, hn, fun _ b => by rw [tk6]; exact sep_no b⟩⟩
theorem rdl0 (tx : Nat → Int32) (ln m pa : Int32) : sp_rdl tx ln m 61 0 pa = (0, pa) := by
  simp only [sp_rdl]
  rw [if_pos (by decide)]
theorem in_49 {c : Int32} (h : sp_X7_in c (48 + 0) 57 = 0) : sp_X7_in c (48 + 1) 57 = 0 := by
  refine Decidable.not_not.mp (fun q => ?_)
  have q2 := in_iff.mpr q
  refine in_iff.mp ⟨fun w => q2.1 ?_, q2.2⟩ h
  exact Int32.lt_of_lt_of_le w (by decide)
/-- a number with a sign or without -/
theorem num_cm {tx : Nat → Int32} {N mm : Nat} (hN : N ≤ 60) (hm9 : 9 ≤ mm) (hm : mm ≤ 100) {L : Int32} (s : Int32) (hL : L = 115 ∨ L = 116) {j : Nat} (hj : j ≤ N) (nu0 : Int32) : cmR tx N j (3, L, s, nI mm, 0, 0) L (sp_X7_readsNumber tx (nI N) (nI j)) (sp_X7_readsNumber_pa tx (nI N) (nI j) (nI mm)) s (sp_X7_readsNumber_nu tx (nI N) (nI j) nu0 (nI mm)) := by
  have hT : ∀ c, tkQ (3, L, s, nI mm, 0, 0) c = (if c = 45 then 1 else (if c = 48 then 1 else (sp_X0_takesDigit (nI mm) 0 c 1))) := by rcases hL with rfl | rfl <;> exact fun c => rfl
  have hD : ∀ c, rdT (3, L, s, nI mm, 0, 0) c = ((if c = 45 then 4 else (if c = 48 then 6 else (sp_X0_takesDigit_rp 3 (nI mm) 0 c 1))), L, s, nI mm, (if c = 45 then 1 else 0), (if c = 45 then 0 else (if c = 48 then 0 else (sp_X0_takesDigit_rz (nI mm) 0 c 1)))) := by rcases hL with rfl | rfl <;> exact fun c => rfl
  have hne5 : ¬ ((3 : Int32) = 5) ∧ ¬ ((3 : Int32) = 6) := by decide
  unfold sp_X7_readsNumber sp_X7_readsNumber_pa sp_X7_readsNumber_nu
  by_cases c : sp_X7_sign tx (nI N) (nI j) = 45
  · have hlt : j < N := by
      refine Nat.lt_of_not_le (fun q => ?_)
      rw [sg_ge hN (by omega) q] at c
      exact absurd c (by decide)
    obtain ⟨t1, t2⟩ := tp_yes c
    rw [t1, t2]
    simp only [if_neg z10]
    rw [sg_lt hN hlt] at c
    rw [nI_1]
    refine cmR.pre (q1 := (4, L, s, nI mm, 1, 0)) (by rw [hT, c, if_pos rfl]; decide) (by rw [c]; decide) (by rw [hD, c, if_pos rfl, if_pos rfl, if_pos rfl]) ?_
    have h := dg_cm (tx := tx) hN hm9 hm L s 1 4 (q := (4, L, s, nI mm, 1, 0)) (j := j + 1) (by omega) (fun c => tk4 _ _ _ _ _ _) (fun c => rt4 _ _ _ _ _ _) ⟨(show ¬ (4 : Int32) = 5 from by decide), (show ¬ (4 : Int32) = 6 from by decide)⟩ nu0
    rw [show ∀ x, sp_X0_signedNumber 1 x = -x from fun x => if_neg z10] at h
    exact h
  · obtain ⟨t1, t2⟩ := tp_no c
    rw [t1, t2]
    simp only [if_true]
    unfold sp_X7_readsDigits sp_X7_readsDigits_pa sp_X7_readsDigits_nu
    by_cases c1 : sp_X7_in (sp_X7_sign tx (nI N) (nI j)) (48 + 0) 57 = 0
    · rw [if_pos c1, if_pos c1, if_pos c1]
      refine cmR.no hj rfl rfl ?_
      by_cases hlt : j < N
      · rw [sg_lt hN hlt] at c1 c
        refine Or.inl ⟨hlt, ?_⟩
        rw [hT, if_neg c, if_neg (fun q => by rw [q] at c1; exact absurd c1 (by decide))]
        exact dg_no (Or.inr rfl) (in_49 c1) _ _
      · exact Or.inr ⟨by omega, hne5⟩
    · have hlt : j < N := by
        refine Nat.lt_of_not_le (fun q => c1 ?_)
        rw [sg_ge hN (by omega) q]
        exact in0 (by decide)
      rw [if_neg c1, if_neg c1, if_neg c1]
      rw [sg_lt hN hlt] at c1 c ⊢
      by_cases c2 : tx j = 48
      · rw [c2, show (48 : Int32) - 48 = 0 from by decide, rdl0]
        refine cmR.pre (q1 := (6, L, s, nI mm, 0, 0)) (by rw [hT, if_neg c, if_pos c2]; decide) (by rw [c2]; decide) (by rw [hD, c2]; rfl) ?_
        exact cmR.e6 (by omega) z10 (nI_1 _) (fun _ => rfl) (fun _ _ => rfl)
      · have c3 : ¬ sp_X7_in (tx j) (48 + 1) 57 = 0 := by
          have q := in_iff.mpr c1
          refine in_iff.mp ⟨fun w => ?_, q.2⟩
          have q1 := q.1
          rw [Int32.lt_iff_toInt_lt, show (48 + 1 : Int32).toInt = 49 from by decide] at w
          rw [Int32.lt_iff_toInt_lt, show (48 + 0 : Int32).toInt = 48 from by decide] at q1
          exact c2 (Int32.toInt_inj.mp (by rw [show (48 : Int32).toInt = 48 from by decide]; omega))
        obtain ⟨r1, r2, r3⟩ := in_rng c3 (show (48 + 1 : Int32) = nI 49 from by decide) (show (57 : Int32) = nI 57 from rfl) (by decide) (by decide)
        have hne : ¬ tx j = 59 := fun q => by rw [q] at r3; exact absurd r3 (by decide)
        obtain ⟨y1, y2, y3⟩ := dg_yes (lst := 1) (Or.inr rfl) c3 (nI mm) 0 3
        have hz2 : tx j - 48 = nI ((tx j).toNatClampNeg - 48) := by
          conv => lhs; rw [r1]
          rw [show (48 : Int32) = nI 48 from rfl, pk_sub (by omega)]
        have hz : 0 * 10 + (tx j - 48) = nI ((tx j).toNatClampNeg - 48) := by rw [Int32.zero_mul, Int32.zero_add, hz2]
        rw [hz, if_pos ((nI_leI (by omega) (by omega)).mpr (by omega))] at y1 y2 y3
        rw [hz2, nI_1]
        refine cmR.pre (q1 := (5, L, s, nI mm, 0, nI ((tx j).toNatClampNeg - 48))) (by rw [hT, if_neg c, if_neg c2, y1]; decide) hne (by rw [hD, if_neg c, if_neg c2, if_neg c, if_neg c, if_neg c2, y2, y3]) ?_
        have h := rdl_cm (tx := tx) hN hm L s 0 61 (j + 1) ((tx j).toNatClampNeg - 48) (by omega) (by omega) (by omega) (by omega)
        rw [show ∀ x, sp_X0_signedNumber 0 x = x from fun x => if_pos rfl] at h
        exact h
theorem cmR.R {tx : Nat → Int32} {N i : Nat} {q : xQ} {le R R' pa' sk nu : Int32} (hR : R = 0 ↔ R' = 0) (h : cmR tx N i q le R pa' sk nu) : cmR tx N i q le R' pa' sk nu := by
  obtain ⟨p, q', n, hw, hp, e, h⟩ := h
  exact ⟨p, q', n, hw, hp, e, by rwa [hR] at h⟩
/-- the stick, the sign = and the number -/
theorem stk_cm {tx : Nat → Int32} {N mm : Nat} (hN : N ≤ 60) (hm9 : 9 ≤ mm) (hm : mm ≤ 100) {L : Int32} (s : Int32) (hL : L = 115 ∨ L = 116) {j : Nat} (hj : j ≤ N) (nu0 : Int32) : cmR tx N j (1, L, s, nI mm, 0, 0) L (if (sp_X7_in ((sp_X7_sign tx (nI N) (nI j)) - 48) 0 3) = 0 then (0 : Int32) else (if (sp_X7_takes tx (nI N) (stp tx (nI N) (nI j)) 61) = 0 then (0 : Int32) else (if (sp_X7_readsNumber tx (nI N) (sp_X7_takes_pa tx (nI N) (stp tx (nI N) (nI j)) 61)) = 0 then (0 : Int32) else 1))) (if (sp_X7_in ((sp_X7_sign tx (nI N) (nI j)) - 48) 0 3) = 0 then (stp tx (nI N) (nI j)) else (if (sp_X7_takes tx (nI N) (stp tx (nI N) (nI j)) 61) = 0 then (sp_X7_takes_pa tx (nI N) (stp tx (nI N) (nI j)) 61) else (sp_X7_readsNumber_pa tx (nI N) (sp_X7_takes_pa tx (nI N) (stp tx (nI N) (nI j)) 61) (nI mm)))) ((sp_X7_sign tx (nI N) (nI j)) - 48) (if (sp_X7_in ((sp_X7_sign tx (nI N) (nI j)) - 48) 0 3) = 0 then nu0 else (if (sp_X7_takes tx (nI N) (stp tx (nI N) (nI j)) 61) = 0 then nu0 else (sp_X7_readsNumber_nu tx (nI N) (sp_X7_takes_pa tx (nI N) (stp tx (nI N) (nI j)) 61) nu0 (nI mm)))) := by
  unfold stp
  by_cases c : sp_X7_in (sp_X7_sign tx (nI N) (nI j) - 48) 0 3 = 0
  · simp only [if_pos c]
    refine cmR.no hj rfl (Int32.add_zero _) ?_
    by_cases hlt : j < N
    · rw [sg_lt hN hlt] at c
      refine Or.inl ⟨hlt, ?_⟩
      rw [tk1]
      unfold sp_X0_takesStick
      by_cases d1 : tx j < 48
      · rw [if_pos d1]
      · rw [if_neg d1]
        by_cases d2 : tx j < 52
        · exact absurd c (st_iff.mp ⟨d1, d2⟩)
        · rw [if_neg d2]
    · exact Or.inr ⟨by omega, (show ¬ (1 : Int32) = 5 from by decide), (show ¬ (1 : Int32) = 6 from by decide)⟩
  · have hlt : j < N := by
      refine Nat.lt_of_not_le (fun q => c ?_)
      rw [sg_ge hN (by omega) q]
      decide
    simp only [if_neg c]
    rw [sg_lt hN hlt] at c ⊢
    obtain ⟨d1, d2⟩ := st_iff.mpr c
    have hne : ¬ tx j = 59 := fun q => by rw [q] at d2; exact absurd d2 (by decide)
    rw [nI_1]
    refine cmR.pre (q1 := (2, L, tx j - 48, nI mm, 0, 0)) (by rw [tk1]; unfold sp_X0_takesStick; rw [if_neg d1, if_pos d2]; decide) hne (by rw [rt1]; unfold sp_X0_takesStick_rp sp_X0_takesStick_rs; rw [if_neg d1, if_pos d2, if_neg d1, if_pos d2]) ?_
    by_cases c2 : sp_X7_sign tx (nI N) (nI (j + 1)) = 61
    · have hlt2 : j + 1 < N := by
        refine Nat.lt_of_not_le (fun q => ?_)
        rw [sg_ge hN (by omega) q] at c2
        exact absurd c2 (by decide)
      obtain ⟨t1, t2⟩ := tp_yes c2
      rw [t1, t2]
      simp only [if_neg z10]
      rw [sg_lt hN hlt2] at c2
      rw [nI_1]
      refine cmR.pre (q1 := (3, L, tx j - 48, nI mm, 0, 0)) (by rw [tk2, if_pos c2]; decide) (by rw [c2]; decide) (by rw [rt2, if_pos c2]) ?_
      refine cmR.R ?_ (num_cm hN hm9 hm (tx j - 48) hL (j := j + 1 + 1) (by omega) nu0)
      by_cases e : sp_X7_readsNumber tx (nI N) (nI (j + 1 + 1)) = 0
      · rw [if_pos e]; exact ⟨fun _ => rfl, fun _ => e⟩
      · rw [if_neg e]; exact ⟨fun q => absurd q e, fun q => absurd q z10⟩
    · obtain ⟨t1, t2⟩ := tp_no c2
      rw [t1, t2]
      simp only [if_pos (rfl : (0 : Int32) = 0)]
      refine cmR.no (by omega) rfl rfl ?_
      by_cases hlt2 : j + 1 < N
      · rw [sg_lt hN hlt2] at c2
        exact Or.inl ⟨hlt2, by rw [tk2, if_neg c2]⟩
      · exact Or.inr ⟨by omega, (show ¬ (2 : Int32) = 5 from by decide), (show ¬ (2 : Int32) = 6 from by decide)⟩
/-- one command: what the class takes and what the model reads -/
theorem cmd_cm {tx : Nat → Int32} {N : Nat} (hN : N ≤ 60) {i : Nat} (hi : i ≤ N) (rl rs rm sk nu : Int32) : cmR tx N i (0, rl, rs, rm, 0, 0) (sp_X7_sign tx (nI N) (nI i)) (sp_X7_readsCommand tx (nI N) (nI i)) (sp_X7_readsCommand_pa tx (nI N) (nI i)) (sp_X7_readsCommand_sk tx (nI N) (nI i) sk) (sp_X7_readsCommand_nu tx (nI N) (nI i) nu) := by
  have hL : ∀ cc : Int32, ¬ cc = 0 → sp_X7_sign tx (nI N) (nI i) = cc → i < N ∧ tx i = cc := fun cc hc h => by
    have hlt : i < N := by
      refine Nat.lt_of_not_le (fun q => ?_)
      rw [sg_ge hN (by omega) q] at h
      exact hc h.symm
    rw [sg_lt hN hlt] at h
    exact ⟨hlt, h⟩
  unfold sp_X7_readsCommand sp_X7_readsCommand_pa sp_X7_readsCommand_sk sp_X7_readsCommand_nu
  by_cases h115 : sp_X7_sign tx (nI N) (nI i) = 115
  · obtain ⟨hlt, hc⟩ := hL 115 (by decide) h115
    obtain ⟨t1, t2⟩ := tp_yes h115
    simp only [t1, t2, if_neg z10]
    rw [nI_1, h115]
    rw [if_pos rfl]
    refine cmR.pre (q1 := (1, 115, rs, nI 100, 0, 0)) (by rw [tk0, hc]; decide) (by rw [hc]; decide) (by rw [rt0, hc]; rfl) ?_
    exact stk_cm hN (by decide) (by decide) rs (Or.inl rfl) (by omega) nu
  · have n115 := tp_no h115
    by_cases h116 : sp_X7_sign tx (nI N) (nI i) = 116
    · obtain ⟨hlt, hc⟩ := hL 116 (by decide) h116
      obtain ⟨t1, t2⟩ := tp_yes h116
      simp only [n115.1, n115.2, t1, t2, if_neg z10, if_true]
      rw [nI_1, h116]
      rw [if_neg (show ¬ (116 : Int32) = 115 by decide)]
      refine cmR.pre (q1 := (1, 116, rs, nI 25, 0, 0)) (by rw [tk0, hc]; decide) (by rw [hc]; decide) (by rw [rt0, hc]; rfl) ?_
      exact stk_cm hN (by decide) (by decide) rs (Or.inr rfl) (by omega) nu
    · have n116 := tp_no h116
      by_cases h102 : sp_X7_sign tx (nI N) (nI i) = 102
      · obtain ⟨hlt, hc⟩ := hL 102 (by decide) h102
        obtain ⟨t1, t2⟩ := tp_yes h102
        simp only [n115.1, n115.2, n116.1, n116.2, t1, t2, if_neg z10, if_true]
        rw [nI_1, h102]
        refine cmR.pre (q1 := (3, 102, rs, nI 50, 0, 0)) (by rw [tk0, hc]; decide) (by rw [hc]; decide) (by rw [rt0, hc]; rfl) ?_
        have h := dg_cm (tx := tx) hN (mm := 50) (by decide) (by decide) 102 rs 0 3 (q := (3, 102, rs, nI 50, 0, 0)) (j := i + 1) (by omega) (fun c => rfl) (fun c => rfl) ⟨(show ¬ (3 : Int32) = 5 from by decide), (show ¬ (3 : Int32) = 6 from by decide)⟩ nu
        rw [show ∀ x, sp_X0_signedNumber 0 x = x from fun x => if_pos rfl] at h
        obtain ⟨p, q2, n, hw, hp, e, h⟩ := h
        refine ⟨p, q2, n, hw, hp, e, h.imp id (fun h => ⟨h.1, h.2.1, h.2.2.1, fun q => absurd q (by decide), h.2.2.2.2⟩)⟩
      · have n102 := tp_no h102
        by_cases h108 : sp_X7_sign tx (nI N) (nI i) = 108
        · obtain ⟨hlt, hc⟩ := hL 108 (by decide) h108
          obtain ⟨t1, t2⟩ := tp_yes h108
          simp only [n115.1, n115.2, n116.1, n116.2, n102.1, n102.2, t1, t2, if_neg z10, if_true]
          rw [nI_1, h108]
          refine cmR.pre (q1 := (3, 108, rs, nI 50, 0, 0)) (by rw [tk0, hc]; decide) (by rw [hc]; decide) (by rw [rt0, hc]; rfl) ?_
          have h := dg_cm (tx := tx) hN (mm := 50) (by decide) (by decide) 108 rs 0 3 (q := (3, 108, rs, nI 50, 0, 0)) (j := i + 1) (by omega) (fun c => rfl) (fun c => rfl) ⟨(show ¬ (3 : Int32) = 5 from by decide), (show ¬ (3 : Int32) = 6 from by decide)⟩ nu
          rw [show ∀ x, sp_X0_signedNumber 0 x = x from fun x => if_pos rfl] at h
          obtain ⟨p, q2, n, hw, hp, e, h⟩ := h
          refine ⟨p, q2, n, hw, hp, e, h.imp id (fun h => ⟨h.1, h.2.1, h.2.2.1, fun q => absurd q (by decide), h.2.2.2.2⟩)⟩
        · have n108 := tp_no h108
          by_cases h114 : sp_X7_sign tx (nI N) (nI i) = 114
          · obtain ⟨hlt, hc⟩ := hL 114 (by decide) h114
            obtain ⟨t1, t2⟩ := tp_yes h114
            simp only [n115.1, n115.2, n116.1, n116.2, n102.1, n102.2, n108.1, n108.2, t1, t2, if_neg z10, if_true]
            rw [nI_1, h114]
            refine cmR.pre (q1 := (6, 114, rs, rm, 0, 0)) (by rw [tk0, hc]; decide) (by rw [hc]; decide) (by rw [rt0, hc]; rfl) ?_
            exact cmR.e6 (by omega) z10 rfl (fun q => absurd q (by decide)) (fun q1 q2 => absurd rfl q2)
          · have n114 := tp_no h114
            by_cases h99 : sp_X7_sign tx (nI N) (nI i) = 99
            · obtain ⟨hlt, hc⟩ := hL 99 (by decide) h99
              obtain ⟨t1, t2⟩ := tp_yes h99
              simp only [n115.1, n115.2, n116.1, n116.2, n102.1, n102.2, n108.1, n108.2, n114.1, n114.2, t1, t2, if_neg z10, if_true]
              rw [nI_1, h99]
              refine cmR.pre (q1 := (6, 99, rs, rm, 0, 0)) (by rw [tk0, hc]; decide) (by rw [hc]; decide) (by rw [rt0, hc]; rfl) ?_
              exact cmR.e6 (by omega) z10 rfl (fun q => absurd q (by decide)) (fun q1 q2 => absurd rfl q1)
            · have n99 := tp_no h99
              simp only [n115.1, n115.2, n116.1, n116.2, n102.1, n102.2, n108.1, n108.2, n114.1, n114.2, n99.1, n99.2, if_true]
              refine cmR.no hi rfl rfl ?_
              by_cases hlt : i < N
              · rw [sg_lt hN hlt] at h115 h116 h102 h108 h114 h99
                refine Or.inl ⟨hlt, ?_⟩
                rw [tk0]
                unfold sp_X0_takesLetter
                rw [if_neg h99, if_neg h102, if_neg h108, if_neg h114, if_neg h115, if_neg h116]
              · exact Or.inr ⟨by omega, (show ¬ (0 : Int32) = 5 from by decide), (show ¬ (0 : Int32) = 6 from by decide)⟩
