def tkQ (q : xQ) (c : Int32) : Int32 := sp_X0_takes q.1 q.2.1 q.2.2.2.1 q.2.2.2.2.2 c
section TK
variable (l s m n z c : Int32)
theorem tk0 : tkQ (0, l, s, m, n, z) c = sp_X0_takesLetter c := rfl
theorem tk1 : tkQ (1, l, s, m, n, z) c = sp_X0_takesStick c := rfl
theorem tk2 : tkQ (2, l, s, m, n, z) c = (if c = 61 then 1 else 0) := rfl
theorem tk3 : tkQ (3, l, s, m, n, z) c = sp_X0_takesNumberStart l m z c := rfl
theorem tk4 : tkQ (4, l, s, m, n, z) c = sp_X0_takesDigit m z c 1 := rfl
theorem tk5 : tkQ (5, l, s, m, n, z) c = (if c = 59 then sp_X0_takesSeparator c else sp_X0_takesDigit m z c 0) := rfl
theorem tk6 : tkQ (6, l, s, m, n, z) c = sp_X0_takesSeparator c := rfl
theorem rt0 : rdT (0, l, s, m, n, z) c = (sp_X0_takesLetter_rp 0 c, c, s, sp_X0_takesLetter_rm m c, n, z) := rfl
theorem rt1 : rdT (1, l, s, m, n, z) c = (sp_X0_takesStick_rp 1 c, l, sp_X0_takesStick_rs s c, m, n, z) := rfl
theorem rt2 : rdT (2, l, s, m, n, z) c = ((if c = 61 then 3 else 2), l, s, m, n, z) := rfl
theorem rt3 : rdT (3, l, s, m, n, z) c = (sp_X0_takesNumberStart_rp 3 l m z c, l, s, m, sp_X0_takesNumberStart_rn l n c, sp_X0_takesNumberStart_rz l m z c) := rfl
theorem rt4 : rdT (4, l, s, m, n, z) c = (sp_X0_takesDigit_rp 4 m z c 1, l, s, m, n, sp_X0_takesDigit_rz m z c 1) := rfl
theorem rt5 (h : ¬ c = 59) : rdT (5, l, s, m, n, z) c = (sp_X0_takesDigit_rp 5 m z c 0, l, s, m, n, sp_X0_takesDigit_rz m z c 0) := by
  have e : rdT (5, l, s, m, n, z) c = ((if c = 59 then (sp_X0_takesSeparator_rp 5 c) else (sp_X0_takesDigit_rp 5 m z c 0)), l, s, m, (if c = 59 then (sp_X0_takesSeparator_rn n c) else n), (if c = 59 then (sp_X0_takesSeparator_rz z c) else (sp_X0_takesDigit_rz m z c 0))) := rfl
  rw [e, if_neg h, if_neg h, if_neg h]
theorem rts5 : rdT (5, l, s, m, n, z) 59 = (0, l, s, m, 0, 0) := rfl
theorem rts6 : rdT (6, l, s, m, n, z) 59 = (0, l, s, m, 0, 0) := rfl
theorem tks5 : tkQ (5, l, s, m, n, z) 59 = 1 := rfl
theorem tks6 : tkQ (6, l, s, m, n, z) 59 = 1 := rfl
end TK
/-- a walk that takes each letter and meets no separator -/
def WK (tx : Nat → Int32) : Nat → Nat → xQ → xQ → Prop
  | 0, _, q, q' => q = q'
  | n + 1, i, q, q' => ¬ tkQ q (tx i) = 0 ∧ ¬ tx i = 59 ∧ WK tx n (i + 1) (rdT q (tx i)) q'
/-- what both find of one command -/
def cmR (tx : Nat → Int32) (N i : Nat) (q : xQ) (le R pa' sk nu : Int32) : Prop := ∃ p q' n, (p = i + n ∧ WK tx n i q q') ∧ p ≤ N ∧ pa' = nI p ∧ ((R = 0 ∧ ((p < N ∧ tkQ q' (tx p) = 0) ∨ (p = N ∧ ¬ q'.1 = 5 ∧ ¬ q'.1 = 6))) ∨ (¬ R = 0 ∧ (q'.1 = 5 ∨ q'.1 = 6) ∧ q'.2.1 = le ∧ ((le = 115 ∨ le = 116) → q'.2.2.1 = sk) ∧ (¬ le = 99 → ¬ le = 114 → sp_X0_signedNumber q'.2.2.2.2.1 q'.2.2.2.2.2 = nu) ∧ (p < N → ¬ tx p = 59 → tkQ q' (tx p) = 0)))
theorem cmR.pre {tx : Nat → Int32} {N i : Nat} {q q1 : xQ} {le R pa' sk nu : Int32} (h1 : ¬ tkQ q (tx i) = 0) (h2 : ¬ tx i = 59) (h3 : rdT q (tx i) = q1) (h : cmR tx N (i + 1) q1 le R pa' sk nu) : cmR tx N i q le R pa' sk nu := by
  subst h3
  obtain ⟨p, q', n, ⟨hp, hw⟩, hr⟩ := h
  exact ⟨p, q', n + 1, ⟨by omega, h1, h2, hw⟩, hr⟩
theorem cmR.no {tx : Nat → Int32} {N i : Nat} {q : xQ} {le R pa' sk nu : Int32} (hi : i ≤ N) (hR : R = 0) (hp : pa' = nI i) (h : (i < N ∧ tkQ q (tx i) = 0) ∨ (i = N ∧ ¬ q.1 = 5 ∧ ¬ q.1 = 6)) : cmR tx N i q le R pa' sk nu := ⟨i, q, 0, ⟨rfl, rfl⟩, hi, hp, Or.inl ⟨hR, h⟩⟩
theorem sg_lt {tx : Nat → Int32} {N i : Nat} (hN : N ≤ 60) (h : i < N) : sp_X7_sign tx (nI N) (nI i) = tx i := by
  unfold sp_X7_sign
  rw [if_neg (show ¬ nI N ≤ nI i from fun q => by have := (nI_leI (by omega) (by omega)).mp q; omega), nI_clamp (by omega)]
theorem sg_ge {tx : Nat → Int32} {N i : Nat} (hN : N ≤ 60) (hi : i ≤ 60) (h : N ≤ i) : sp_X7_sign tx (nI N) (nI i) = 0 := by
  unfold sp_X7_sign
  rw [if_pos ((nI_leI (by omega) (by omega)).mpr h)]
theorem tp_no {tx : Nat → Int32} {ln pa cc : Int32} (h : ¬ sp_X7_sign tx ln pa = cc) : sp_X7_takes tx ln pa cc = 0 ∧ sp_X7_takes_pa tx ln pa cc = pa := by
  unfold sp_X7_takes sp_X7_takes_pa
  rw [if_neg h, if_pos rfl]
  exact ⟨rfl, Int32.add_zero _⟩
theorem tp_yes {tx : Nat → Int32} {ln pa cc : Int32} (h : sp_X7_sign tx ln pa = cc) : sp_X7_takes tx ln pa cc = 1 ∧ sp_X7_takes_pa tx ln pa cc = pa + 1 := by
  unfold sp_X7_takes sp_X7_takes_pa
  rw [if_pos h, if_neg (by decide)]
  exact ⟨rfl, rfl⟩
theorem s48v (c : Int32) : (-2147483600 ≤ c.toInt ∧ (c - 48).toInt = c.toInt - 48) ∨ (c.toInt < -2147483600 ∧ 2147483500 ≤ (c - 48).toInt) := by
  have hl := Int32.le_toInt c
  have hu := Int32.toInt_lt c
  have i48 : (48 : Int32).toInt = 48 := by decide
  by_cases h : -2147483600 ≤ c.toInt
  · exact Or.inl ⟨h, by rw [xi_sub (by omega) (by omega), i48]⟩
  · refine Or.inr ⟨by omega, ?_⟩
    rw [Int32.toInt_sub, i48]
    simp only [Int.bmod]
    split <;> omega
theorem dg_iff {c : Int32} {lst : Int32} (hl : lst = 0 ∨ lst = 1) : (¬ (c - 48) < lst ∧ ¬ 9 < (c - 48)) ↔ ¬ sp_X7_in c (48 + lst) 57 = 0 := by
  rw [← in_iff]
  have i9 : (9 : Int32).toInt = 9 := by decide
  have i57 : (57 : Int32).toInt = 57 := by decide
  have i0 : (0 : Int32).toInt = 0 := by decide
  have i1 : (1 : Int32).toInt = 1 := by decide
  have i48 : (48 + 0 : Int32).toInt = 48 := by decide
  have i49 : (48 + 1 : Int32).toInt = 49 := by decide
  have h := s48v c
  rcases hl with rfl | rfl <;> simp only [Int32.lt_iff_toInt_lt, Int32.le_iff_toInt_le] <;> omega
theorem st_iff {c : Int32} : (¬ c < 48 ∧ c < 52) ↔ ¬ sp_X7_in (c - 48) 0 3 = 0 := by
  rw [← in_iff]
  have i3 : (3 : Int32).toInt = 3 := by decide
  have i52 : (52 : Int32).toInt = 52 := by decide
  have i0 : (0 : Int32).toInt = 0 := by decide
  have i48 : (48 : Int32).toInt = 48 := by decide
  have h := s48v c
  simp only [Int32.lt_iff_toInt_lt, Int32.le_iff_toInt_le]
  omega
theorem dg_no {c lst : Int32} (hl : lst = 0 ∨ lst = 1) (h : sp_X7_in c (48 + lst) 57 = 0) (m z : Int32) : sp_X0_takesDigit m z c lst = 0 := by
  unfold sp_X0_takesDigit
  by_cases c1 : (c - 48) < lst
  · rw [if_pos c1]
  · rw [if_neg c1]
    by_cases c2 : 9 < (c - 48)
    · rw [if_pos c2]
    · exact absurd h ((dg_iff hl).mp ⟨c1, c2⟩)
theorem dg_yes {c lst : Int32} (hl : lst = 0 ∨ lst = 1) (h : ¬ sp_X7_in c (48 + lst) 57 = 0) (m z r : Int32) : sp_X0_takesDigit m z c lst = (if z * 10 + (c - 48) ≤ m then 1 else 0) ∧ sp_X0_takesDigit_rp r m z c lst = (if z * 10 + (c - 48) ≤ m then 5 else r) ∧ sp_X0_takesDigit_rz m z c lst = (if z * 10 + (c - 48) ≤ m then z * 10 + (c - 48) else z) := by
  obtain ⟨c1, c2⟩ := (dg_iff hl).mpr h
  unfold sp_X0_takesDigit sp_X0_takesDigit_rp sp_X0_takesDigit_rz
  rw [if_neg c1, if_neg c1, if_neg c1, if_neg c2, if_neg c2, if_neg c2]
  exact ⟨rfl, rfl, rfl⟩
theorem sep_no {c : Int32} (h : ¬ c = 59) : sp_X0_takesSeparator c = 0 := by unfold sp_X0_takesSeparator; rw [if_neg h]
theorem in0 {lo hi : Int32} (h : ¬ lo ≤ 0) : sp_X7_in 0 lo hi = 0 := Decidable.not_not.mp (fun q => h (Int32.not_lt.mp (in_iff.mpr q).1))
/-- the digits after the first -/
theorem rdl_cm {tx : Nat → Int32} {N mm : Nat} (hN : N ≤ 60) (hm : mm ≤ 100) (L s n : Int32) : ∀ f j v, j ≤ N → N - j < f → 1 ≤ v → v ≤ 100 → cmR tx N j (5, L, s, nI mm, n, nI v) L 1 (sp_rdl tx (nI N) (nI mm) f (nI v) (nI j)).2 s (sp_X0_signedNumber n (sp_rdl tx (nI N) (nI mm) f (nI v) (nI j)).1)
  | 0, j, v, _, h, _, _ => absurd h (Nat.not_lt_zero _)
  | f + 1, j, v, hj, hf, h1, h100 => by
    have stop : (j < N → ¬ tx j = 59 → sp_X0_takesDigit (nI mm) (nI v) (tx j) 0 = 0) → cmR tx N j (5, L, s, nI mm, n, nI v) L 1 (nI j) s (sp_X0_signedNumber n (nI v)) := fun hs => ⟨j, _, 0, ⟨rfl, rfl⟩, hj, rfl, Or.inr ⟨by decide, Or.inl rfl, rfl, fun _ => rfl, fun _ _ => rfl, fun a b => by rw [tk5, if_neg b]; exact hs a b⟩⟩
    simp only [sp_rdl]
    rw [if_neg (show ¬ nI v ≤ 0 from fun q => by have := (nI_leI (b := 0) (by omega) (by omega)).mp q; omega)]
    by_cases c1 : sp_X7_in (sp_X7_sign tx (nI N) (nI j)) 48 57 = 0
    · rw [if_pos c1]
      refine stop (fun a _ => ?_)
      rw [sg_lt hN a] at c1
      exact dg_no (Or.inl rfl) c1 _ _
    · rw [if_neg c1]
      have hlt : j < N := by
        refine Nat.lt_of_not_le (fun q => c1 ?_)
        rw [sg_ge hN (by omega) q]
        exact in0 (by decide)
      rw [sg_lt hN hlt] at c1 ⊢
      obtain ⟨r1, r2, r3⟩ := in_rng c1 (show (48 : Int32) = nI 48 from rfl) (show (57 : Int32) = nI 57 from rfl) (by decide) (by decide)
      have hne : ¬ tx j = 59 := fun q => by rw [q] at r3; exact absurd r3 (by decide)
      obtain ⟨y1, y2, y3⟩ := dg_yes (lst := 0) (Or.inl rfl) c1 (nI mm) (nI v) 5
      have hz : nI v * 10 + (tx j - 48) = (10 * nI v + tx j) - 48 := by
        rw [Int32.mul_comm, Int32.sub_eq_add_neg, Int32.sub_eq_add_neg, Int32.add_assoc]
      have e : (10 * nI v + tx j) - 48 = nI (10 * v + (tx j).toNatClampNeg - 48) := by
        conv => lhs; rw [r1]
        rw [show (10 : Int32) = nI 10 from rfl, show (48 : Int32) = nI 48 from rfl, pk_mul, nI_add, pk_sub (by omega)]
      rw [hz] at y1 y2 y3
      rw [e] at y1 y2 y3 ⊢
      by_cases c2 : nI mm < nI (10 * v + (tx j).toNatClampNeg - 48)
      · rw [if_pos c2]
        exact stop (fun _ _ => by rw [y1, if_neg (Int32.not_le.mpr c2)])
      · rw [if_neg c2]
        have c3 := Int32.not_lt.mp c2
        have c4 := (nI_leI (by omega) (by omega)).mp c3
        rw [if_pos c3] at y1 y2 y3
        rw [nI_1]
        refine cmR.pre (by rw [tk5, if_neg hne, y1]; decide) hne (by rw [rt5 _ _ _ _ _ _ hne, y2, y3]) ?_
        exact rdl_cm hN hm L s n f (j + 1) _ (by omega) (by omega) (by omega) (by omega)
/-- digits, the first of them no zero -/
theorem dg_cm {tx : Nat → Int32} {N mm : Nat} (hN : N ≤ 60) (hm9 : 9 ≤ mm) (hm : mm ≤ 100) (L s n r : Int32) {q : xQ} {j : Nat} (hj : j ≤ N) (h1 : ∀ c, tkQ q c = sp_X0_takesDigit (nI mm) 0 c 1) (h2 : ∀ c, rdT q c = (sp_X0_takesDigit_rp r (nI mm) 0 c 1, L, s, nI mm, n, sp_X0_takesDigit_rz (nI mm) 0 c 1)) (h3 : ¬ q.1 = 5 ∧ ¬ q.1 = 6) (nu0 : Int32) : cmR tx N j q L (sp_X7_readsDigits tx (nI N) (nI j) 1) (sp_X7_readsDigits_pa tx (nI N) (nI j) 1 (nI mm)) s (sp_X0_signedNumber n (sp_X7_readsDigits_nu tx (nI N) (nI j) nu0 1 (nI mm))) := by
  unfold sp_X7_readsDigits sp_X7_readsDigits_pa sp_X7_readsDigits_nu
  by_cases c1 : sp_X7_in (sp_X7_sign tx (nI N) (nI j)) (48 + 1) 57 = 0
  · simp only [if_pos c1]
    refine cmR.no hj rfl rfl ?_
    by_cases hlt : j < N
    · rw [sg_lt hN hlt] at c1
      exact Or.inl ⟨hlt, by rw [h1]; exact dg_no (Or.inr rfl) c1 _ _⟩
    · exact Or.inr ⟨by omega, h3⟩
  · have hlt : j < N := by
      refine Nat.lt_of_not_le (fun q => c1 ?_)
      rw [sg_ge hN (by omega) q]
      exact in0 (by decide)
    simp only [if_neg c1]
    rw [sg_lt hN hlt] at c1 ⊢
    obtain ⟨r1, r2, r3⟩ := in_rng c1 (show (48 + 1 : Int32) = nI 49 from by decide) (show (57 : Int32) = nI 57 from rfl) (by decide) (by decide)
    have hne : ¬ tx j = 59 := fun q => by rw [q] at r3; exact absurd r3 (by decide)
    obtain ⟨y1, y2, y3⟩ := dg_yes (lst := 1) (Or.inr rfl) c1 (nI mm) 0 r
    have hz : 0 * 10 + (tx j - 48) = nI ((tx j).toNatClampNeg - 48) := by
      rw [Int32.zero_mul, Int32.zero_add]
      conv => lhs; rw [r1]
      rw [show (48 : Int32) = nI 48 from rfl, pk_sub (by omega)]
    have hz2 : tx j - 48 = nI ((tx j).toNatClampNeg - 48) := by rw [← hz, Int32.zero_mul, Int32.zero_add]
    rw [hz, if_pos ((nI_leI (by omega) (by omega)).mpr (by omega))] at y1 y2 y3
    rw [hz2, nI_1]
    refine cmR.pre (by rw [h1, y1]; decide) hne (by rw [h2, y2, y3]) ?_
    exact rdl_cm hN hm L s n 61 (j + 1) _ (by omega) (by omega) (by omega) (by omega)
