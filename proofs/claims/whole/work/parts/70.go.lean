theorem ex_arr {s : State} {args : Array Value} {ty : FieldType} (h : (Cond.arrayClass ty).before args s = true) (hob : ∀ (c : ClassId), s.vm.findClass ("[" ++ ty.toString) = some c → va_RA s c ty) : ∃ cA, ArrOfT s cA ty ∧ va_RA s cA ty := by
  obtain ⟨c, k, comp, h1, h2, h3⟩ := Cond.arrayClass_spec h
  exact ⟨c, fun n z => ⟨(fun _ h => by cases h), k, h2, comp, h3⟩, hob c h1⟩
theorem ex_arq {s : State} {args : Array Value} {Cn : String} (h : (Cond.arrayOver (.object Cn)).before args s = true) : ∃ cA, ArrOfT s cA (.object Cn) ∧ va_RA s cA (.object Cn) := by
  obtain ⟨comp, c, k, h1, h2, h3, h4, h5⟩ := Cond.arrayOver_spec h
  exact ⟨c, fun n z => ⟨(fun _ h => by cases h), k, h3, comp, h4⟩, k, comp, h3, h4, h1, h5⟩
theorem x_of_tbl {s : State} {args : Array Value} (hts : ∀ w ∈ lw_tbl, w.before args s = true) : ∀ w ∈ xAll, w.before args s = true := fun w h => hts w (List.mem_filter.mp h).1
theorem in_tbl {w : Cond} (h : w ∈ tables_1) : w ∈ lw_tbl := List.mem_append_right _ h
set_option maxRecDepth 100000 in
theorem env_K {s : State} {args : Array Value} (hx : ∀ w ∈ xAll, w.before args s = true) (hao : (Cond.arrayOver (.object RX4)).before args s = true) : ∃ g : xGt, va_K g.1 vwCl (xT g) s := by
  obtain ⟨c0, i0, hK0⟩ := u_known (C := RX0) (T := TX0) (N := 6) (n := 6) hx wLy_X0 (hx _ wIs_X0)
  obtain ⟨c1, i1, hK1⟩ := u_known (C := RX1) (T := TX1) (N := 9) (n := 9) hx wLy_X1 (hx _ wIs_X1)
  obtain ⟨c2, i2, hK2⟩ := u_known (C := RX2) (T := TX2) (N := 6) (n := 6) hx wLy_X2 (hx _ wIs_X2)
  obtain ⟨c3, i3, hK3⟩ := u_known (C := RX3) (T := TX3) (N := 10) (n := 10) hx wLy_X3 (hx _ wIs_X3)
  obtain ⟨c4, i4, hK4⟩ := u_known (C := RX4) (T := TX4) (N := 5) (n := 5) hx wLy_X4 (hx _ wIs_X4)
  obtain ⟨c5, i5, hK5⟩ := u_known (C := RX5) (T := TX5) (N := 6) (n := 6) hx wLy_X5 (hx _ wIs_X5)
  obtain ⟨c6, i6, hK6⟩ := u_known (C := RX6) (T := TX6) (N := 8) (n := 8) hx wLy_X6 (hx _ wIs_X6)
  obtain ⟨c7, i7, hK7⟩ := u_known (C := RX7) (T := TX7) (N := 12) (n := 12) hx wLy_X7 (hx _ wIs_X7)
  obtain ⟨a0, ha0⟩ := ex_arr (ty := .int) (hx _ wAC_int) (fun c h => h)
  obtain ⟨a1, ha1⟩ := ex_arr (ty := .boolean) (hx _ wAC_boolean) (fun c h => h)
  obtain ⟨a2, ha2⟩ := ex_arq hao
  obtain ⟨a3, ha3⟩ := ex_arr (ty := .long) (hx _ wAC_long) (fun c h => h)
  refine ⟨((fun k => match k with | 0 => c0 | 1 => c1 | 2 => c2 | 3 => c3 | 4 => c4 | 5 => c5 | 6 => c6 | _ => c7, fun k => match k with | 0 => i0 | 1 => i1 | 2 => i2 | 3 => i3 | 4 => i4 | 5 => i5 | 6 => i6 | _ => i7), a0, a1, a2, a3), fun k q hq => ?_, fun k q hq => ?_⟩
  · match k, hq with
    | 0, hq => cases hq; exact hK0
    | 1, hq => cases hq; exact hK1
    | 2, hq => cases hq; exact hK2
    | 3, hq => cases hq; exact hK3
    | 4, hq => cases hq; exact hK4
    | 5, hq => cases hq; exact hK5
    | 6, hq => cases hq; exact hK6
    | 7, hq => cases hq; exact hK7
    | k + 8, hq => simp [vwCl] at hq
  · match k, hq with
    | 0, hq => cases hq; exact ha0
    | 1, hq => cases hq; exact ha1
    | 2, hq => cases hq; exact ha2
    | 3, hq => cases hq; exact ha3
    | k + 4, hq => simp [xT] at hq
theorem env_S {s : State} {args : Array Value} {k : Nat} {tx : String} (h1 : (Cond.stringRef RX6 k tx).before args s = true) (h2 : (Cond.exactly (.string RX6 k) "java/lang/String").before args s = true) : ∃ sa, vk_R RX6 k tx sa s := by
  obtain ⟨a, c, cell, q, e, -⟩ := Cond.exactly_spec h2
  exact ⟨a, vk_R.of h1 e⟩
set_option maxRecDepth 100000 in
theorem law_env {s : State} {args : Array Value} (hts : ∀ w ∈ lw_tbl, w.before args s = true) (hgv : (Jvm.Cond.and given_1 narrow_1).before args s = true) : ∃ g : xGt, xEnv g.1 (xT g) (fun q => s.heap.size ≤ q) s s.heap := by
  have hx := x_of_tbl hts
  have hs := flat_of_before _ hgv
  have hao : (Cond.arrayOver (.object RX4)).before args s = true := hts _ (by decide +kernel)
  have hA : ∀ a : Nat, a < s.heap.size → ¬ s.heap.size ≤ a := fun a h q => absurd h (by omega)
  obtain ⟨g, hK⟩ := env_K hx hao
  refine ⟨g, hK, fun q hq => ?_, fun q hq => ?_, fun q hq => ?_, ⟨fun q hq => ?_, fun q hq => ?_⟩, va_AO.of hao, vx_Zqof (hts _ (by decide +kernel)) (hts _ (by decide +kernel)) (hs _ (by decide +kernel)) hA, vx_Zqof (hts _ (by decide +kernel)) (hts _ (by decide +kernel)) (hs _ (by decide +kernel)) hA⟩
  · simp only [xNs, List.mem_cons, List.not_mem_nil, or_false] at hq
    rcases hq with rfl | rfl | rfl | rfl | rfl | rfl | rfl | rfl | rfl | rfl <;> exact va_Nw.of rfl (hts _ (by decide +kernel))
  · simp only [xSs, List.mem_cons, List.not_mem_nil, or_false] at hq
    rcases hq with rfl | rfl | rfl | rfl | rfl | rfl | rfl | rfl | rfl | rfl | rfl <;> exact env_S (hts _ (by decide +kernel)) (hs _ (by decide +kernel))
  · simp only [xNo, List.mem_cons, List.not_mem_nil, or_false] at hq
    rcases hq with rfl | rfl | rfl <;> exact va_Nc.of (hs _ (by decide +kernel))
  · simp only [xCa, List.mem_cons, List.not_mem_nil, or_false] at hq
    rcases hq with rfl | rfl | rfl <;> exact va_Nw.of rfl (hts _ (by decide +kernel))
  · simp only [xDe, List.mem_cons, List.not_mem_nil, or_false] at hq
    rcases hq with rfl | rfl | rfl <;> exact va_Nw.of rfl (hts _ (by decide +kernel))
theorem RI.zero : RI r00 0 0 0 (fun _ => (0 : Int32)) (fun _ => none) (fun _ => none) sp_ini12 (fun _ => (0 : Int32)) (fun _ => (0 : Int32)) 0 0 := by
  refine ⟨⟨?_, ?_⟩, ⟨rfl, rfl, rfl⟩, ⟨rfl, Nat.zero_le _⟩, ⟨rfl, by decide⟩, ⟨rfl, Nat.zero_le _⟩, fun k hk => absurd hk (Nat.not_lt_zero _), fun k x hk => (by cases hk), fun k _ _ => rfl⟩
  · unfold SR
    decide +kernel
  · unfold VB rOk mOk sOk
    decide +kernel
theorem len6 {L i : Nat} (hL : L ≤ 3072) (hi : i ≤ 3072) : (nI L - 6 < nI i) ↔ L < i + 6 := by
  by_cases c : 6 ≤ L
  · rw [show (6 : Int32) = nI 6 from rfl, xnI_sub c, nI_ltI (by omega) (by omega)]
    omega
  · have h0 : nI L - 6 < 0 := by
      rcases (show L = 0 ∨ L = 1 ∨ L = 2 ∨ L = 3 ∨ L = 4 ∨ L = 5 by omega) with rfl | rfl | rfl | rfl | rfl | rfl <;> decide
    exact ⟨fun _ => by omega, fun _ => Int32.lt_of_lt_of_le h0 (Int32.not_lt.mp (nI_pos (by omega)))⟩
theorem and63 (v : Int32) : ∃ k : Nat, k < 64 ∧ v &&& 63 = nI k := by
  refine ⟨v.toBitVec.toNat &&& 63, Nat.lt_of_le_of_lt Nat.and_le_right (by decide), ?_⟩
  apply Int32.toBitVec_inj.mp
  apply BitVec.eq_of_toNat_eq
  have h63 : (63 : Int32).toBitVec.toNat = 63 := by decide
  rw [Int32.toBitVec_and, BitVec.toNat_and, h63]
  show _ = (BitVec.ofNat 32 (v.toBitVec.toNat &&& 63)).toNat
  rw [BitVec.toNat_ofNat, Nat.mod_eq_of_lt]
  exact Nat.lt_of_le_of_lt Nat.and_le_right (by decide)
set_option maxRecDepth 100000 in
set_option maxHeartbeats 4000000 in
theorem law_loop {p : Program} {l : Launch} {e : Env} {s : State} {m : MethodId} {args : Array Value} {below : List Frame} {meth : Method} {c : Code} {Q : State → Prop} {nm : String} {g : xGt} {A : Nat → Prop} {b L : Nat} {xs : Nat → Int32} {ap ad am : Nat → Nat} {ao : Nat} (C : xC p l s m args meth c cL_law 9 RL nm g.1 (xT g) A) (hX : va_X b L xs s s.heap) (hbl : b < s.heap.size) (hbA : ¬ A b) (hL : L ≤ 3072) (Kend : ∀ (k n : Nat) (ws : va_W) (lv : List (Nat × Value)), k ≤ 608633 → n ≤ 7270206 → xW p l e room_1 s m args below meth c g.1 A 9 k n Q ws lv 3138 [.int 1]) : ∀ (n t : Nat), t + n = 512 → ∀ (r : xR) (po : Int32) (pn : Int32) (pl : Int32) (tx : Nat → Int32) (rp : Int32) (rl : Int32) (rs : Int32) (rm : Int32) (rn : Int32) (rz : Int32) (sv : xPl) (mm : xPl) (u : Nat → Int32) (fi : Nat → Int32) (t2 : Nat → Int32) (dm : Nat → Int32) (th : Int32) (sa : Int32) (ln : Int32) (pa : Int32) (le : Int32) (sk : Int32) (nu : Int32) (h : Int64) (fo : Nat → Int64), RI r po pn pl tx sv mm u fi t2 sa ln → xW p l e room_1 s m args below meth c g.1 A 9 (36 + 40 * t) (1909 + 300 * t) Q (wLaw g ap ad am ao r po pn pl tx rp rl rs rm rn rz sv mm u fi t2 dm th sa ln pa le sk nu h fo) [(4, .int (nI (6 * t))), (3, .ref ao), (2, .ref (am 0)), (1, .ref (ap 0)), (0, .ref b)] 23 [] := by
  intro n
  induction n with
  | zero =>
    intro t ht r po pn pl tx rp rl rs rm rn rz sv mm u fi t2 dm th sa ln pa le sk nu h fo H
    refine x_iload C 0 rfl dL_law_23 ?_
    refine x_aload_n C 4 rfl rfl dL_law_25 ?_
    refine x_slen C hX hbl hbA dL_law_26 ?_
    refine x_bipush C 6 (by decide) dL_law_27 ?_
    refine x_isub C dL_law_29 ?_
    refine x_icmp_gt C 3137 (by decide) dL_law_30 (fun _ => ?_) (fun hz => absurd ((len6 hL (by omega)).mpr (by omega)) hz)
    refine x_iconst C 1 (by decide) dL_law_3137 ?_
    exact Kend _ _ _ _ (by omega) (by omega)
  | succ n ih =>
    intro t ht r po pn pl tx rp rl rs rm rn rz sv mm u fi t2 dm th sa ln pa le sk nu h fo H
    refine x_iload C 0 rfl dL_law_23 ?_
    refine x_aload_n C 4 rfl rfl dL_law_25 ?_
    refine x_slen C hX hbl hbA dL_law_26 ?_
    refine x_bipush C 6 (by decide) dL_law_27 ?_
    refine x_isub C dL_law_29 ?_
    refine x_icmp_gt C 3137 (by decide) dL_law_30 (fun _ => ?_) (fun hz => ?_)
    · refine x_iconst C 1 (by decide) dL_law_3137 ?_
      exact Kend _ _ _ _ (by omega) (by omega)
    have hi : 6 * t + 6 ≤ L := Nat.not_lt.mp (fun q => hz ((len6 hL (by omega)).mpr q))
    have hcC : 36 + 40 * t + 40 ≤ room_1.cells := Nat.le_trans (show 36 + 40 * t + 40 ≤ 21000 by omega) (nle rfl)
    have hsC : 1909 + 300 * t + 300 ≤ room_1.slots := Nat.le_trans (show 1909 + 300 * t + 300 ≤ 160000 by omega) (nle rfl)
    have hK : LK p l e s m args below meth c g A ap ad am ao b (6 * t) (36 + 40 * t + 40) (1909 + 300 * t + 300) Q := by
      intro r po pn pl tx rp rl rs rm rn rz sv mm u fi t2 dm th sa ln pa le sk nu h fo H
      refine x_iinc C 0 (nI (6 * (t + 1))) [(4, .int (nI (6 * (t + 1)))), (3, .ref ao), (2, .ref (am 0)), (1, .ref (ap 0)), (0, .ref b)] rfl (by show nI (6 * t) + nI 6 = nI (6 * (t + 1)); rw [nI_add]; exact congrArg nI (by omega)) rfl (by decide) dL_law_3131 ?_
      refine x_goto C 23 (by decide) dL_law_3134 ?_
      exact ih (t + 1) (by omega) r po pn pl tx rp rl rs rm rn rz sv mm u fi t2 dm th sa ln pa le sk nu h fo H
    refine x_aload_n C 4 rfl rfl dL_law_33 ?_
    refine x_iload C 0 rfl dL_law_34 ?_
    refine x_sld C (6 * t) hX hbl hbA rfl (by omega) (by omega) dL_law_36 ?_
    refine x_bipush C 63 (by decide) dL_law_37 ?_
    refine x_iand C dL_law_39 ?_
    obtain ⟨k, hk, ek⟩ := and63 (xs (6 * t))
    refine x_st (st' := [.int (nI k)]) (by rw [ek]) ?_
    rcases (show k = 0 ∨ k = 1 ∨ k = 2 ∨ k = 3 ∨ k = 4 ∨ k = 5 ∨ k = 6 ∨ k = 7 ∨ k = 8 ∨ k = 9 ∨ k = 10 ∨ k = 11 ∨ k = 12 ∨ k = 13 ∨ k = 14 ∨ k = 15 ∨ k = 16 ∨ k = 17 ∨ k = 18 ∨ k = 19 ∨ k = 20 ∨ k = 21 ∨ k = 22 ∨ k = 23 ∨ k = 24 ∨ k = 25 ∨ k = 26 ∨ k = 27 ∨ k = 28 ∨ k = 29 ∨ k = 30 ∨ k = 31 ∨ k = 32 ∨ k = 33 ∨ k = 34 ∨ k = 35 ∨ k = 36 ∨ k = 37 ∨ k = 38 ∨ k = 39 ∨ k = 40 ∨ k = 41 ∨ k = 42 ∨ k = 43 ∨ k = 44 ∨ k = 45 ∨ k = 46 ∨ k = 47 ∨ k = 48 ∨ k = 49 ∨ k = 50 ∨ k = 51 ∨ k = 52 ∨ k = 53 ∨ k = 54 ∨ k = 55 ∨ k = 56 ∨ k = 57 ∨ k = 58 ∨ k = 59 ∨ k = 60 ∨ k = 61 ∨ k = 62 ∨ k = 63 by omega) with rfl | rfl | rfl | rfl | rfl | rfl | rfl | rfl | rfl | rfl | rfl | rfl | rfl | rfl | rfl | rfl | rfl | rfl | rfl | rfl | rfl | rfl | rfl | rfl | rfl | rfl | rfl | rfl | rfl | rfl | rfl | rfl | rfl | rfl | rfl | rfl | rfl | rfl | rfl | rfl | rfl | rfl | rfl | rfl | rfl | rfl | rfl | rfl | rfl | rfl | rfl | rfl | rfl | rfl | rfl | rfl | rfl | rfl | rfl | rfl | rfl | rfl | rfl | rfl
    · refine x_tabIn C 300 dL_law_40 (by decide) (by decide) rfl (by decide) ?_
      exact c_0 C hX hbl hbA hi hL hcC hsC H hK
    · refine x_tabIn C 368 dL_law_40 (by decide) (by decide) rfl (by decide) ?_
      exact c_1 C hX hbl hbA hi hL hcC hsC H hK
    · refine x_tabIn C 424 dL_law_40 (by decide) (by decide) rfl (by decide) ?_
      exact c_2 C hX hbl hbA hi hL hcC hsC H hK
    · refine x_tabIn C 492 dL_law_40 (by decide) (by decide) rfl (by decide) ?_
      exact c_3 C hX hbl hbA hi hL hcC hsC H hK
    · refine x_tabIn C 548 dL_law_40 (by decide) (by decide) rfl (by decide) ?_
      exact c_4 C hX hbl hbA hi hL hcC hsC H hK
    · refine x_tabIn C 616 dL_law_40 (by decide) (by decide) rfl (by decide) ?_
      exact c_5 C hX hbl hbA hi hL hcC hsC H hK
    · refine x_tabIn C 672 dL_law_40 (by decide) (by decide) rfl (by decide) ?_
      exact c_6 C hX hbl hbA hi hL hcC hsC H hK
    · refine x_tabIn C 740 dL_law_40 (by decide) (by decide) rfl (by decide) ?_
      exact c_7 C hX hbl hbA hi hL hcC hsC H hK
    · refine x_tabIn C 796 dL_law_40 (by decide) (by decide) rfl (by decide) ?_
      exact c_8 C hX hbl hbA hi hL hcC hsC H hK
    · refine x_tabIn C 809 dL_law_40 (by decide) (by decide) rfl (by decide) ?_
      exact c_9 C hX hbl hbA hi hL hcC hsC H hK
    · refine x_tabIn C 822 dL_law_40 (by decide) (by decide) rfl (by decide) ?_
      exact c_10 C hX hbl hbA hi hL hcC hsC H hK
    · refine x_tabIn C 863 dL_law_40 (by decide) (by decide) rfl (by decide) ?_
      exact c_11 C hX hbl hbA hi hL hcC hsC H hK
    · refine x_tabIn C 876 dL_law_40 (by decide) (by decide) rfl (by decide) ?_
      exact c_12 C hX hbl hbA hi hL hcC hsC H hK
    · refine x_tabIn C 932 dL_law_40 (by decide) (by decide) rfl (by decide) ?_
      exact c_13 C hX hbl hbA hi hL hcC hsC H hK
    · refine x_tabIn C 1036 dL_law_40 (by decide) (by decide) rfl (by decide) ?_
      exact c_14 C hX hbl hbA hi hL hcC hsC H hK
    · refine x_tabIn C 1092 dL_law_40 (by decide) (by decide) rfl (by decide) ?_
      exact c_15 C hX hbl hbA hi hL hcC hsC H hK
    · refine x_tabIn C 1148 dL_law_40 (by decide) (by decide) rfl (by decide) ?_
      exact c_16 C hX hbl hbA hi hL hcC hsC H hK
    · refine x_tabIn C 1228 dL_law_40 (by decide) (by decide) rfl (by decide) ?_
      exact c_17 C hX hbl hbA hi hL hcC hsC H hK
    · refine x_tabIn C 1241 dL_law_40 (by decide) (by decide) rfl (by decide) ?_
      exact c_18 C hX hbl hbA hi hL hcC hsC H hK
    · refine x_tabIn C 1297 dL_law_40 (by decide) (by decide) rfl (by decide) ?_
      exact c_19 C hX hbl hbA hi hL hcC hsC H hK
    · refine x_tabIn C 1353 dL_law_40 (by decide) (by decide) rfl (by decide) ?_
      exact c_20 C hX hbl hbA hi hL hcC hsC H hK
    · refine x_tabIn C 1409 dL_law_40 (by decide) (by decide) rfl (by decide) ?_
      exact c_21 C hX hbl hbA hi hL hcC hsC H hK
    · refine x_tabIn C 1472 dL_law_40 (by decide) (by decide) rfl (by decide) ?_
      exact c_22 C hX hbl hbA hi hL hcC hsC H hK
    · refine x_tabIn C 1535 dL_law_40 (by decide) (by decide) rfl (by decide) ?_
      exact c_23 C hX hbl hbA hi hL hcC hsC H hK
    · refine x_tabIn C 1603 dL_law_40 (by decide) (by decide) rfl (by decide) ?_
      exact c_24 C hX hbl hbA hi hL hcC hsC H hK
    · refine x_tabIn C 1683 dL_law_40 (by decide) (by decide) rfl (by decide) ?_
      exact c_25 C hX hbl hbA hi hL hcC hsC H hK
    · refine x_tabIn C 1751 dL_law_40 (by decide) (by decide) rfl (by decide) ?_
      exact c_26 C hX hbl hbA hi hL hcC hsC H hK
    · refine x_tabIn C 1831 dL_law_40 (by decide) (by decide) rfl (by decide) ?_
      exact c_27 C hX hbl hbA hi hL hcC hsC H hK
    · refine x_tabIn C 1887 dL_law_40 (by decide) (by decide) rfl (by decide) ?_
      exact c_28 C hX hbl hbA hi hL hcC hsC H hK
    · refine x_tabIn C 1943 dL_law_40 (by decide) (by decide) rfl (by decide) ?_
      exact c_29 C hX hbl hbA hi hL hcC hsC H hK
    · refine x_tabIn C 1999 dL_law_40 (by decide) (by decide) rfl (by decide) ?_
      exact c_30 C hX hbl hbA hi hL hcC hsC H hK
    · refine x_tabIn C 2055 dL_law_40 (by decide) (by decide) rfl (by decide) ?_
      exact c_31 C hX hbl hbA hi hL hcC hsC H hK
    · refine x_tabIn C 2111 dL_law_40 (by decide) (by decide) rfl (by decide) ?_
      exact c_32 C hX hbl hbA hi hL hcC hsC H hK
    · refine x_tabIn C 2167 dL_law_40 (by decide) (by decide) rfl (by decide) ?_
      exact c_33 C hX hbl hbA hi hL hcC hsC H hK
    · refine x_tabIn C 2223 dL_law_40 (by decide) (by decide) rfl (by decide) ?_
      exact c_34 C hX hbl hbA hi hL hcC hsC H hK
    · refine x_tabIn C 2279 dL_law_40 (by decide) (by decide) rfl (by decide) ?_
      exact c_35 C hX hbl hbA hi hL hcC hsC H hK
    · refine x_tabIn C 2335 dL_law_40 (by decide) (by decide) rfl (by decide) ?_
      exact c_36 C hX hbl hbA hi hL hcC hsC H hK
    · refine x_tabIn C 2348 dL_law_40 (by decide) (by decide) rfl (by decide) ?_
      exact c_37 C hX hbl hbA hi hL hcC hsC H hK
    · refine x_tabIn C 2361 dL_law_40 (by decide) (by decide) rfl (by decide) ?_
      exact c_38 C hX hbl hbA hi hL hcC hsC H hK
    · refine x_tabIn C 2374 dL_law_40 (by decide) (by decide) rfl (by decide) ?_
      exact c_39 C hX hbl hbA hi hL hcC hsC H hK
    · refine x_tabIn C 2387 dL_law_40 (by decide) (by decide) rfl (by decide) ?_
      exact c_40 C hX hbl hbA hi hL hcC hsC H hK
    · refine x_tabIn C 2400 dL_law_40 (by decide) (by decide) rfl (by decide) ?_
      exact c_41 C hX hbl hbA hi hL hcC hsC H hK
    · refine x_tabIn C 2413 dL_law_40 (by decide) (by decide) rfl (by decide) ?_
      exact c_42 C hX hbl hbA hi hL hcC hsC H hK
    · refine x_tabIn C 2426 dL_law_40 (by decide) (by decide) rfl (by decide) ?_
      exact c_43 C hX hbl hbA hi hL hcC hsC H hK
    · refine x_tabIn C 2439 dL_law_40 (by decide) (by decide) rfl (by decide) ?_
      exact c_44 C hX hbl hbA hi hL hcC hsC H hK
    · refine x_tabIn C 2452 dL_law_40 (by decide) (by decide) rfl (by decide) ?_
      exact c_45 C hX hbl hbA hi hL hcC hsC H hK
    · refine x_tabIn C 2508 dL_law_40 (by decide) (by decide) rfl (by decide) ?_
      exact c_46 C hX hbl hbA hi hL hcC hsC H hK
    · refine x_tabIn C 2564 dL_law_40 (by decide) (by decide) rfl (by decide) ?_
      exact c_47 C hX hbl hbA hi hL hcC hsC H hK
    · refine x_tabIn C 2644 dL_law_40 (by decide) (by decide) rfl (by decide) ?_
      exact c_48 C hX hbl hbA hi hL hcC hsC H hK
    · refine x_tabIn C 2700 dL_law_40 (by decide) (by decide) rfl (by decide) ?_
      exact c_49 C hX hbl hbA hi hL hcC hsC H hK
    · refine x_tabIn C 2768 dL_law_40 (by decide) (by decide) rfl (by decide) ?_
      exact c_50 C hX hbl hbA hi hL hcC hsC H hK
    · refine x_tabIn C 2781 dL_law_40 (by decide) (by decide) rfl (by decide) ?_
      exact c_51 C hX hbl hbA hi hL hcC hsC H hK
    · refine x_tabIn C 2822 dL_law_40 (by decide) (by decide) rfl (by decide) ?_
      exact c_52 C hX hbl hbA hi hL hcC hsC H hK
    · refine x_tabIn C 2878 dL_law_40 (by decide) (by decide) rfl (by decide) ?_
      exact c_53 C hX hbl hbA hi hL hcC hsC H hK
    · refine x_tabIn C 2891 dL_law_40 (by decide) (by decide) rfl (by decide) ?_
      exact c_54 C hX hbl hbA hi hL hcC hsC H hK
    · refine x_tabIn C 2904 dL_law_40 (by decide) (by decide) rfl (by decide) ?_
      exact c_55 C hX hbl hbA hi hL hcC hsC H hK
    · refine x_tabIn C 2948 dL_law_40 (by decide) (by decide) rfl (by decide) ?_
      exact c_56 C hX hbl hbA hi hL hcC hsC H hK
    · refine x_tabIn C 2992 dL_law_40 (by decide) (by decide) rfl (by decide) ?_
      exact c_57 C hX hbl hbA hi hL hcC hsC H hK
    · refine x_tabIn C 3005 dL_law_40 (by decide) (by decide) rfl (by decide) ?_
      exact c_58 C hX hbl hbA hi hL hcC hsC H hK
    · refine x_tabIn C 3061 dL_law_40 (by decide) (by decide) rfl (by decide) ?_
      exact c_59 C hX hbl hbA hi hL hcC hsC H hK
    · refine x_tabIn C 3117 dL_law_40 (by decide) (by decide) rfl (by decide) ?_
      exact c_60 C hX hbl hbA hi hL hcC hsC H hK
    · refine x_tabOut C 3131 dL_law_40 (by decide) (by decide) ?_
      refine x_wid (k := 36 + 40 * t + 40) (n := 1909 + 300 * t + 300) (by omega) (by omega) ?_
      exact hK r po pn pl tx rp rl rs rm rn rz sv mm u fi t2 dm th sa ln pa le sk nu h fo H
    · refine x_tabOut C 3131 dL_law_40 (by decide) (by decide) ?_
      refine x_wid (k := 36 + 40 * t + 40) (n := 1909 + 300 * t + 300) (by omega) (by omega) ?_
      exact hK r po pn pl tx rp rl rs rm rn rz sv mm u fi t2 dm th sa ln pa le sk nu h fo H
    · refine x_tabOut C 3131 dL_law_40 (by decide) (by decide) ?_
      refine x_wid (k := 36 + 40 * t + 40) (n := 1909 + 300 * t + 300) (by omega) (by omega) ?_
      exact hK r po pn pl tx rp rl rs rm rn rz sv mm u fi t2 dm th sa ln pa le sk nu h fo H

theorem pm_law (X Y Z : va_W) : ((X ++ Y) ++ Z).Perm (Z ++ (Y ++ X)) := List.perm_append_comm.trans (List.Perm.append_left Z List.perm_append_comm)
set_option maxRecDepth 100000 in
set_option maxHeartbeats 4000000 in
theorem law_go {p : Program} {l : Launch} {e : Env} {s : State} {m : MethodId} {args : Array Value} {below : List Frame} {meth : Method} {c : Code} {Q : State → Prop} {nm : String} {g : xGt} {A : Nat → Prop} {b L : Nat} {xs : Nat → Int32} (C : xC p l s m args meth c cL_law 9 RL nm g.1 (xT g) A) (hX : va_X b L xs s s.heap) (hbl : b < s.heap.size) (hbA : ¬ A b) (hL : L ≤ 3072) (Kend : ∀ (k n : Nat) (ws : va_W) (lv : List (Nat × Value)), k ≤ 608633 → n ≤ 7270206 → xW p l e room_1 s m args below meth c g.1 A 9 k n Q ws lv 3138 [.int 1]) : xW p l e room_1 s m args below meth c g.1 A 9 0 0 Q ([] : va_W) [(0, .ref b)] 0 [] := by
  refine x_new (ci := 6) C tyX6 wLy_X6 tyX6_ok wCL_L_8 wIs_X6 wIn_X6 rfl (fs := [.null, .null, .int 0, .int 0, .null, .null, .int 0, .null]) (fun j hj => match j, hj with | 0, _ => rfl | 1, _ => rfl | 2, _ => rfl | 3, _ => rfl | 4, _ => rfl | 5, _ => rfl | 6, _ => rfl | 7, _ => rfl | j + 8, h => absurd h (by omega)) (nle rfl) (nle rfl) dL_law_0 (fun q1 => ?_)
  refine x_dup C rfl dL_law_3 ?_
  refine x_callI (w1 := ([] : va_W)) (wc := _) (w2 := ([] : va_W)) [] [.ref q1] C (k_X6_init l g q1) yI_X6_init wML_L_144 rfl rfl rfl (nle rfl) (nle rfl) (nle rfl) (nle rfl) (nle rfl) dL_law_4 (fun E w h => h.elim) (fun r0 w0 h0 => ?_)
  obtain ⟨rfl, ap, ad, hq, rfl⟩ := h0
  subst hq
  refine x_ws (ws' := (wCl g ap ad r00 0 0 0 (fun _ => (0 : Int32)) 0 0 0 0 0 0 (fun _ => none) (fun _ => none))) (by rw [List.nil_append, List.append_nil]) ?_
  refine x_astore_n C [(1, .ref (ap 0)), (0, .ref b)] rfl rfl (by decide) dL_law_7 ?_
  refine x_new (ci := 7) C tyX7 wLy_X7 tyX7_ok wCL_L_145 wIs_X7 wIn_X7 rfl (fs := [.int 0, .null, .int 0, .null, .null, .int 0, .int 0, .int 0, .int 0, .int 0, .null, .long 0]) (fun j hj => match j, hj with | 0, _ => rfl | 1, _ => rfl | 2, _ => rfl | 3, _ => rfl | 4, _ => rfl | 5, _ => rfl | 6, _ => rfl | 7, _ => rfl | 8, _ => rfl | 9, _ => rfl | 10, _ => rfl | 11, _ => rfl | j + 12, h => absurd h (by omega)) (nle rfl) (nle rfl) dL_law_8 (fun q2 => ?_)
  refine x_dup C rfl dL_law_11 ?_
  refine x_callI (w1 := (wCl g ap ad r00 0 0 0 (fun _ => (0 : Int32)) 0 0 0 0 0 0 (fun _ => none) (fun _ => none))) (wc := _) (w2 := ([] : va_W)) [] [.ref q2] C (k_X7_init l g q2) yI_X7_init wML_L_147 (by rw [List.append_nil]) rfl rfl (nle rfl) (nle rfl) (nle rfl) (nle rfl) (nle rfl) dL_law_12 (fun E w h => h.elim) (fun r0 w0 h0 => ?_)
  obtain ⟨rfl, am, hq, rfl⟩ := h0
  subst hq
  refine x_ws (ws' := (wCl g ap ad r00 0 0 0 (fun _ => (0 : Int32)) 0 0 0 0 0 0 (fun _ => none) (fun _ => none)) ++ (wMo g am (sp_ini12) (fun _ => (0 : Int32)) (fun _ => (0 : Int32)) (fun _ => (0 : Int32)) 0 0 0 0 0 0 0 0)) (by rw [List.append_nil]) ?_
  refine x_astore_n C [(2, .ref (am 0)), (1, .ref (ap 0)), (0, .ref b)] rfl rfl (by decide) dL_law_15 ?_
  refine x_iconst C 1 (by decide) dL_law_16 ?_
  refine x_newa C (atype := .long) (ty := .long) (cA := g.2.2.2.2) 3 rfl (fun _ _ h => h) wAC_long rfl (N' := 1) (a0 := (1, .inr (.inl (fun _ => (0 : Int64))))) (fun _ => rfl) (by decide) (by decide) (by decide) (nle rfl) (nle rfl) dL_law_17 (fun ao => ?_)
  refine x_perm (ws' := wOu g ao (fun _ => (0 : Int64)) ++ ((wMo g am (sp_ini12) (fun _ => (0 : Int32)) (fun _ => (0 : Int32)) (fun _ => (0 : Int32)) 0 0 0 0 0 0 0 0) ++ (wCl g ap ad r00 0 0 0 (fun _ => (0 : Int32)) 0 0 0 0 0 0 (fun _ => none) (fun _ => none)))) (pm_law _ _ _) ?_
  refine x_astore_n C [(3, .ref ao), (2, .ref (am 0)), (1, .ref (ap 0)), (0, .ref b)] rfl rfl (by decide) dL_law_19 ?_
  refine x_iconst C 0 (by decide) dL_law_20 ?_
  refine x_istore C [(4, .int (0)), (3, .ref ao), (2, .ref (am 0)), (1, .ref (ap 0)), (0, .ref b)] rfl (by decide) dL_law_21 ?_
  exact law_loop (ap := ap) (ad := ad) (am := am) (ao := ao) C hX hbl hbA hL Kend 512 0 rfl r00 0 0 0 (fun _ => (0 : Int32)) 0 0 0 0 0 0 (fun _ => none) (fun _ => none) sp_ini12 (fun _ => (0 : Int32)) (fun _ => (0 : Int32)) (fun _ => (0 : Int32)) 0 0 0 0 0 0 0 0 (fun _ => (0 : Int64)) RI.zero
