def sp_ini1  : Nat → Int32 := (upd (fun _ => (0 : Int32)) 24 1)
def sp_ini2  : Nat → Int32 := (sp_X7_adds_s (upd (upd (sp_ini1) (8 + 0) 100) (12 + 0) 100) 0 0 100 0 0)
def sp_ini3  : Nat → Int32 := (sp_X7_adds_s (upd (upd (sp_ini2) (8 + 1) 100) (12 + 1) 100) 1 1 100 0 0)
def sp_ini4  : Nat → Int32 := (sp_X7_adds_s (upd (upd (sp_ini3) (8 + 2) 100) (12 + 2) 100) 2 2 100 0 0)
def sp_ini5  : Nat → Int32 := (sp_X7_adds_s (upd (upd (sp_ini4) (8 + 3) 100) (12 + 3) 100) 3 3 100 0 0)
def sp_ini6  : Nat → Int32 := (upd (upd (upd (sp_ini5) (0 + 87 + 10 * 0 + 2) (-100)) (0 + 87 + 10 * 0 + 3) 100) (0 + 87 + 10 * 0 + 4) 300)
def sp_ini7  : Nat → Int32 := (upd (upd (upd (sp_ini6) (0 + 87 + 10 * 1 + 2) (-100)) (0 + 87 + 10 * 1 + 3) 100) (0 + 87 + 10 * 1 + 4) 300)
def sp_ini8  : Nat → Int32 := (upd (upd (upd (sp_ini7) (0 + 87 + 10 * 2 + 2) (-100)) (0 + 87 + 10 * 2 + 3) 100) (0 + 87 + 10 * 2 + 4) 300)
def sp_ini9  : Nat → Int32 := (upd (upd (upd (sp_ini8) (0 + 87 + 10 * 3 + 2) (-100)) (0 + 87 + 10 * 3 + 3) 100) (0 + 87 + 10 * 3 + 4) 300)
def sp_ini10  : Nat → Int32 := (upd (upd (upd (sp_ini9) (0 + 87 + 10 * 4 + 2) (-100)) (0 + 87 + 10 * 4 + 3) 100) (0 + 87 + 10 * 4 + 4) 300)
def sp_ini11  : Nat → Int32 := (upd (upd (upd (sp_ini10) (0 + 87 + 10 * 5 + 2) (-100)) (0 + 87 + 10 * 5 + 3) 100) (0 + 87 + 10 * 5 + 4) 300)
def sp_ini12  : Nat → Int32 := (upd (upd (sp_ini11) 147 5) 148 20000)
set_option maxRecDepth 100000 in
set_option maxHeartbeats 1000000 in
theorem k_X7_init (l : Launch) (g : xGt) (aq : Nat) : xM l g.1 (xT g) yX7_init (ws_ yX7_init cX7_init 2 none) (xRm 1 26 4 1628) 4 1628 [.ref aq] ([(aq, .inr (7, [.int 0, .null, .int 0, .null, .null, .int 0, .int 0, .int 0, .int 0, .int 0, .null, .long 0]))] : va_W) (fun r9 w9 => r9 = none ∧ ∃ ad : Nat → Nat, ad 0 = aq ∧ w9 = (wMo g ad (sp_ini12) (fun _ => (0 : Int32)) (fun _ => (0 : Int32)) (fun _ => (0 : Int32)) 0 0 0 0 0 0 0 0)) (fun _ _ => False) := by
  refine x_start (own := RX7) (nm := "<init>") rfl rfl (by decide +kernel) rfl (nle rfl) (fun p e σ m args below meth c A C hno hr => ?_)
  refine x_lve (lv' := [(0, .ref aq)]) rfl ?_
  refine x_aload_n C 0 rfl rfl dX7_init_0 ?_
  refine x_objInit C wML_X7_1 dX7_init_1 (nle rfl) (nle rfl) ?_
  refine x_aload_n C 0 rfl rfl dX7_init_4 ?_
  refine x_sipush C 1560 (by decide) dX7_init_5 ?_
  refine x_newa C (atype := .int) (ty := .int) (cA := g.2.1) 0 rfl (fun _ _ h => h) wAC_int rfl (N' := 1560) (a0 := (1560, .inl (fun _ => (0 : Int32)))) (fun _ => rfl) (by decide) (by decide) (by decide) (nle rfl) (nle rfl) dX7_init_8 (fun q1 => ?_)
  refine x_ws (ws' := ([(aq, .inr (7, [.int 0, .null, .int 0, .null, .null, .int 0, .int 0, .int 0, .int 0, .int 0, .null, .long 0])), (q1, .inl (g.2.1, 1560, .inl (fun _ => (0 : Int32))))] : va_W)) rfl ?_
  refine x_putF C 0 7 1 tyX7 ([(aq, .inr (7, [.int 0, .ref q1, .int 0, .null, .null, .int 0, .int 0, .int 0, .int 0, .int 0, .null, .long 0])), (q1, .inl (g.2.1, 1560, .inl (fun _ => (0 : Int32))))] : va_W) rfl rfl rfl wLy_X7 tyX7_ok nmX7 wFL_X7_7 rfl (by decide) rfl rfl rfl rfl rfl rfl (nlt rfl) dX7_init_10 ?_
  refine x_aload_n C 0 rfl rfl dX7_init_13 ?_
  refine x_iconst C 2 (by decide) dX7_init_14 ?_
  refine x_newa C (atype := .boolean) (ty := .boolean) (cA := g.2.2.1) 1 rfl (fun _ _ h => h) wAC_boolean rfl (N' := 2) (a0 := (2, .inl (fun _ => (0 : Int32)))) (fun _ => rfl) (by decide) (by decide) (by decide) (nle rfl) (nle rfl) dX7_init_15 (fun q2 => ?_)
  refine x_ws (ws' := ([(aq, .inr (7, [.int 0, .ref q1, .int 0, .null, .null, .int 0, .int 0, .int 0, .int 0, .int 0, .null, .long 0])), (q1, .inl (g.2.1, 1560, .inl (fun _ => (0 : Int32)))), (q2, .inl (g.2.2.1, 2, .inl (fun _ => (0 : Int32))))] : va_W)) rfl ?_
  refine x_putF C 0 7 3 tyX7 ([(aq, .inr (7, [.int 0, .ref q1, .int 0, .ref q2, .null, .int 0, .int 0, .int 0, .int 0, .int 0, .null, .long 0])), (q1, .inl (g.2.1, 1560, .inl (fun _ => (0 : Int32)))), (q2, .inl (g.2.2.1, 2, .inl (fun _ => (0 : Int32))))] : va_W) rfl rfl rfl wLy_X7 tyX7_ok nmX7 wFL_X7_13 rfl (by decide) rfl rfl rfl rfl rfl rfl (nlt rfl) dX7_init_17 ?_
  refine x_aload_n C 0 rfl rfl dX7_init_20 ?_
  refine x_bipush C 60 (by decide) dX7_init_21 ?_
  refine x_newa C (atype := .int) (ty := .int) (cA := g.2.1) 0 rfl (fun _ _ h => h) wAC_int rfl (N' := 60) (a0 := (60, .inl (fun _ => (0 : Int32)))) (fun _ => rfl) (by decide) (by decide) (by decide) (nle rfl) (nle rfl) dX7_init_23 (fun q3 => ?_)
  refine x_ws (ws' := ([(aq, .inr (7, [.int 0, .ref q1, .int 0, .ref q2, .null, .int 0, .int 0, .int 0, .int 0, .int 0, .null, .long 0])), (q1, .inl (g.2.1, 1560, .inl (fun _ => (0 : Int32)))), (q2, .inl (g.2.2.1, 2, .inl (fun _ => (0 : Int32)))), (q3, .inl (g.2.1, 60, .inl (fun _ => (0 : Int32))))] : va_W)) rfl ?_
  refine x_putF C 0 7 4 tyX7 ([(aq, .inr (7, [.int 0, .ref q1, .int 0, .ref q2, .ref q3, .int 0, .int 0, .int 0, .int 0, .int 0, .null, .long 0])), (q1, .inl (g.2.1, 1560, .inl (fun _ => (0 : Int32)))), (q2, .inl (g.2.2.1, 2, .inl (fun _ => (0 : Int32)))), (q3, .inl (g.2.1, 60, .inl (fun _ => (0 : Int32))))] : va_W) rfl rfl rfl wLy_X7 tyX7_ok nmX7 wFL_X7_17 rfl (by decide) rfl rfl rfl rfl rfl rfl (nlt rfl) dX7_init_25 ?_
  refine x_aload_n C 0 rfl rfl dX7_init_28 ?_
  refine x_bipush C 6 (by decide) dX7_init_29 ?_
  refine x_newa C (atype := .int) (ty := .int) (cA := g.2.1) 0 rfl (fun _ _ h => h) wAC_int rfl (N' := 6) (a0 := (6, .inl (fun _ => (0 : Int32)))) (fun _ => rfl) (by decide) (by decide) (by decide) (nle rfl) (nle rfl) dX7_init_31 (fun q4 => ?_)
  refine x_ws (ws' := ([(aq, .inr (7, [.int 0, .ref q1, .int 0, .ref q2, .ref q3, .int 0, .int 0, .int 0, .int 0, .int 0, .null, .long 0])), (q1, .inl (g.2.1, 1560, .inl (fun _ => (0 : Int32)))), (q2, .inl (g.2.2.1, 2, .inl (fun _ => (0 : Int32)))), (q3, .inl (g.2.1, 60, .inl (fun _ => (0 : Int32)))), (q4, .inl (g.2.1, 6, .inl (fun _ => (0 : Int32))))] : va_W)) rfl ?_
  refine x_putF C 0 7 10 tyX7 ([(aq, .inr (7, [.int 0, .ref q1, .int 0, .ref q2, .ref q3, .int 0, .int 0, .int 0, .int 0, .int 0, .ref q4, .long 0])), (q1, .inl (g.2.1, 1560, .inl (fun _ => (0 : Int32)))), (q2, .inl (g.2.2.1, 2, .inl (fun _ => (0 : Int32)))), (q3, .inl (g.2.1, 60, .inl (fun _ => (0 : Int32)))), (q4, .inl (g.2.1, 6, .inl (fun _ => (0 : Int32))))] : va_W) rfl rfl rfl wLy_X7 tyX7_ok nmX7 wFL_X7_20 rfl (by decide) rfl rfl rfl rfl rfl rfl (nlt rfl) dX7_init_33 ?_
  suffices KB5 : ∀ am : Nat → Nat, am 0 = aq → xW p l e _ σ m args below meth c g.1 A 2 4 1628 _ (wMo g am (fun _ => (0 : Int32)) (fun _ => (0 : Int32)) (fun _ => (0 : Int32)) (fun _ => (0 : Int32)) 0 0 0 0 0 0 0 0) [(0, .ref aq)] 36 [] from
    KB5 (adL [aq, q1, q2, q3, q4]) rfl
  intro am hka
  subst hka
  refine x_aload_n C 0 rfl rfl dX7_init_36 ?_
  refine x_get C 0 7 1 rfl rfl wLy_X7 wFL_X7_7 rfl (by decide) rfl dX7_init_37 ?_
  refine x_bipush C 24 (by decide) dX7_init_40 ?_
  refine x_iconst C 1 (by decide) dX7_init_42 ?_
  refine x_iastN (f := (fun _ => (0 : Int32))) C 1 0 24 (wMo g am (upd (fun _ => (0 : Int32)) 24 1) (fun _ => (0 : Int32)) (fun _ => (0 : Int32)) (fun _ => (0 : Int32)) 0 0 0 0 0 0 0 0) rfl rfl rfl rfl (by omega) (by decide) dX7_init_43 ?_
  refine x_ws (ws' := (wMo g am (sp_ini1) (fun _ => (0 : Int32)) (fun _ => (0 : Int32)) (fun _ => (0 : Int32)) 0 0 0 0 0 0 0 0)) rfl ?_
  refine x_iconst C 0 (by decide) dX7_init_44 ?_
  refine x_istore_n C [(1, .int 0), (0, .ref (am 0))] rfl rfl (by decide) dX7_init_45 ?_
  refine x_iload_n C 0 rfl rfl dX7_init_46 ?_
  refine x_iconst C 4 (by decide) dX7_init_47 ?_
  refine x_icmp_ge C 89 (by decide) dX7_init_48 (fun hz => absurd hz (by decide)) (fun _ => ?_)
  refine x_aload_n C 1 rfl rfl dX7_init_51 ?_
  refine x_get C 0 7 1 rfl rfl wLy_X7 wFL_X7_7 rfl (by decide) rfl dX7_init_52 ?_
  refine x_bipush C 8 (by decide) dX7_init_55 ?_
  refine x_iload_n C 0 rfl rfl dX7_init_57 ?_
  refine x_iaddN C 8 0 rfl rfl dX7_init_58 ?_
  refine x_bipush C 100 (by decide) dX7_init_59 ?_
  refine x_iastN (f := (sp_ini1)) C 1 0 (8 + 0) (wMo g am (upd (sp_ini1) (8 + 0) 100) (fun _ => (0 : Int32)) (fun _ => (0 : Int32)) (fun _ => (0 : Int32)) 0 0 0 0 0 0 0 0) rfl rfl rfl rfl (by omega) (by decide) dX7_init_61 ?_
  refine x_aload_n C 1 rfl rfl dX7_init_62 ?_
  refine x_get C 0 7 1 rfl rfl wLy_X7 wFL_X7_7 rfl (by decide) rfl dX7_init_63 ?_
  refine x_bipush C 12 (by decide) dX7_init_66 ?_
  refine x_iload_n C 0 rfl rfl dX7_init_68 ?_
  refine x_iaddN C 12 0 rfl rfl dX7_init_69 ?_
  refine x_bipush C 100 (by decide) dX7_init_70 ?_
  refine x_iastN (f := (upd (sp_ini1) (8 + 0) 100)) C 1 0 (12 + 0) (wMo g am (upd (upd (sp_ini1) (8 + 0) 100) (12 + 0) 100) (fun _ => (0 : Int32)) (fun _ => (0 : Int32)) (fun _ => (0 : Int32)) 0 0 0 0 0 0 0 0) rfl rfl rfl rfl (by omega) (by decide) dX7_init_72 ?_
  refine x_aload_n C 1 rfl rfl dX7_init_73 ?_
  refine x_iload_n C 0 rfl rfl dX7_init_74 ?_
  refine x_iload_n C 0 rfl rfl dX7_init_75 ?_
  refine x_bipush C 100 (by decide) dX7_init_76 ?_
  refine x_iconst C 0 (by decide) dX7_init_78 ?_
  refine x_iconst C 0 (by decide) dX7_init_79 ?_
  refine x_GV (w1 := ([] : va_W)) (wc := (wMo g am (upd (upd (sp_ini1) (8 + 0) 100) (12 + 0) 100) (fun _ => (0 : Int32)) (fun _ => (0 : Int32)) (fun _ => (0 : Int32)) 0 0 0 0 0 0 0 0)) (w2 := ([] : va_W)) [.int 0, .int 0, .int 100, .int 0, .int 0] [] (wMo g am (sp_X7_adds_s (upd (upd (sp_ini1) (8 + 0) 100) (12 + 0) 100) 0 0 100 0 0) (fun _ => (0 : Int32)) (fun _ => (0 : Int32)) (fun _ => (0 : Int32)) 0 0 0 0 0 0 0 0) C (k_X7_adds l g am (upd (upd (sp_ini1) (8 + 0) 100) (12 + 0) 100) (fun _ => (0 : Int32)) (fun _ => (0 : Int32)) (fun _ => (0 : Int32)) 0 0 0 0 0 0 0 0 0 0 100 0 0 (by decide) (by decide)) rfl yV_X7_adds wML_X7_23 rfl 0 rfl rfl rfl rfl (nle rfl) (nle rfl) (nle rfl) (nle rfl) (nle rfl) dX7_init_80 ?_
  refine x_ws (ws' := (wMo g am (sp_ini2) (fun _ => (0 : Int32)) (fun _ => (0 : Int32)) (fun _ => (0 : Int32)) 0 0 0 0 0 0 0 0)) rfl ?_
  refine x_iinc C 0 1 [(1, .int 1), (0, .ref (am 0))] rfl (rfl) rfl (by decide) dX7_init_83 ?_
  refine x_goto C 46 (by decide) dX7_init_86 ?_
  refine x_iload_n C 0 rfl rfl dX7_init_46 ?_
  refine x_iconst C 4 (by decide) dX7_init_47 ?_
  refine x_icmp_ge C 89 (by decide) dX7_init_48 (fun hz => absurd hz (by decide)) (fun _ => ?_)
  refine x_aload_n C 1 rfl rfl dX7_init_51 ?_
  refine x_get C 0 7 1 rfl rfl wLy_X7 wFL_X7_7 rfl (by decide) rfl dX7_init_52 ?_
  refine x_bipush C 8 (by decide) dX7_init_55 ?_
  refine x_iload_n C 0 rfl rfl dX7_init_57 ?_
  refine x_iaddN C 8 1 rfl rfl dX7_init_58 ?_
  refine x_bipush C 100 (by decide) dX7_init_59 ?_
  refine x_iastN (f := (sp_ini2)) C 1 0 (8 + 1) (wMo g am (upd (sp_ini2) (8 + 1) 100) (fun _ => (0 : Int32)) (fun _ => (0 : Int32)) (fun _ => (0 : Int32)) 0 0 0 0 0 0 0 0) rfl rfl rfl rfl (by omega) (by decide) dX7_init_61 ?_
  refine x_aload_n C 1 rfl rfl dX7_init_62 ?_
  refine x_get C 0 7 1 rfl rfl wLy_X7 wFL_X7_7 rfl (by decide) rfl dX7_init_63 ?_
  refine x_bipush C 12 (by decide) dX7_init_66 ?_
  refine x_iload_n C 0 rfl rfl dX7_init_68 ?_
  refine x_iaddN C 12 1 rfl rfl dX7_init_69 ?_
  refine x_bipush C 100 (by decide) dX7_init_70 ?_
  refine x_iastN (f := (upd (sp_ini2) (8 + 1) 100)) C 1 0 (12 + 1) (wMo g am (upd (upd (sp_ini2) (8 + 1) 100) (12 + 1) 100) (fun _ => (0 : Int32)) (fun _ => (0 : Int32)) (fun _ => (0 : Int32)) 0 0 0 0 0 0 0 0) rfl rfl rfl rfl (by omega) (by decide) dX7_init_72 ?_
  refine x_aload_n C 1 rfl rfl dX7_init_73 ?_
  refine x_iload_n C 0 rfl rfl dX7_init_74 ?_
  refine x_iload_n C 0 rfl rfl dX7_init_75 ?_
  refine x_bipush C 100 (by decide) dX7_init_76 ?_
  refine x_iconst C 0 (by decide) dX7_init_78 ?_
  refine x_iconst C 0 (by decide) dX7_init_79 ?_
  refine x_GV (w1 := ([] : va_W)) (wc := (wMo g am (upd (upd (sp_ini2) (8 + 1) 100) (12 + 1) 100) (fun _ => (0 : Int32)) (fun _ => (0 : Int32)) (fun _ => (0 : Int32)) 0 0 0 0 0 0 0 0)) (w2 := ([] : va_W)) [.int 1, .int 1, .int 100, .int 0, .int 0] [] (wMo g am (sp_X7_adds_s (upd (upd (sp_ini2) (8 + 1) 100) (12 + 1) 100) 1 1 100 0 0) (fun _ => (0 : Int32)) (fun _ => (0 : Int32)) (fun _ => (0 : Int32)) 0 0 0 0 0 0 0 0) C (k_X7_adds l g am (upd (upd (sp_ini2) (8 + 1) 100) (12 + 1) 100) (fun _ => (0 : Int32)) (fun _ => (0 : Int32)) (fun _ => (0 : Int32)) 0 0 0 0 0 0 0 0 1 1 100 0 0 (by decide) (by decide)) rfl yV_X7_adds wML_X7_23 rfl 0 rfl rfl rfl rfl (nle rfl) (nle rfl) (nle rfl) (nle rfl) (nle rfl) dX7_init_80 ?_
  refine x_ws (ws' := (wMo g am (sp_ini3) (fun _ => (0 : Int32)) (fun _ => (0 : Int32)) (fun _ => (0 : Int32)) 0 0 0 0 0 0 0 0)) rfl ?_
  refine x_iinc C 0 2 [(1, .int 2), (0, .ref (am 0))] rfl (rfl) rfl (by decide) dX7_init_83 ?_
  refine x_goto C 46 (by decide) dX7_init_86 ?_
  refine x_iload_n C 0 rfl rfl dX7_init_46 ?_
  refine x_iconst C 4 (by decide) dX7_init_47 ?_
  refine x_icmp_ge C 89 (by decide) dX7_init_48 (fun hz => absurd hz (by decide)) (fun _ => ?_)
  refine x_aload_n C 1 rfl rfl dX7_init_51 ?_
  refine x_get C 0 7 1 rfl rfl wLy_X7 wFL_X7_7 rfl (by decide) rfl dX7_init_52 ?_
  refine x_bipush C 8 (by decide) dX7_init_55 ?_
  refine x_iload_n C 0 rfl rfl dX7_init_57 ?_
  refine x_iaddN C 8 2 rfl rfl dX7_init_58 ?_
  refine x_bipush C 100 (by decide) dX7_init_59 ?_
  refine x_iastN (f := (sp_ini3)) C 1 0 (8 + 2) (wMo g am (upd (sp_ini3) (8 + 2) 100) (fun _ => (0 : Int32)) (fun _ => (0 : Int32)) (fun _ => (0 : Int32)) 0 0 0 0 0 0 0 0) rfl rfl rfl rfl (by omega) (by decide) dX7_init_61 ?_
  refine x_aload_n C 1 rfl rfl dX7_init_62 ?_
  refine x_get C 0 7 1 rfl rfl wLy_X7 wFL_X7_7 rfl (by decide) rfl dX7_init_63 ?_
  refine x_bipush C 12 (by decide) dX7_init_66 ?_
  refine x_iload_n C 0 rfl rfl dX7_init_68 ?_
  refine x_iaddN C 12 2 rfl rfl dX7_init_69 ?_
  refine x_bipush C 100 (by decide) dX7_init_70 ?_
  refine x_iastN (f := (upd (sp_ini3) (8 + 2) 100)) C 1 0 (12 + 2) (wMo g am (upd (upd (sp_ini3) (8 + 2) 100) (12 + 2) 100) (fun _ => (0 : Int32)) (fun _ => (0 : Int32)) (fun _ => (0 : Int32)) 0 0 0 0 0 0 0 0) rfl rfl rfl rfl (by omega) (by decide) dX7_init_72 ?_
  refine x_aload_n C 1 rfl rfl dX7_init_73 ?_
  refine x_iload_n C 0 rfl rfl dX7_init_74 ?_
  refine x_iload_n C 0 rfl rfl dX7_init_75 ?_
  refine x_bipush C 100 (by decide) dX7_init_76 ?_
  refine x_iconst C 0 (by decide) dX7_init_78 ?_
  refine x_iconst C 0 (by decide) dX7_init_79 ?_
  refine x_GV (w1 := ([] : va_W)) (wc := (wMo g am (upd (upd (sp_ini3) (8 + 2) 100) (12 + 2) 100) (fun _ => (0 : Int32)) (fun _ => (0 : Int32)) (fun _ => (0 : Int32)) 0 0 0 0 0 0 0 0)) (w2 := ([] : va_W)) [.int 2, .int 2, .int 100, .int 0, .int 0] [] (wMo g am (sp_X7_adds_s (upd (upd (sp_ini3) (8 + 2) 100) (12 + 2) 100) 2 2 100 0 0) (fun _ => (0 : Int32)) (fun _ => (0 : Int32)) (fun _ => (0 : Int32)) 0 0 0 0 0 0 0 0) C (k_X7_adds l g am (upd (upd (sp_ini3) (8 + 2) 100) (12 + 2) 100) (fun _ => (0 : Int32)) (fun _ => (0 : Int32)) (fun _ => (0 : Int32)) 0 0 0 0 0 0 0 0 2 2 100 0 0 (by decide) (by decide)) rfl yV_X7_adds wML_X7_23 rfl 0 rfl rfl rfl rfl (nle rfl) (nle rfl) (nle rfl) (nle rfl) (nle rfl) dX7_init_80 ?_
  refine x_ws (ws' := (wMo g am (sp_ini4) (fun _ => (0 : Int32)) (fun _ => (0 : Int32)) (fun _ => (0 : Int32)) 0 0 0 0 0 0 0 0)) rfl ?_
  refine x_iinc C 0 3 [(1, .int 3), (0, .ref (am 0))] rfl (rfl) rfl (by decide) dX7_init_83 ?_
  refine x_goto C 46 (by decide) dX7_init_86 ?_
  refine x_iload_n C 0 rfl rfl dX7_init_46 ?_
  refine x_iconst C 4 (by decide) dX7_init_47 ?_
  refine x_icmp_ge C 89 (by decide) dX7_init_48 (fun hz => absurd hz (by decide)) (fun _ => ?_)
  refine x_aload_n C 1 rfl rfl dX7_init_51 ?_
  refine x_get C 0 7 1 rfl rfl wLy_X7 wFL_X7_7 rfl (by decide) rfl dX7_init_52 ?_
  refine x_bipush C 8 (by decide) dX7_init_55 ?_
  refine x_iload_n C 0 rfl rfl dX7_init_57 ?_
  refine x_iaddN C 8 3 rfl rfl dX7_init_58 ?_
  refine x_bipush C 100 (by decide) dX7_init_59 ?_
  refine x_iastN (f := (sp_ini4)) C 1 0 (8 + 3) (wMo g am (upd (sp_ini4) (8 + 3) 100) (fun _ => (0 : Int32)) (fun _ => (0 : Int32)) (fun _ => (0 : Int32)) 0 0 0 0 0 0 0 0) rfl rfl rfl rfl (by omega) (by decide) dX7_init_61 ?_
  refine x_aload_n C 1 rfl rfl dX7_init_62 ?_
  refine x_get C 0 7 1 rfl rfl wLy_X7 wFL_X7_7 rfl (by decide) rfl dX7_init_63 ?_
  refine x_bipush C 12 (by decide) dX7_init_66 ?_
  refine x_iload_n C 0 rfl rfl dX7_init_68 ?_
  refine x_iaddN C 12 3 rfl rfl dX7_init_69 ?_
  refine x_bipush C 100 (by decide) dX7_init_70 ?_
  refine x_iastN (f := (upd (sp_ini4) (8 + 3) 100)) C 1 0 (12 + 3) (wMo g am (upd (upd (sp_ini4) (8 + 3) 100) (12 + 3) 100) (fun _ => (0 : Int32)) (fun _ => (0 : Int32)) (fun _ => (0 : Int32)) 0 0 0 0 0 0 0 0) rfl rfl rfl rfl (by omega) (by decide) dX7_init_72 ?_
  refine x_aload_n C 1 rfl rfl dX7_init_73 ?_
  refine x_iload_n C 0 rfl rfl dX7_init_74 ?_
  refine x_iload_n C 0 rfl rfl dX7_init_75 ?_
  refine x_bipush C 100 (by decide) dX7_init_76 ?_
  refine x_iconst C 0 (by decide) dX7_init_78 ?_
  refine x_iconst C 0 (by decide) dX7_init_79 ?_
  refine x_GV (w1 := ([] : va_W)) (wc := (wMo g am (upd (upd (sp_ini4) (8 + 3) 100) (12 + 3) 100) (fun _ => (0 : Int32)) (fun _ => (0 : Int32)) (fun _ => (0 : Int32)) 0 0 0 0 0 0 0 0)) (w2 := ([] : va_W)) [.int 3, .int 3, .int 100, .int 0, .int 0] [] (wMo g am (sp_X7_adds_s (upd (upd (sp_ini4) (8 + 3) 100) (12 + 3) 100) 3 3 100 0 0) (fun _ => (0 : Int32)) (fun _ => (0 : Int32)) (fun _ => (0 : Int32)) 0 0 0 0 0 0 0 0) C (k_X7_adds l g am (upd (upd (sp_ini4) (8 + 3) 100) (12 + 3) 100) (fun _ => (0 : Int32)) (fun _ => (0 : Int32)) (fun _ => (0 : Int32)) 0 0 0 0 0 0 0 0 3 3 100 0 0 (by decide) (by decide)) rfl yV_X7_adds wML_X7_23 rfl 0 rfl rfl rfl rfl (nle rfl) (nle rfl) (nle rfl) (nle rfl) (nle rfl) dX7_init_80 ?_
  refine x_ws (ws' := (wMo g am (sp_ini5) (fun _ => (0 : Int32)) (fun _ => (0 : Int32)) (fun _ => (0 : Int32)) 0 0 0 0 0 0 0 0)) rfl ?_
  refine x_iinc C 0 4 [(1, .int 4), (0, .ref (am 0))] rfl (rfl) rfl (by decide) dX7_init_83 ?_
  refine x_goto C 46 (by decide) dX7_init_86 ?_
  refine x_iload_n C 0 rfl rfl dX7_init_46 ?_
  refine x_iconst C 4 (by decide) dX7_init_47 ?_
  refine x_icmp_ge C 89 (by decide) dX7_init_48 (fun _ => ?_) (fun hz => absurd (by decide) hz)
  refine x_iconst C 0 (by decide) dX7_init_89 ?_
  refine x_istore_n C [(1, .int 0), (0, .ref (am 0))] rfl rfl (by decide) dX7_init_90 ?_
  refine x_iload_n C 0 rfl rfl dX7_init_91 ?_
  refine x_bipush C 6 (by decide) dX7_init_92 ?_
  refine x_icmp_ge C 131 (by decide) dX7_init_94 (fun hz => absurd hz (by decide)) (fun _ => ?_)
  refine x_aload_n C 1 rfl rfl dX7_init_97 ?_
  refine x_iconst C 0 (by decide) dX7_init_98 ?_
  refine x_iload_n C 0 rfl rfl dX7_init_99 ?_
  refine x_iconst C 2 (by decide) dX7_init_100 ?_
  refine x_bipush C (-100) (by decide) dX7_init_101 ?_
  refine x_GV (w1 := ([] : va_W)) (wc := (wMo g am (sp_ini5) (fun _ => (0 : Int32)) (fun _ => (0 : Int32)) (fun _ => (0 : Int32)) 0 0 0 0 0 0 0 0)) (w2 := ([] : va_W)) [.int 0, .int 0, .int 2, .int (-100)] [] (wMo g am (upd (sp_ini5) (0 + 87 + 10 * 0 + 2) (-100)) (fun _ => (0 : Int32)) (fun _ => (0 : Int32)) (fun _ => (0 : Int32)) 0 0 0 0 0 0 0 0) C (k_X7_lay l g am (sp_ini5) (fun _ => (0 : Int32)) (fun _ => (0 : Int32)) (fun _ => (0 : Int32)) 0 0 0 0 0 0 0 0 0 0 rfl 0 0 rfl 2 2 rfl (-100) (by omega)) rfl yV_X7_lay wML_X7_27 rfl 0 rfl rfl rfl rfl (nle rfl) (nle rfl) (nle rfl) (nle rfl) (nle rfl) dX7_init_103 ?_
  refine x_aload_n C 1 rfl rfl dX7_init_106 ?_
  refine x_iconst C 0 (by decide) dX7_init_107 ?_
  refine x_iload_n C 0 rfl rfl dX7_init_108 ?_
  refine x_iconst C 3 (by decide) dX7_init_109 ?_
  refine x_bipush C 100 (by decide) dX7_init_110 ?_
  refine x_GV (w1 := ([] : va_W)) (wc := (wMo g am (upd (sp_ini5) (0 + 87 + 10 * 0 + 2) (-100)) (fun _ => (0 : Int32)) (fun _ => (0 : Int32)) (fun _ => (0 : Int32)) 0 0 0 0 0 0 0 0)) (w2 := ([] : va_W)) [.int 0, .int 0, .int 3, .int 100] [] (wMo g am (upd (upd (sp_ini5) (0 + 87 + 10 * 0 + 2) (-100)) (0 + 87 + 10 * 0 + 3) 100) (fun _ => (0 : Int32)) (fun _ => (0 : Int32)) (fun _ => (0 : Int32)) 0 0 0 0 0 0 0 0) C (k_X7_lay l g am (upd (sp_ini5) (0 + 87 + 10 * 0 + 2) (-100)) (fun _ => (0 : Int32)) (fun _ => (0 : Int32)) (fun _ => (0 : Int32)) 0 0 0 0 0 0 0 0 0 0 rfl 0 0 rfl 3 3 rfl 100 (by omega)) rfl yV_X7_lay wML_X7_27 rfl 0 rfl rfl rfl rfl (nle rfl) (nle rfl) (nle rfl) (nle rfl) (nle rfl) dX7_init_112 ?_
  refine x_aload_n C 1 rfl rfl dX7_init_115 ?_
  refine x_iconst C 0 (by decide) dX7_init_116 ?_
  refine x_iload_n C 0 rfl rfl dX7_init_117 ?_
  refine x_iconst C 4 (by decide) dX7_init_118 ?_
  refine x_sipush C 300 (by decide) dX7_init_119 ?_
  refine x_GV (w1 := ([] : va_W)) (wc := (wMo g am (upd (upd (sp_ini5) (0 + 87 + 10 * 0 + 2) (-100)) (0 + 87 + 10 * 0 + 3) 100) (fun _ => (0 : Int32)) (fun _ => (0 : Int32)) (fun _ => (0 : Int32)) 0 0 0 0 0 0 0 0)) (w2 := ([] : va_W)) [.int 0, .int 0, .int 4, .int 300] [] (wMo g am (upd (upd (upd (sp_ini5) (0 + 87 + 10 * 0 + 2) (-100)) (0 + 87 + 10 * 0 + 3) 100) (0 + 87 + 10 * 0 + 4) 300) (fun _ => (0 : Int32)) (fun _ => (0 : Int32)) (fun _ => (0 : Int32)) 0 0 0 0 0 0 0 0) C (k_X7_lay l g am (upd (upd (sp_ini5) (0 + 87 + 10 * 0 + 2) (-100)) (0 + 87 + 10 * 0 + 3) 100) (fun _ => (0 : Int32)) (fun _ => (0 : Int32)) (fun _ => (0 : Int32)) 0 0 0 0 0 0 0 0 0 0 rfl 0 0 rfl 4 4 rfl 300 (by omega)) rfl yV_X7_lay wML_X7_27 rfl 0 rfl rfl rfl rfl (nle rfl) (nle rfl) (nle rfl) (nle rfl) (nle rfl) dX7_init_122 ?_
  refine x_ws (ws' := (wMo g am (sp_ini6) (fun _ => (0 : Int32)) (fun _ => (0 : Int32)) (fun _ => (0 : Int32)) 0 0 0 0 0 0 0 0)) rfl ?_
  refine x_iinc C 0 1 [(1, .int 1), (0, .ref (am 0))] rfl (rfl) rfl (by decide) dX7_init_125 ?_
  refine x_goto C 91 (by decide) dX7_init_128 ?_
  refine x_iload_n C 0 rfl rfl dX7_init_91 ?_
  refine x_bipush C 6 (by decide) dX7_init_92 ?_
  refine x_icmp_ge C 131 (by decide) dX7_init_94 (fun hz => absurd hz (by decide)) (fun _ => ?_)
  refine x_aload_n C 1 rfl rfl dX7_init_97 ?_
  refine x_iconst C 0 (by decide) dX7_init_98 ?_
  refine x_iload_n C 0 rfl rfl dX7_init_99 ?_
  refine x_iconst C 2 (by decide) dX7_init_100 ?_
  refine x_bipush C (-100) (by decide) dX7_init_101 ?_
  refine x_GV (w1 := ([] : va_W)) (wc := (wMo g am (sp_ini6) (fun _ => (0 : Int32)) (fun _ => (0 : Int32)) (fun _ => (0 : Int32)) 0 0 0 0 0 0 0 0)) (w2 := ([] : va_W)) [.int 0, .int 1, .int 2, .int (-100)] [] (wMo g am (upd (sp_ini6) (0 + 87 + 10 * 1 + 2) (-100)) (fun _ => (0 : Int32)) (fun _ => (0 : Int32)) (fun _ => (0 : Int32)) 0 0 0 0 0 0 0 0) C (k_X7_lay l g am (sp_ini6) (fun _ => (0 : Int32)) (fun _ => (0 : Int32)) (fun _ => (0 : Int32)) 0 0 0 0 0 0 0 0 0 0 rfl 1 1 rfl 2 2 rfl (-100) (by omega)) rfl yV_X7_lay wML_X7_27 rfl 0 rfl rfl rfl rfl (nle rfl) (nle rfl) (nle rfl) (nle rfl) (nle rfl) dX7_init_103 ?_
  refine x_aload_n C 1 rfl rfl dX7_init_106 ?_
  refine x_iconst C 0 (by decide) dX7_init_107 ?_
  refine x_iload_n C 0 rfl rfl dX7_init_108 ?_
  refine x_iconst C 3 (by decide) dX7_init_109 ?_
  refine x_bipush C 100 (by decide) dX7_init_110 ?_
  refine x_GV (w1 := ([] : va_W)) (wc := (wMo g am (upd (sp_ini6) (0 + 87 + 10 * 1 + 2) (-100)) (fun _ => (0 : Int32)) (fun _ => (0 : Int32)) (fun _ => (0 : Int32)) 0 0 0 0 0 0 0 0)) (w2 := ([] : va_W)) [.int 0, .int 1, .int 3, .int 100] [] (wMo g am (upd (upd (sp_ini6) (0 + 87 + 10 * 1 + 2) (-100)) (0 + 87 + 10 * 1 + 3) 100) (fun _ => (0 : Int32)) (fun _ => (0 : Int32)) (fun _ => (0 : Int32)) 0 0 0 0 0 0 0 0) C (k_X7_lay l g am (upd (sp_ini6) (0 + 87 + 10 * 1 + 2) (-100)) (fun _ => (0 : Int32)) (fun _ => (0 : Int32)) (fun _ => (0 : Int32)) 0 0 0 0 0 0 0 0 0 0 rfl 1 1 rfl 3 3 rfl 100 (by omega)) rfl yV_X7_lay wML_X7_27 rfl 0 rfl rfl rfl rfl (nle rfl) (nle rfl) (nle rfl) (nle rfl) (nle rfl) dX7_init_112 ?_
  refine x_aload_n C 1 rfl rfl dX7_init_115 ?_
  refine x_iconst C 0 (by decide) dX7_init_116 ?_
  refine x_iload_n C 0 rfl rfl dX7_init_117 ?_
  refine x_iconst C 4 (by decide) dX7_init_118 ?_
  refine x_sipush C 300 (by decide) dX7_init_119 ?_
  refine x_GV (w1 := ([] : va_W)) (wc := (wMo g am (upd (upd (sp_ini6) (0 + 87 + 10 * 1 + 2) (-100)) (0 + 87 + 10 * 1 + 3) 100) (fun _ => (0 : Int32)) (fun _ => (0 : Int32)) (fun _ => (0 : Int32)) 0 0 0 0 0 0 0 0)) (w2 := ([] : va_W)) [.int 0, .int 1, .int 4, .int 300] [] (wMo g am (upd (upd (upd (sp_ini6) (0 + 87 + 10 * 1 + 2) (-100)) (0 + 87 + 10 * 1 + 3) 100) (0 + 87 + 10 * 1 + 4) 300) (fun _ => (0 : Int32)) (fun _ => (0 : Int32)) (fun _ => (0 : Int32)) 0 0 0 0 0 0 0 0) C (k_X7_lay l g am (upd (upd (sp_ini6) (0 + 87 + 10 * 1 + 2) (-100)) (0 + 87 + 10 * 1 + 3) 100) (fun _ => (0 : Int32)) (fun _ => (0 : Int32)) (fun _ => (0 : Int32)) 0 0 0 0 0 0 0 0 0 0 rfl 1 1 rfl 4 4 rfl 300 (by omega)) rfl yV_X7_lay wML_X7_27 rfl 0 rfl rfl rfl rfl (nle rfl) (nle rfl) (nle rfl) (nle rfl) (nle rfl) dX7_init_122 ?_
  refine x_ws (ws' := (wMo g am (sp_ini7) (fun _ => (0 : Int32)) (fun _ => (0 : Int32)) (fun _ => (0 : Int32)) 0 0 0 0 0 0 0 0)) rfl ?_
  refine x_iinc C 0 2 [(1, .int 2), (0, .ref (am 0))] rfl (rfl) rfl (by decide) dX7_init_125 ?_
  refine x_goto C 91 (by decide) dX7_init_128 ?_
  refine x_iload_n C 0 rfl rfl dX7_init_91 ?_
  refine x_bipush C 6 (by decide) dX7_init_92 ?_
  refine x_icmp_ge C 131 (by decide) dX7_init_94 (fun hz => absurd hz (by decide)) (fun _ => ?_)
  refine x_aload_n C 1 rfl rfl dX7_init_97 ?_
  refine x_iconst C 0 (by decide) dX7_init_98 ?_
  refine x_iload_n C 0 rfl rfl dX7_init_99 ?_
  refine x_iconst C 2 (by decide) dX7_init_100 ?_
  refine x_bipush C (-100) (by decide) dX7_init_101 ?_
  refine x_GV (w1 := ([] : va_W)) (wc := (wMo g am (sp_ini7) (fun _ => (0 : Int32)) (fun _ => (0 : Int32)) (fun _ => (0 : Int32)) 0 0 0 0 0 0 0 0)) (w2 := ([] : va_W)) [.int 0, .int 2, .int 2, .int (-100)] [] (wMo g am (upd (sp_ini7) (0 + 87 + 10 * 2 + 2) (-100)) (fun _ => (0 : Int32)) (fun _ => (0 : Int32)) (fun _ => (0 : Int32)) 0 0 0 0 0 0 0 0) C (k_X7_lay l g am (sp_ini7) (fun _ => (0 : Int32)) (fun _ => (0 : Int32)) (fun _ => (0 : Int32)) 0 0 0 0 0 0 0 0 0 0 rfl 2 2 rfl 2 2 rfl (-100) (by omega)) rfl yV_X7_lay wML_X7_27 rfl 0 rfl rfl rfl rfl (nle rfl) (nle rfl) (nle rfl) (nle rfl) (nle rfl) dX7_init_103 ?_
  refine x_aload_n C 1 rfl rfl dX7_init_106 ?_
  refine x_iconst C 0 (by decide) dX7_init_107 ?_
  refine x_iload_n C 0 rfl rfl dX7_init_108 ?_
  refine x_iconst C 3 (by decide) dX7_init_109 ?_
  refine x_bipush C 100 (by decide) dX7_init_110 ?_
  refine x_GV (w1 := ([] : va_W)) (wc := (wMo g am (upd (sp_ini7) (0 + 87 + 10 * 2 + 2) (-100)) (fun _ => (0 : Int32)) (fun _ => (0 : Int32)) (fun _ => (0 : Int32)) 0 0 0 0 0 0 0 0)) (w2 := ([] : va_W)) [.int 0, .int 2, .int 3, .int 100] [] (wMo g am (upd (upd (sp_ini7) (0 + 87 + 10 * 2 + 2) (-100)) (0 + 87 + 10 * 2 + 3) 100) (fun _ => (0 : Int32)) (fun _ => (0 : Int32)) (fun _ => (0 : Int32)) 0 0 0 0 0 0 0 0) C (k_X7_lay l g am (upd (sp_ini7) (0 + 87 + 10 * 2 + 2) (-100)) (fun _ => (0 : Int32)) (fun _ => (0 : Int32)) (fun _ => (0 : Int32)) 0 0 0 0 0 0 0 0 0 0 rfl 2 2 rfl 3 3 rfl 100 (by omega)) rfl yV_X7_lay wML_X7_27 rfl 0 rfl rfl rfl rfl (nle rfl) (nle rfl) (nle rfl) (nle rfl) (nle rfl) dX7_init_112 ?_
  refine x_aload_n C 1 rfl rfl dX7_init_115 ?_
  refine x_iconst C 0 (by decide) dX7_init_116 ?_
  refine x_iload_n C 0 rfl rfl dX7_init_117 ?_
  refine x_iconst C 4 (by decide) dX7_init_118 ?_
  refine x_sipush C 300 (by decide) dX7_init_119 ?_
  refine x_GV (w1 := ([] : va_W)) (wc := (wMo g am (upd (upd (sp_ini7) (0 + 87 + 10 * 2 + 2) (-100)) (0 + 87 + 10 * 2 + 3) 100) (fun _ => (0 : Int32)) (fun _ => (0 : Int32)) (fun _ => (0 : Int32)) 0 0 0 0 0 0 0 0)) (w2 := ([] : va_W)) [.int 0, .int 2, .int 4, .int 300] [] (wMo g am (upd (upd (upd (sp_ini7) (0 + 87 + 10 * 2 + 2) (-100)) (0 + 87 + 10 * 2 + 3) 100) (0 + 87 + 10 * 2 + 4) 300) (fun _ => (0 : Int32)) (fun _ => (0 : Int32)) (fun _ => (0 : Int32)) 0 0 0 0 0 0 0 0) C (k_X7_lay l g am (upd (upd (sp_ini7) (0 + 87 + 10 * 2 + 2) (-100)) (0 + 87 + 10 * 2 + 3) 100) (fun _ => (0 : Int32)) (fun _ => (0 : Int32)) (fun _ => (0 : Int32)) 0 0 0 0 0 0 0 0 0 0 rfl 2 2 rfl 4 4 rfl 300 (by omega)) rfl yV_X7_lay wML_X7_27 rfl 0 rfl rfl rfl rfl (nle rfl) (nle rfl) (nle rfl) (nle rfl) (nle rfl) dX7_init_122 ?_
  refine x_ws (ws' := (wMo g am (sp_ini8) (fun _ => (0 : Int32)) (fun _ => (0 : Int32)) (fun _ => (0 : Int32)) 0 0 0 0 0 0 0 0)) rfl ?_
  refine x_iinc C 0 3 [(1, .int 3), (0, .ref (am 0))] rfl (rfl) rfl (by decide) dX7_init_125 ?_
  refine x_goto C 91 (by decide) dX7_init_128 ?_
  refine x_iload_n C 0 rfl rfl dX7_init_91 ?_
  refine x_bipush C 6 (by decide) dX7_init_92 ?_
  refine x_icmp_ge C 131 (by decide) dX7_init_94 (fun hz => absurd hz (by decide)) (fun _ => ?_)
  refine x_aload_n C 1 rfl rfl dX7_init_97 ?_
  refine x_iconst C 0 (by decide) dX7_init_98 ?_
  refine x_iload_n C 0 rfl rfl dX7_init_99 ?_
  refine x_iconst C 2 (by decide) dX7_init_100 ?_
  refine x_bipush C (-100) (by decide) dX7_init_101 ?_
  refine x_GV (w1 := ([] : va_W)) (wc := (wMo g am (sp_ini8) (fun _ => (0 : Int32)) (fun _ => (0 : Int32)) (fun _ => (0 : Int32)) 0 0 0 0 0 0 0 0)) (w2 := ([] : va_W)) [.int 0, .int 3, .int 2, .int (-100)] [] (wMo g am (upd (sp_ini8) (0 + 87 + 10 * 3 + 2) (-100)) (fun _ => (0 : Int32)) (fun _ => (0 : Int32)) (fun _ => (0 : Int32)) 0 0 0 0 0 0 0 0) C (k_X7_lay l g am (sp_ini8) (fun _ => (0 : Int32)) (fun _ => (0 : Int32)) (fun _ => (0 : Int32)) 0 0 0 0 0 0 0 0 0 0 rfl 3 3 rfl 2 2 rfl (-100) (by omega)) rfl yV_X7_lay wML_X7_27 rfl 0 rfl rfl rfl rfl (nle rfl) (nle rfl) (nle rfl) (nle rfl) (nle rfl) dX7_init_103 ?_
  refine x_aload_n C 1 rfl rfl dX7_init_106 ?_
  refine x_iconst C 0 (by decide) dX7_init_107 ?_
  refine x_iload_n C 0 rfl rfl dX7_init_108 ?_
  refine x_iconst C 3 (by decide) dX7_init_109 ?_
  refine x_bipush C 100 (by decide) dX7_init_110 ?_
  refine x_GV (w1 := ([] : va_W)) (wc := (wMo g am (upd (sp_ini8) (0 + 87 + 10 * 3 + 2) (-100)) (fun _ => (0 : Int32)) (fun _ => (0 : Int32)) (fun _ => (0 : Int32)) 0 0 0 0 0 0 0 0)) (w2 := ([] : va_W)) [.int 0, .int 3, .int 3, .int 100] [] (wMo g am (upd (upd (sp_ini8) (0 + 87 + 10 * 3 + 2) (-100)) (0 + 87 + 10 * 3 + 3) 100) (fun _ => (0 : Int32)) (fun _ => (0 : Int32)) (fun _ => (0 : Int32)) 0 0 0 0 0 0 0 0) C (k_X7_lay l g am (upd (sp_ini8) (0 + 87 + 10 * 3 + 2) (-100)) (fun _ => (0 : Int32)) (fun _ => (0 : Int32)) (fun _ => (0 : Int32)) 0 0 0 0 0 0 0 0 0 0 rfl 3 3 rfl 3 3 rfl 100 (by omega)) rfl yV_X7_lay wML_X7_27 rfl 0 rfl rfl rfl rfl (nle rfl) (nle rfl) (nle rfl) (nle rfl) (nle rfl) dX7_init_112 ?_
  refine x_aload_n C 1 rfl rfl dX7_init_115 ?_
  refine x_iconst C 0 (by decide) dX7_init_116 ?_
  refine x_iload_n C 0 rfl rfl dX7_init_117 ?_
  refine x_iconst C 4 (by decide) dX7_init_118 ?_
  refine x_sipush C 300 (by decide) dX7_init_119 ?_
  refine x_GV (w1 := ([] : va_W)) (wc := (wMo g am (upd (upd (sp_ini8) (0 + 87 + 10 * 3 + 2) (-100)) (0 + 87 + 10 * 3 + 3) 100) (fun _ => (0 : Int32)) (fun _ => (0 : Int32)) (fun _ => (0 : Int32)) 0 0 0 0 0 0 0 0)) (w2 := ([] : va_W)) [.int 0, .int 3, .int 4, .int 300] [] (wMo g am (upd (upd (upd (sp_ini8) (0 + 87 + 10 * 3 + 2) (-100)) (0 + 87 + 10 * 3 + 3) 100) (0 + 87 + 10 * 3 + 4) 300) (fun _ => (0 : Int32)) (fun _ => (0 : Int32)) (fun _ => (0 : Int32)) 0 0 0 0 0 0 0 0) C (k_X7_lay l g am (upd (upd (sp_ini8) (0 + 87 + 10 * 3 + 2) (-100)) (0 + 87 + 10 * 3 + 3) 100) (fun _ => (0 : Int32)) (fun _ => (0 : Int32)) (fun _ => (0 : Int32)) 0 0 0 0 0 0 0 0 0 0 rfl 3 3 rfl 4 4 rfl 300 (by omega)) rfl yV_X7_lay wML_X7_27 rfl 0 rfl rfl rfl rfl (nle rfl) (nle rfl) (nle rfl) (nle rfl) (nle rfl) dX7_init_122 ?_
  refine x_ws (ws' := (wMo g am (sp_ini9) (fun _ => (0 : Int32)) (fun _ => (0 : Int32)) (fun _ => (0 : Int32)) 0 0 0 0 0 0 0 0)) rfl ?_
  refine x_iinc C 0 4 [(1, .int 4), (0, .ref (am 0))] rfl (rfl) rfl (by decide) dX7_init_125 ?_
  refine x_goto C 91 (by decide) dX7_init_128 ?_
  refine x_iload_n C 0 rfl rfl dX7_init_91 ?_
  refine x_bipush C 6 (by decide) dX7_init_92 ?_
  refine x_icmp_ge C 131 (by decide) dX7_init_94 (fun hz => absurd hz (by decide)) (fun _ => ?_)
  refine x_aload_n C 1 rfl rfl dX7_init_97 ?_
  refine x_iconst C 0 (by decide) dX7_init_98 ?_
  refine x_iload_n C 0 rfl rfl dX7_init_99 ?_
  refine x_iconst C 2 (by decide) dX7_init_100 ?_
  refine x_bipush C (-100) (by decide) dX7_init_101 ?_
  refine x_GV (w1 := ([] : va_W)) (wc := (wMo g am (sp_ini9) (fun _ => (0 : Int32)) (fun _ => (0 : Int32)) (fun _ => (0 : Int32)) 0 0 0 0 0 0 0 0)) (w2 := ([] : va_W)) [.int 0, .int 4, .int 2, .int (-100)] [] (wMo g am (upd (sp_ini9) (0 + 87 + 10 * 4 + 2) (-100)) (fun _ => (0 : Int32)) (fun _ => (0 : Int32)) (fun _ => (0 : Int32)) 0 0 0 0 0 0 0 0) C (k_X7_lay l g am (sp_ini9) (fun _ => (0 : Int32)) (fun _ => (0 : Int32)) (fun _ => (0 : Int32)) 0 0 0 0 0 0 0 0 0 0 rfl 4 4 rfl 2 2 rfl (-100) (by omega)) rfl yV_X7_lay wML_X7_27 rfl 0 rfl rfl rfl rfl (nle rfl) (nle rfl) (nle rfl) (nle rfl) (nle rfl) dX7_init_103 ?_
  refine x_aload_n C 1 rfl rfl dX7_init_106 ?_
  refine x_iconst C 0 (by decide) dX7_init_107 ?_
  refine x_iload_n C 0 rfl rfl dX7_init_108 ?_
  refine x_iconst C 3 (by decide) dX7_init_109 ?_
  refine x_bipush C 100 (by decide) dX7_init_110 ?_
  refine x_GV (w1 := ([] : va_W)) (wc := (wMo g am (upd (sp_ini9) (0 + 87 + 10 * 4 + 2) (-100)) (fun _ => (0 : Int32)) (fun _ => (0 : Int32)) (fun _ => (0 : Int32)) 0 0 0 0 0 0 0 0)) (w2 := ([] : va_W)) [.int 0, .int 4, .int 3, .int 100] [] (wMo g am (upd (upd (sp_ini9) (0 + 87 + 10 * 4 + 2) (-100)) (0 + 87 + 10 * 4 + 3) 100) (fun _ => (0 : Int32)) (fun _ => (0 : Int32)) (fun _ => (0 : Int32)) 0 0 0 0 0 0 0 0) C (k_X7_lay l g am (upd (sp_ini9) (0 + 87 + 10 * 4 + 2) (-100)) (fun _ => (0 : Int32)) (fun _ => (0 : Int32)) (fun _ => (0 : Int32)) 0 0 0 0 0 0 0 0 0 0 rfl 4 4 rfl 3 3 rfl 100 (by omega)) rfl yV_X7_lay wML_X7_27 rfl 0 rfl rfl rfl rfl (nle rfl) (nle rfl) (nle rfl) (nle rfl) (nle rfl) dX7_init_112 ?_
  refine x_aload_n C 1 rfl rfl dX7_init_115 ?_
  refine x_iconst C 0 (by decide) dX7_init_116 ?_
  refine x_iload_n C 0 rfl rfl dX7_init_117 ?_
  refine x_iconst C 4 (by decide) dX7_init_118 ?_
  refine x_sipush C 300 (by decide) dX7_init_119 ?_
  refine x_GV (w1 := ([] : va_W)) (wc := (wMo g am (upd (upd (sp_ini9) (0 + 87 + 10 * 4 + 2) (-100)) (0 + 87 + 10 * 4 + 3) 100) (fun _ => (0 : Int32)) (fun _ => (0 : Int32)) (fun _ => (0 : Int32)) 0 0 0 0 0 0 0 0)) (w2 := ([] : va_W)) [.int 0, .int 4, .int 4, .int 300] [] (wMo g am (upd (upd (upd (sp_ini9) (0 + 87 + 10 * 4 + 2) (-100)) (0 + 87 + 10 * 4 + 3) 100) (0 + 87 + 10 * 4 + 4) 300) (fun _ => (0 : Int32)) (fun _ => (0 : Int32)) (fun _ => (0 : Int32)) 0 0 0 0 0 0 0 0) C (k_X7_lay l g am (upd (upd (sp_ini9) (0 + 87 + 10 * 4 + 2) (-100)) (0 + 87 + 10 * 4 + 3) 100) (fun _ => (0 : Int32)) (fun _ => (0 : Int32)) (fun _ => (0 : Int32)) 0 0 0 0 0 0 0 0 0 0 rfl 4 4 rfl 4 4 rfl 300 (by omega)) rfl yV_X7_lay wML_X7_27 rfl 0 rfl rfl rfl rfl (nle rfl) (nle rfl) (nle rfl) (nle rfl) (nle rfl) dX7_init_122 ?_
  refine x_ws (ws' := (wMo g am (sp_ini10) (fun _ => (0 : Int32)) (fun _ => (0 : Int32)) (fun _ => (0 : Int32)) 0 0 0 0 0 0 0 0)) rfl ?_
  refine x_iinc C 0 5 [(1, .int 5), (0, .ref (am 0))] rfl (rfl) rfl (by decide) dX7_init_125 ?_
  refine x_goto C 91 (by decide) dX7_init_128 ?_
  refine x_iload_n C 0 rfl rfl dX7_init_91 ?_
  refine x_bipush C 6 (by decide) dX7_init_92 ?_
  refine x_icmp_ge C 131 (by decide) dX7_init_94 (fun hz => absurd hz (by decide)) (fun _ => ?_)
  refine x_aload_n C 1 rfl rfl dX7_init_97 ?_
  refine x_iconst C 0 (by decide) dX7_init_98 ?_
  refine x_iload_n C 0 rfl rfl dX7_init_99 ?_
  refine x_iconst C 2 (by decide) dX7_init_100 ?_
  refine x_bipush C (-100) (by decide) dX7_init_101 ?_
  refine x_GV (w1 := ([] : va_W)) (wc := (wMo g am (sp_ini10) (fun _ => (0 : Int32)) (fun _ => (0 : Int32)) (fun _ => (0 : Int32)) 0 0 0 0 0 0 0 0)) (w2 := ([] : va_W)) [.int 0, .int 5, .int 2, .int (-100)] [] (wMo g am (upd (sp_ini10) (0 + 87 + 10 * 5 + 2) (-100)) (fun _ => (0 : Int32)) (fun _ => (0 : Int32)) (fun _ => (0 : Int32)) 0 0 0 0 0 0 0 0) C (k_X7_lay l g am (sp_ini10) (fun _ => (0 : Int32)) (fun _ => (0 : Int32)) (fun _ => (0 : Int32)) 0 0 0 0 0 0 0 0 0 0 rfl 5 5 rfl 2 2 rfl (-100) (by omega)) rfl yV_X7_lay wML_X7_27 rfl 0 rfl rfl rfl rfl (nle rfl) (nle rfl) (nle rfl) (nle rfl) (nle rfl) dX7_init_103 ?_
  refine x_aload_n C 1 rfl rfl dX7_init_106 ?_
  refine x_iconst C 0 (by decide) dX7_init_107 ?_
  refine x_iload_n C 0 rfl rfl dX7_init_108 ?_
  refine x_iconst C 3 (by decide) dX7_init_109 ?_
  refine x_bipush C 100 (by decide) dX7_init_110 ?_
  refine x_GV (w1 := ([] : va_W)) (wc := (wMo g am (upd (sp_ini10) (0 + 87 + 10 * 5 + 2) (-100)) (fun _ => (0 : Int32)) (fun _ => (0 : Int32)) (fun _ => (0 : Int32)) 0 0 0 0 0 0 0 0)) (w2 := ([] : va_W)) [.int 0, .int 5, .int 3, .int 100] [] (wMo g am (upd (upd (sp_ini10) (0 + 87 + 10 * 5 + 2) (-100)) (0 + 87 + 10 * 5 + 3) 100) (fun _ => (0 : Int32)) (fun _ => (0 : Int32)) (fun _ => (0 : Int32)) 0 0 0 0 0 0 0 0) C (k_X7_lay l g am (upd (sp_ini10) (0 + 87 + 10 * 5 + 2) (-100)) (fun _ => (0 : Int32)) (fun _ => (0 : Int32)) (fun _ => (0 : Int32)) 0 0 0 0 0 0 0 0 0 0 rfl 5 5 rfl 3 3 rfl 100 (by omega)) rfl yV_X7_lay wML_X7_27 rfl 0 rfl rfl rfl rfl (nle rfl) (nle rfl) (nle rfl) (nle rfl) (nle rfl) dX7_init_112 ?_
  refine x_aload_n C 1 rfl rfl dX7_init_115 ?_
  refine x_iconst C 0 (by decide) dX7_init_116 ?_
  refine x_iload_n C 0 rfl rfl dX7_init_117 ?_
  refine x_iconst C 4 (by decide) dX7_init_118 ?_
  refine x_sipush C 300 (by decide) dX7_init_119 ?_
  refine x_GV (w1 := ([] : va_W)) (wc := (wMo g am (upd (upd (sp_ini10) (0 + 87 + 10 * 5 + 2) (-100)) (0 + 87 + 10 * 5 + 3) 100) (fun _ => (0 : Int32)) (fun _ => (0 : Int32)) (fun _ => (0 : Int32)) 0 0 0 0 0 0 0 0)) (w2 := ([] : va_W)) [.int 0, .int 5, .int 4, .int 300] [] (wMo g am (upd (upd (upd (sp_ini10) (0 + 87 + 10 * 5 + 2) (-100)) (0 + 87 + 10 * 5 + 3) 100) (0 + 87 + 10 * 5 + 4) 300) (fun _ => (0 : Int32)) (fun _ => (0 : Int32)) (fun _ => (0 : Int32)) 0 0 0 0 0 0 0 0) C (k_X7_lay l g am (upd (upd (sp_ini10) (0 + 87 + 10 * 5 + 2) (-100)) (0 + 87 + 10 * 5 + 3) 100) (fun _ => (0 : Int32)) (fun _ => (0 : Int32)) (fun _ => (0 : Int32)) 0 0 0 0 0 0 0 0 0 0 rfl 5 5 rfl 4 4 rfl 300 (by omega)) rfl yV_X7_lay wML_X7_27 rfl 0 rfl rfl rfl rfl (nle rfl) (nle rfl) (nle rfl) (nle rfl) (nle rfl) dX7_init_122 ?_
  refine x_ws (ws' := (wMo g am (sp_ini11) (fun _ => (0 : Int32)) (fun _ => (0 : Int32)) (fun _ => (0 : Int32)) 0 0 0 0 0 0 0 0)) rfl ?_
  refine x_iinc C 0 6 [(1, .int 6), (0, .ref (am 0))] rfl (rfl) rfl (by decide) dX7_init_125 ?_
  refine x_goto C 91 (by decide) dX7_init_128 ?_
  refine x_iload_n C 0 rfl rfl dX7_init_91 ?_
  refine x_bipush C 6 (by decide) dX7_init_92 ?_
  refine x_icmp_ge C 131 (by decide) dX7_init_94 (fun _ => ?_) (fun hz => absurd (by decide) hz)
  refine x_aload_n C 1 rfl rfl dX7_init_131 ?_
  refine x_get C 0 7 1 rfl rfl wLy_X7 wFL_X7_7 rfl (by decide) rfl dX7_init_132 ?_
  refine x_sipush C 147 (by decide) dX7_init_135 ?_
  refine x_iconst C 5 (by decide) dX7_init_138 ?_
  refine x_iastN (f := (sp_ini11)) C 1 0 147 (wMo g am (upd (sp_ini11) 147 5) (fun _ => (0 : Int32)) (fun _ => (0 : Int32)) (fun _ => (0 : Int32)) 0 0 0 0 0 0 0 0) rfl rfl rfl rfl (by omega) (by decide) dX7_init_139 ?_
  refine x_aload_n C 1 rfl rfl dX7_init_140 ?_
  refine x_get C 0 7 1 rfl rfl wLy_X7 wFL_X7_7 rfl (by decide) rfl dX7_init_141 ?_
  refine x_sipush C 148 (by decide) dX7_init_144 ?_
  refine x_sipush C 20000 (by decide) dX7_init_147 ?_
  refine x_iastN (f := (upd (sp_ini11) 147 5)) C 1 0 148 (wMo g am (upd (upd (sp_ini11) 147 5) 148 20000) (fun _ => (0 : Int32)) (fun _ => (0 : Int32)) (fun _ => (0 : Int32)) 0 0 0 0 0 0 0 0) rfl rfl rfl rfl (by omega) (by decide) dX7_init_150 ?_
  refine x_ws (ws' := (wMo g am (sp_ini12) (fun _ => (0 : Int32)) (fun _ => (0 : Int32)) (fun _ => (0 : Int32)) 0 0 0 0 0 0 0 0)) rfl ?_
  exact x_vret C hr (nle rfl) (nle rfl) dX7_init_151 ⟨rfl, am, rfl, rfl⟩
