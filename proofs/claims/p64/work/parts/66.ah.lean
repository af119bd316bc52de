/-! isAhead -/
theorem lg_self (x : Int64) : lg_cmp x x = 0 := by
  unfold lg_cmp
  rw [if_neg (show ¬ x > x from Int64.lt_irrefl), if_pos rfl]
theorem aim_kt0 (r : xR) (f : Nat → Int32) (h : f = r.kt) (V : Nat) : aimA (r.set_kt f) V = aimA r V := by
  subst h
  rfl
theorem best_le {r : xR} {B : Int} (H : Gd B r) {S V : Nat} (hV : V < 6) {t : Int32} (ht : bt (-25) 25 t) : szV (aimA (r.set_kt (upd r.kt (slN r.kh S) (btV r S V))) V) ≤ szV (aimA (r.set_kt (upd r.kt (slN r.kh S) t)) V) ∧ (szV (aimA (r.set_kt (upd r.kt (slN r.kh S) (btV r S V))) V) < szV (aimA (r.set_kt (upd r.kt (slN r.kh S) t)) V) ∨ szV (btV r S V) ≤ szV t) := by
  obtain ⟨b1, b2⟩ := btV_ok r S V
  obtain ⟨c1, c2⟩ := b2 t ht
  have hv := H.2.2.2.1
  rw [ms_ti hv _ _ hV, ms_ti hv _ _ hV] at c1 c2
  obtain ⟨x1, x2⟩ := aim_b (c := r.set_kt (upd r.kt (slN r.kh S) (btV r S V))) hv hV
  obtain ⟨y1, y2⟩ := aim_b (c := r.set_kt (upd r.kt (slN r.kh S) t)) hv hV
  obtain ⟨b1, b1'⟩ := b1
  obtain ⟨t1, t2⟩ := ht
  rw [ti_le, ti_lt, ti_le, sz_ti (by omega), sz_ti (by omega), sz_ti (by omega), sz_ti (by omega)]
  omega
theorem best_was {r : xR} {B : Int} (H : Gd B r) {S V : Nat} (hS : S < 4) (hV : V < 6) : szV (aimA (r.set_kt (upd r.kt (slN r.kh S) (btV r S V))) V) ≤ szV (aimA r V) := by
  have h := (best_le H (S := S) hV (H.2.1.2.2.2 _ (slN_lt r.kh hS))).1
  rw [up_self, aim_kt0 r r.kt rfl] at h
  exact h
set_option maxRecDepth 100000 in
set_option maxHeartbeats 2000000 in
theorem k_L_isAhead (l : Launch) (g : xGt) (ap ad : Nat → Nat) (r : xR) (d : Nat → Int32) (po pn : Int32) (sv mm : xPl) (B : Int) (H : Gd B r) (Hp : pk po pn sv) (S : Nat) (x : Int32) (hS : S < 4) : xM l g.1 (xT g) yL_isAhead (ws_ yL_isAhead cL_isAhead 15 (some .boolean)) (xRm 8 200 300 2200) 300 2200 [.ref (ap 0), .int (nI S), .int x] (wB g ap ad r d po pn sv mm) (fun r9 w9 => r9 = some (.int 1) ∧ ∃ d1 po1 pn1 sv1, w9 = wB g ap ad r d1 po1 pn1 sv1 mm ∧ pk po1 pn1 sv1) (fun _ _ => False) := by
  refine x_start (own := RL) (nm := "isAhead") rfl rfl (by decide +kernel) rfl (nle rfl) (fun p e σ m args below meth c A C hno hr => ?_)
  refine x_lve (lv' := [(0, .ref (ap 0)), (1, .int (nI S)), (2, .int x)]) rfl ?_
  have hV : (upN (x >>> (6 &&& 31)) 6) < 6 := upN_lt _ (by decide)
  have hp : bt (-100) 100 (nI (upN x 201) - 100) := bt_s (n := upN x 201) (k := 100) rfl (by have := upN_lt x (n := 201) (by decide); omega) (by decide) (by have := upN_lt x (n := 201) (by decide); omega) (by have := upN_lt x (n := 201) (by decide); omega)
  have ht : bt (-25) 25 (nI (upN (x >>> (4 &&& 31)) 51) - 25) := bt_s (n := upN (x >>> (4 &&& 31)) 51) (k := 25) rfl (by have := upN_lt (x >>> (4 &&& 31)) (n := 51) (by decide); omega) (by decide) (by have := upN_lt (x >>> (4 &&& 31)) (n := 51) (by decide); omega) (by have := upN_lt (x >>> (4 &&& 31)) (n := 51) (by decide); omega)
  refine x_aload_n C 0 rfl rfl dL_isAhead_0 ?_
  refine x_iload_n C 1 rfl rfl dL_isAhead_1 ?_
  refine x_EV0 [.int (nI S)] [] C (a_drivenBy l g ap ad r d po pn sv mm S hS H.1 Hp) rfl yV_X6_drivenBy wML_L_176 0 rfl rfl rfl rfl (nle rfl) (nle rfl) (nle rfl) (nle rfl) (nle rfl) dL_isAhead_2 (fun E w h => h.elim) (fun r0 w0 h0 => ?_)
  obtain ⟨rfl, rfl⟩ := h0
  refine x_st (st' := [.int (sp_dby r (nI S) 0 6)]) rfl ?_
  refine x_istore_n C [(3, .int (sp_dby r (nI S) 0 6)), (0, .ref (ap 0)), (1, .int (nI S)), (2, .int x)] rfl rfl (by decide) dL_isAhead_5 ?_
  refine x_iload_n C 3 rfl rfl dL_isAhead_6 ?_
  refine x_sipush C 201 (by decide) dL_isAhead_7 ?_
  refine x_st (st' := [.int (nI 201), .int x]) rfl ?_
  refine x_FS (w1 := ([] : va_W)) (wc := ([] : va_W)) (w2 := (wB g ap ad r d po pn sv mm)) [.int x, .int (nI 201)] [] (wB g ap ad r d po pn sv mm) C (k_L_up l g x 201 (by decide) (by decide)) rfl yS_L_up wML_L_15 rfl rfl rfl (nle rfl) (nle rfl) (nle rfl) (nle rfl) (nle rfl) dL_isAhead_10 ?_
  refine x_bipush C 100 (by decide) dL_isAhead_13 ?_
  refine x_isub C dL_isAhead_15 ?_
  refine x_istore C [(4, .int ((nI (upN x 201)) - 100)), (3, .int (sp_dby r (nI S) 0 6)), (0, .ref (ap 0)), (1, .int (nI S)), (2, .int x)] rfl (by decide) dL_isAhead_16 ?_
  refine x_iload_n C 4 rfl rfl dL_isAhead_18 ?_
  refine x_iconst C 4 (by decide) dL_isAhead_19 ?_
  refine x_ishr C dL_isAhead_20 ?_
  refine x_bipush C 51 (by decide) dL_isAhead_21 ?_
  refine x_st (st' := [.int (nI 51), .int (x >>> (4 &&& 31))]) rfl ?_
  refine x_FS (w1 := ([] : va_W)) (wc := ([] : va_W)) (w2 := (wB g ap ad r d po pn sv mm)) [.int (x >>> (4 &&& 31)), .int (nI 51)] [] (wB g ap ad r d po pn sv mm) C (k_L_up l g (x >>> (4 &&& 31)) 51 (by decide) (by decide)) rfl yS_L_up wML_L_15 rfl rfl rfl (nle rfl) (nle rfl) (nle rfl) (nle rfl) (nle rfl) dL_isAhead_23 ?_
  refine x_bipush C 25 (by decide) dL_isAhead_26 ?_
  refine x_isub C dL_isAhead_28 ?_
  refine x_istore C [(5, .int ((nI (upN (x >>> (4 &&& 31)) 51)) - 25)), (4, .int ((nI (upN x 201)) - 100)), (3, .int (sp_dby r (nI S) 0 6)), (0, .ref (ap 0)), (1, .int (nI S)), (2, .int x)] rfl (by decide) dL_isAhead_29 ?_
  refine x_iload_n C 5 rfl rfl dL_isAhead_31 ?_
  refine x_bipush C 6 (by decide) dL_isAhead_32 ?_
  refine x_ishr C dL_isAhead_34 ?_
  refine x_bipush C 6 (by decide) dL_isAhead_35 ?_
  refine x_st (st' := [.int (nI 6), .int (x >>> (6 &&& 31))]) rfl ?_
  refine x_FS (w1 := ([] : va_W)) (wc := ([] : va_W)) (w2 := (wB g ap ad r d po pn sv mm)) [.int (x >>> (6 &&& 31)), .int (nI 6)] [] (wB g ap ad r d po pn sv mm) C (k_L_up l g (x >>> (6 &&& 31)) 6 (by decide) (by decide)) rfl yS_L_up wML_L_15 rfl rfl rfl (nle rfl) (nle rfl) (nle rfl) (nle rfl) (nle rfl) dL_isAhead_37 ?_
  refine x_istore C [(6, .int (nI (upN (x >>> (6 &&& 31)) 6))), (5, .int ((nI (upN (x >>> (4 &&& 31)) 51)) - 25)), (4, .int ((nI (upN x 201)) - 100)), (3, .int (sp_dby r (nI S) 0 6)), (0, .ref (ap 0)), (1, .int (nI S)), (2, .int x)] rfl (by decide) dL_isAhead_40 ?_
  refine x_aload_n C 4 rfl rfl dL_isAhead_42 ?_
  refine x_iload_n C 5 rfl rfl dL_isAhead_43 ?_
  refine x_iload C 0 rfl dL_isAhead_44 ?_
  refine x_EV0 [.int (nI S), .int (nI (upN (x >>> (6 &&& 31)) 6))] [] C (a_bestTrim l g ap ad r d po pn sv mm S (upN (x >>> (6 &&& 31)) 6) hS hV H.1 Hp H.2.2.1) rfl yV_X6_bestTrim wML_L_179 0 rfl rfl rfl rfl (nle rfl) (nle rfl) (nle rfl) (nle rfl) (nle rfl) dL_isAhead_46 (fun E w h => h.elim) (fun r0 w0 h0 => ?_)
  obtain ⟨rfl, d1, rfl⟩ := h0
  refine x_st (st' := [.int (btV r S (upN (x >>> (6 &&& 31)) 6) + 100)]) rfl ?_
  refine x_bipush C 100 (by decide) dL_isAhead_49 ?_
  refine x_isub C dL_isAhead_51 ?_
  refine x_st (st' := [.int (btV r S (upN (x >>> (6 &&& 31)) 6))]) (by rw [Int32.add_sub_cancel]) ?_
  refine x_istore C [(7, .int (btV r S (upN (x >>> (6 &&& 31)) 6))), (6, .int (nI (upN (x >>> (6 &&& 31)) 6))), (5, .int ((nI (upN (x >>> (4 &&& 31)) 51)) - 25)), (4, .int ((nI (upN x 201)) - 100)), (3, .int (sp_dby r (nI S) 0 6)), (0, .ref (ap 0)), (1, .int (nI S)), (2, .int x)] rfl (by decide) dL_isAhead_52 ?_
  refine x_aload_n C 5 rfl rfl dL_isAhead_54 ?_
  refine x_iload_n C 6 rfl rfl dL_isAhead_55 ?_
  refine x_iload C 3 rfl dL_isAhead_56 ?_
  refine x_iload C 1 rfl dL_isAhead_58 ?_
  refine x_EV0 [.int (nI S), .int ((nI (upN x 201)) - 100), .int (nI (upN (x >>> (6 &&& 31)) 6))] [] C (a_aimIfMoved l g ap ad r d1 po pn sv mm S hS ((nI (upN x 201)) - 100) hp (upN (x >>> (6 &&& 31)) 6) hV H.1 Hp H.2.2.1) rfl yV_X6_aimIfMoved wML_L_182 0 rfl rfl rfl rfl (nle rfl) (nle rfl) (nle rfl) (nle rfl) (nle rfl) dL_isAhead_60 (fun E w h => h.elim) (fun r0 w0 h0 => ?_)
  obtain ⟨rfl, d2, rfl⟩ := h0
  refine x_st (st' := [.int (aimA (r.set_kp (upd r.kp S ((nI (upN x 201)) - 100))) (upN (x >>> (6 &&& 31)) 6))]) rfl ?_
  refine x_istore C [(8, .int (aimA (r.set_kp (upd r.kp S ((nI (upN x 201)) - 100))) (upN (x >>> (6 &&& 31)) 6))), (7, .int (btV r S (upN (x >>> (6 &&& 31)) 6))), (6, .int (nI (upN (x >>> (6 &&& 31)) 6))), (5, .int ((nI (upN (x >>> (4 &&& 31)) 51)) - 25)), (4, .int ((nI (upN x 201)) - 100)), (3, .int (sp_dby r (nI S) 0 6)), (0, .ref (ap 0)), (1, .int (nI S)), (2, .int x)] rfl (by decide) dL_isAhead_63 ?_
  refine x_aload_n C 6 rfl rfl dL_isAhead_65 ?_
  refine x_iload C 2 rfl dL_isAhead_66 ?_
  refine x_EV0 [.int (nI (upN (x >>> (6 &&& 31)) 6))] [] C (a_aim l g ap ad r d2 po pn sv mm (upN (x >>> (6 &&& 31)) 6) hV H.1 Hp H.2.2.1) rfl yV_X6_aim wML_L_71 0 rfl rfl rfl rfl (nle rfl) (nle rfl) (nle rfl) (nle rfl) (nle rfl) dL_isAhead_68 (fun E w h => h.elim) (fun r0 w0 h0 => ?_)
  obtain ⟨rfl, d3, rfl⟩ := h0
  refine x_st (st' := [.int (aimA r (upN (x >>> (6 &&& 31)) 6))]) rfl ?_
  refine x_istore C [(9, .int (aimA r (upN (x >>> (6 &&& 31)) 6))), (8, .int (aimA (r.set_kp (upd r.kp S ((nI (upN x 201)) - 100))) (upN (x >>> (6 &&& 31)) 6))), (7, .int (btV r S (upN (x >>> (6 &&& 31)) 6))), (6, .int (nI (upN (x >>> (6 &&& 31)) 6))), (5, .int ((nI (upN (x >>> (4 &&& 31)) 51)) - 25)), (4, .int ((nI (upN x 201)) - 100)), (3, .int (sp_dby r (nI S) 0 6)), (0, .ref (ap 0)), (1, .int (nI S)), (2, .int x)] rfl (by decide) dL_isAhead_71 ?_
  refine x_iload_n C 6 rfl rfl dL_isAhead_73 ?_
  refine x_iload C 3 rfl dL_isAhead_74 ?_
  refine x_ishr C dL_isAhead_76 ?_
  refine x_iconst C 1 (by decide) dL_isAhead_77 ?_
  refine x_iand C dL_isAhead_78 ?_
  refine x_iconst C 1 (by decide) dL_isAhead_79 ?_
  refine x_icmp_ne C 87 (by decide) dL_isAhead_80 (fun h1 => ?_) (fun h1 => ?_)
  · refine x_iconst C 0 (by decide) dL_isAhead_87 ?_
    refine x_istore C [(10, .int 0), (9, .int (aimA r (upN (x >>> (6 &&& 31)) 6))), (8, .int (aimA (r.set_kp (upd r.kp S ((nI (upN x 201)) - 100))) (upN (x >>> (6 &&& 31)) 6))), (7, .int (btV r S (upN (x >>> (6 &&& 31)) 6))), (6, .int (nI (upN (x >>> (6 &&& 31)) 6))), (5, .int ((nI (upN (x >>> (4 &&& 31)) 51)) - 25)), (4, .int ((nI (upN x 201)) - 100)), (3, .int (sp_dby r (nI S) 0 6)), (0, .ref (ap 0)), (1, .int (nI S)), (2, .int x)] rfl (by decide) dL_isAhead_88 ?_
    refine x_aload_n C 8 rfl rfl dL_isAhead_90 ?_
    refine x_EV0 [] [] C (a_digest l g ap ad r d3 po pn sv mm  H.1 Hp H.2.2.1) rfl yV_X6_digest wML_L_185 0 rfl rfl rfl rfl (nle rfl) (nle rfl) (nle rfl) (nle rfl) (nle rfl) dL_isAhead_91 (fun E w h => h.elim) (fun r0 w0 h0 => ?_)
    obtain ⟨rfl, d4, rfl⟩ := h0
    refine x_st (st' := [.long (dig r)]) rfl ?_
    refine x_lstore C [(11, .long (dig r)), (10, .int 0), (9, .int (aimA r (upN (x >>> (6 &&& 31)) 6))), (8, .int (aimA (r.set_kp (upd r.kp S ((nI (upN x 201)) - 100))) (upN (x >>> (6 &&& 31)) 6))), (7, .int (btV r S (upN (x >>> (6 &&& 31)) 6))), (6, .int (nI (upN (x >>> (6 &&& 31)) 6))), (5, .int ((nI (upN (x >>> (4 &&& 31)) 51)) - 25)), (4, .int ((nI (upN x 201)) - 100)), (3, .int (sp_dby r (nI S) 0 6)), (0, .ref (ap 0)), (1, .int (nI S)), (2, .int x)] rfl (by decide) dL_isAhead_94 ?_
    refine x_iload C 1 rfl dL_isAhead_96 ?_
    refine x_if_ne C 108 (by decide) dL_isAhead_98 (fun hz => absurd (by decide) hz) (fun _ => ?_)
    refine x_iload C 3 rfl dL_isAhead_101 ?_
    refine x_iload C 2 rfl dL_isAhead_103 ?_
    refine x_icmp_ne C 152 (by decide) dL_isAhead_105 (fun hz => absurd (aim_kp H.2.2.1 H.1.1 hS hV (nI (upN x 201) - 100) h1) hz) (fun _ => ?_)
    refine x_aload_n C 9 rfl rfl dL_isAhead_108 ?_
    refine x_iload_n C 10 rfl rfl dL_isAhead_109 ?_
    refine x_iload C 7 rfl dL_isAhead_110 ?_
    refine x_EV0 [.int (nI S), .int ((nI (upN x 201)) - 100)] [] C (a_move l g ap ad r d4 po pn sv mm S hS ((nI (upN x 201)) - 100) hp H.1 Hp) rfl yV_X6_move wML_L_99 0 rfl rfl rfl rfl (nle rfl) (nle rfl) (nle rfl) (nle rfl) (nle rfl) dL_isAhead_112 (fun E w h => h.elim) (fun r0 w0 h0 => ?_)
    obtain ⟨rfl, d5, po5, pn5, sv5, rfl, hs5⟩ := h0
    have HG5 : Gd (B) (r.set_kp (upd r.kp S ((nI (upN x 201)) - 100))) := g_kp H hS hp
    refine x_st (st' := [.int (r.kp S)]) rfl ?_
    refine x_bipush C (-100) (by decide) dL_isAhead_115 ?_
    refine x_icmp_lt C 152 (by decide) dL_isAhead_117 (fun hz => absurd hz (ge_of (H.2.1.1 _ hS) (by decide))) (fun _ => ?_)
    refine x_aload_n C 9 rfl rfl dL_isAhead_120 ?_
    refine x_iload C 5 rfl dL_isAhead_121 ?_
    refine x_EV0 [.int (nI (upN (x >>> (6 &&& 31)) 6))] [] C (a_aim l g ap ad (r.set_kp (upd r.kp S ((nI (upN x 201)) - 100))) d5 po5 pn5 sv5 mm (upN (x >>> (6 &&& 31)) 6) hV HG5.1 hs5.1 HG5.2.2.1) rfl yV_X6_aim wML_L_71 0 rfl rfl rfl rfl (nle rfl) (nle rfl) (nle rfl) (nle rfl) (nle rfl) dL_isAhead_123 (fun E w h => h.elim) (fun r0 w0 h0 => ?_)
    obtain ⟨rfl, d6, rfl⟩ := h0
    refine x_st (st' := [.int (aimA (r.set_kp (upd r.kp S ((nI (upN x 201)) - 100))) (upN (x >>> (6 &&& 31)) 6))]) rfl ?_
    refine x_iload C 3 rfl dL_isAhead_126 ?_
    refine x_icmp_ne C 152 (by decide) dL_isAhead_128 (fun hz => absurd rfl hz) (fun _ => ?_)
    refine x_aload_n C 9 rfl rfl dL_isAhead_131 ?_
    refine x_EV0 [] [] C (a_undo l g ap ad (r.set_kp (upd r.kp S ((nI (upN x 201)) - 100))) r d6 po5 pn5 sv5 mm HG5.1 hs5.1 hs5.2.1) rfl yV_X6_undo wML_L_173 0 rfl rfl rfl rfl (nle rfl) (nle rfl) (nle rfl) (nle rfl) (nle rfl) dL_isAhead_132 (fun E w h => h.elim) (fun r0 w0 h0 => ?_)
    obtain ⟨rfl, rfl, hu7⟩ := h0
    refine x_st (st' := [.int (pn5 - 1)]) rfl ?_
    refine x_if_lt C 152 (by decide) dL_isAhead_135 (fun hz => absurd hz hu7.2) (fun _ => ?_)
    refine x_aload_n C 9 rfl rfl dL_isAhead_138 ?_
    refine x_EV0 [] [] C (a_digest l g ap ad r d6 po5 (pn5 - 1) sv5 mm  H.1 hu7.1 H.2.2.1) rfl yV_X6_digest wML_L_185 0 rfl rfl rfl rfl (nle rfl) (nle rfl) (nle rfl) (nle rfl) (nle rfl) dL_isAhead_139 (fun E w h => h.elim) (fun r0 w0 h0 => ?_)
    obtain ⟨rfl, d8, rfl⟩ := h0
    refine x_st (st' := [.long (dig r)]) rfl ?_
    refine x_lload C 0 rfl dL_isAhead_142 ?_
    refine x_lcmp C dL_isAhead_144 ?_
    refine x_if_ne C 152 (by decide) dL_isAhead_145 (fun hz => absurd (lg_self _) hz) (fun _ => ?_)
    refine x_iconst C 1 (by decide) dL_isAhead_148 ?_
    refine x_goto C 153 (by decide) dL_isAhead_149 ?_
    refine x_istore C [(13, .int 1), (11, .long (dig r)), (10, .int 0), (9, .int (aimA r (upN (x >>> (6 &&& 31)) 6))), (8, .int (aimA (r.set_kp (upd r.kp S ((nI (upN x 201)) - 100))) (upN (x >>> (6 &&& 31)) 6))), (7, .int (btV r S (upN (x >>> (6 &&& 31)) 6))), (6, .int (nI (upN (x >>> (6 &&& 31)) 6))), (5, .int ((nI (upN (x >>> (4 &&& 31)) 51)) - 25)), (4, .int ((nI (upN x 201)) - 100)), (3, .int (sp_dby r (nI S) 0 6)), (0, .ref (ap 0)), (1, .int (nI S)), (2, .int x)] rfl (by decide) dL_isAhead_153 ?_
    refine x_iload C 0 rfl dL_isAhead_155 ?_
    refine x_if_eq C 192 (by decide) dL_isAhead_157 (fun hz => absurd hz (by decide)) (fun _ => ?_)
    refine x_aload_n C 10 rfl rfl dL_isAhead_160 ?_
    refine x_iload_n C 11 rfl rfl dL_isAhead_161 ?_
    refine x_iload C 7 rfl dL_isAhead_162 ?_
    refine x_EV0 [.int (nI S), .int ((nI (upN (x >>> (4 &&& 31)) 51)) - 25)] [] C (a_setTrim l g ap ad r d8 po5 (pn5 - 1) sv5 mm S hS ((nI (upN (x >>> (4 &&& 31)) 51)) - 25) ht H.1 hu7.1) rfl yV_X6_setTrim wML_L_47 0 rfl rfl rfl rfl (nle rfl) (nle rfl) (nle rfl) (nle rfl) (nle rfl) dL_isAhead_164 (fun E w h => h.elim) (fun r0 w0 h0 => ?_)
    obtain ⟨rfl, d9, po9, pn9, sv9, rfl, hs9⟩ := h0
    have HG9 : Gd (B) (r.set_kt (upd r.kt (slN r.kh S) ((nI (upN (x >>> (4 &&& 31)) 51)) - 25))) := g_kt H (slN_lt r.kh hS) ht
    refine x_st (st' := [.int (r.kt (slN r.kh S))]) rfl ?_
    refine x_bipush C (-25) (by decide) dL_isAhead_167 ?_
    refine x_icmp_lt C 192 (by decide) dL_isAhead_169 (fun hz => absurd hz (ge_of (H.2.1.2.2.2 _ (slN_lt r.kh hS)) (by decide))) (fun _ => ?_)
    refine x_iload C 2 rfl dL_isAhead_172 ?_
    refine x_if_ne C 188 (by decide) dL_isAhead_174 (fun hz => absurd (by decide) hz) (fun _ => ?_)
    refine x_aload_n C 10 rfl rfl dL_isAhead_177 ?_
    refine x_iload C 6 rfl dL_isAhead_178 ?_
    refine x_EV0 [.int (nI (upN (x >>> (6 &&& 31)) 6))] [] C (a_aim l g ap ad (r.set_kt (upd r.kt (slN r.kh S) ((nI (upN (x >>> (4 &&& 31)) 51)) - 25))) d9 po9 pn9 sv9 mm (upN (x >>> (6 &&& 31)) 6) hV HG9.1 hs9.1 HG9.2.2.1) rfl yV_X6_aim wML_L_71 0 rfl rfl rfl rfl (nle rfl) (nle rfl) (nle rfl) (nle rfl) (nle rfl) dL_isAhead_180 (fun E w h => h.elim) (fun r0 w0 h0 => ?_)
    obtain ⟨rfl, d10, rfl⟩ := h0
    refine x_st (st' := [.int (aimA (r.set_kt (upd r.kt (slN r.kh S) ((nI (upN (x >>> (4 &&& 31)) 51)) - 25))) (upN (x >>> (6 &&& 31)) 6))]) rfl ?_
    refine x_iload C 3 rfl dL_isAhead_183 ?_
    refine x_icmp_ne C 192 (by decide) dL_isAhead_185 (fun hz => absurd (aim_ktn H.2.2.1 H.1.1 hS hV (nI (upN (x >>> (4 &&& 31)) 51) - 25) h1) hz) (fun _ => ?_)
    refine x_iconst C 1 (by decide) dL_isAhead_188 ?_
    refine x_goto C 193 (by decide) dL_isAhead_189 ?_
    refine x_istore C [(13, .int 1), (11, .long (dig r)), (10, .int 0), (9, .int (aimA r (upN (x >>> (6 &&& 31)) 6))), (8, .int (aimA (r.set_kp (upd r.kp S ((nI (upN x 201)) - 100))) (upN (x >>> (6 &&& 31)) 6))), (7, .int (btV r S (upN (x >>> (6 &&& 31)) 6))), (6, .int (nI (upN (x >>> (6 &&& 31)) 6))), (5, .int ((nI (upN (x >>> (4 &&& 31)) 51)) - 25)), (4, .int ((nI (upN x 201)) - 100)), (3, .int (sp_dby r (nI S) 0 6)), (0, .ref (ap 0)), (1, .int (nI S)), (2, .int x)] rfl (by decide) dL_isAhead_193 ?_
    refine x_aload_n C 10 rfl rfl dL_isAhead_195 ?_
    refine x_iload C 6 rfl dL_isAhead_196 ?_
    refine x_EV0 [.int (nI (upN (x >>> (6 &&& 31)) 6))] [] C (a_aim l g ap ad (r.set_kt (upd r.kt (slN r.kh S) ((nI (upN (x >>> (4 &&& 31)) 51)) - 25))) d10 po9 pn9 sv9 mm (upN (x >>> (6 &&& 31)) 6) hV HG9.1 hs9.1 HG9.2.2.1) rfl yV_X6_aim wML_L_71 0 rfl rfl rfl rfl (nle rfl) (nle rfl) (nle rfl) (nle rfl) (nle rfl) dL_isAhead_198 (fun E w h => h.elim) (fun r0 w0 h0 => ?_)
    obtain ⟨rfl, d11, rfl⟩ := h0
    refine x_st (st' := [.int (aimA (r.set_kt (upd r.kt (slN r.kh S) ((nI (upN (x >>> (4 &&& 31)) 51)) - 25))) (upN (x >>> (6 &&& 31)) 6))]) rfl ?_
    refine x_FS (w1 := ([] : va_W)) (wc := ([] : va_W)) (w2 := (wB g ap ad (r.set_kt (upd r.kt (slN r.kh S) ((nI (upN (x >>> (4 &&& 31)) 51)) - 25))) d11 po9 pn9 sv9 mm)) [.int (aimA (r.set_kt (upd r.kt (slN r.kh S) ((nI (upN (x >>> (4 &&& 31)) 51)) - 25))) (upN (x >>> (6 &&& 31)) 6))] [] (wB g ap ad (r.set_kt (upd r.kt (slN r.kh S) ((nI (upN (x >>> (4 &&& 31)) 51)) - 25))) d11 po9 pn9 sv9 mm) C (k_L_size l g (aimA (r.set_kt (upd r.kt (slN r.kh S) ((nI (upN (x >>> (4 &&& 31)) 51)) - 25))) (upN (x >>> (6 &&& 31)) 6))) rfl yS_L_size wML_L_74 rfl rfl rfl (nle rfl) (nle rfl) (nle rfl) (nle rfl) (nle rfl) dL_isAhead_201 ?_
    refine x_istore C [(14, .int (szV (aimA (r.set_kt (upd r.kt (slN r.kh S) ((nI (upN (x >>> (4 &&& 31)) 51)) - 25))) (upN (x >>> (6 &&& 31)) 6)))), (13, .int 1), (11, .long (dig r)), (10, .int 0), (9, .int (aimA r (upN (x >>> (6 &&& 31)) 6))), (8, .int (aimA (r.set_kp (upd r.kp S ((nI (upN x 201)) - 100))) (upN (x >>> (6 &&& 31)) 6))), (7, .int (btV r S (upN (x >>> (6 &&& 31)) 6))), (6, .int (nI (upN (x >>> (6 &&& 31)) 6))), (5, .int ((nI (upN (x >>> (4 &&& 31)) 51)) - 25)), (4, .int ((nI (upN x 201)) - 100)), (3, .int (sp_dby r (nI S) 0 6)), (0, .ref (ap 0)), (1, .int (nI S)), (2, .int x)] rfl (by decide) dL_isAhead_204 ?_
    refine x_iload C 1 rfl dL_isAhead_206 ?_
    refine x_if_eq C 292 (by decide) dL_isAhead_208 (fun hz => absurd hz (by decide)) (fun _ => ?_)
    refine x_aload_n C 11 rfl rfl dL_isAhead_211 ?_
    refine x_EV0 [] [] C (a_undo l g ap ad (r.set_kt (upd r.kt (slN r.kh S) ((nI (upN (x >>> (4 &&& 31)) 51)) - 25))) r d11 po9 pn9 sv9 mm HG9.1 hs9.1 hs9.2.1) rfl yV_X6_undo wML_L_173 0 rfl rfl rfl rfl (nle rfl) (nle rfl) (nle rfl) (nle rfl) (nle rfl) dL_isAhead_212 (fun E w h => h.elim) (fun r0 w0 h0 => ?_)
    obtain ⟨rfl, rfl, hu12⟩ := h0
    refine x_st (st' := [.int (pn9 - 1)]) rfl ?_
    refine x_if_lt C 292 (by decide) dL_isAhead_215 (fun hz => absurd hz hu12.2) (fun _ => ?_)
    refine x_aload_n C 11 rfl rfl dL_isAhead_218 ?_
    refine x_iload_n C 12 rfl rfl dL_isAhead_219 ?_
    refine x_iload C 6 rfl dL_isAhead_220 ?_
    refine x_EV0 [.int (nI S), .int (btV r S (upN (x >>> (6 &&& 31)) 6))] [] C (a_setTrim l g ap ad r d11 po9 (pn9 - 1) sv9 mm S hS (btV r S (upN (x >>> (6 &&& 31)) 6)) (btV_ok r S _).1 H.1 hu12.1) rfl yV_X6_setTrim wML_L_47 0 rfl rfl rfl rfl (nle rfl) (nle rfl) (nle rfl) (nle rfl) (nle rfl) dL_isAhead_222 (fun E w h => h.elim) (fun r0 w0 h0 => ?_)
    obtain ⟨rfl, d13, po13, pn13, sv13, rfl, hs13⟩ := h0
    have HG13 : Gd (B) (r.set_kt (upd r.kt (slN r.kh S) (btV r S (upN (x >>> (6 &&& 31)) 6)))) := g_kt H (slN_lt r.kh hS) (btV_ok r S _).1
    refine x_st (st' := [.int (r.kt (slN r.kh S))]) rfl ?_
    refine x_bipush C (-25) (by decide) dL_isAhead_225 ?_
    refine x_icmp_lt C 292 (by decide) dL_isAhead_227 (fun hz => absurd hz (ge_of (H.2.1.2.2.2 _ (slN_lt r.kh hS)) (by decide))) (fun _ => ?_)
    refine x_aload_n C 11 rfl rfl dL_isAhead_230 ?_
    refine x_iload C 7 rfl dL_isAhead_231 ?_
    refine x_EV0 [.int (nI (upN (x >>> (6 &&& 31)) 6))] [] C (a_aim l g ap ad (r.set_kt (upd r.kt (slN r.kh S) (btV r S (upN (x >>> (6 &&& 31)) 6)))) d13 po13 pn13 sv13 mm (upN (x >>> (6 &&& 31)) 6) hV HG13.1 hs13.1 HG13.2.2.1) rfl yV_X6_aim wML_L_71 0 rfl rfl rfl rfl (nle rfl) (nle rfl) (nle rfl) (nle rfl) (nle rfl) dL_isAhead_233 (fun E w h => h.elim) (fun r0 w0 h0 => ?_)
    obtain ⟨rfl, d14, rfl⟩ := h0
    refine x_st (st' := [.int (aimA (r.set_kt (upd r.kt (slN r.kh S) (btV r S (upN (x >>> (6 &&& 31)) 6)))) (upN (x >>> (6 &&& 31)) 6))]) rfl ?_
    refine x_FS (w1 := ([] : va_W)) (wc := ([] : va_W)) (w2 := (wB g ap ad (r.set_kt (upd r.kt (slN r.kh S) (btV r S (upN (x >>> (6 &&& 31)) 6)))) d14 po13 pn13 sv13 mm)) [.int (aimA (r.set_kt (upd r.kt (slN r.kh S) (btV r S (upN (x >>> (6 &&& 31)) 6)))) (upN (x >>> (6 &&& 31)) 6))] [] (wB g ap ad (r.set_kt (upd r.kt (slN r.kh S) (btV r S (upN (x >>> (6 &&& 31)) 6)))) d14 po13 pn13 sv13 mm) C (k_L_size l g (aimA (r.set_kt (upd r.kt (slN r.kh S) (btV r S (upN (x >>> (6 &&& 31)) 6)))) (upN (x >>> (6 &&& 31)) 6))) rfl yS_L_size wML_L_74 rfl rfl rfl (nle rfl) (nle rfl) (nle rfl) (nle rfl) (nle rfl) dL_isAhead_236 ?_
    refine x_iload C 0 rfl dL_isAhead_239 ?_
    refine x_icmp_gt C 292 (by decide) dL_isAhead_241 (fun hz => absurd hz (Int32.not_lt.mpr (best_le H hV ht).1)) (fun _ => ?_)
    refine x_aload_n C 11 rfl rfl dL_isAhead_244 ?_
    refine x_iload C 7 rfl dL_isAhead_245 ?_
    refine x_EV0 [.int (nI (upN (x >>> (6 &&& 31)) 6))] [] C (a_aim l g ap ad (r.set_kt (upd r.kt (slN r.kh S) (btV r S (upN (x >>> (6 &&& 31)) 6)))) d14 po13 pn13 sv13 mm (upN (x >>> (6 &&& 31)) 6) hV HG13.1 hs13.1 HG13.2.2.1) rfl yV_X6_aim wML_L_71 0 rfl rfl rfl rfl (nle rfl) (nle rfl) (nle rfl) (nle rfl) (nle rfl) dL_isAhead_247 (fun E w h => h.elim) (fun r0 w0 h0 => ?_)
    obtain ⟨rfl, d15, rfl⟩ := h0
    refine x_st (st' := [.int (aimA (r.set_kt (upd r.kt (slN r.kh S) (btV r S (upN (x >>> (6 &&& 31)) 6)))) (upN (x >>> (6 &&& 31)) 6))]) rfl ?_
    refine x_FS (w1 := ([] : va_W)) (wc := ([] : va_W)) (w2 := (wB g ap ad (r.set_kt (upd r.kt (slN r.kh S) (btV r S (upN (x >>> (6 &&& 31)) 6)))) d15 po13 pn13 sv13 mm)) [.int (aimA (r.set_kt (upd r.kt (slN r.kh S) (btV r S (upN (x >>> (6 &&& 31)) 6)))) (upN (x >>> (6 &&& 31)) 6))] [] (wB g ap ad (r.set_kt (upd r.kt (slN r.kh S) (btV r S (upN (x >>> (6 &&& 31)) 6)))) d15 po13 pn13 sv13 mm) C (k_L_size l g (aimA (r.set_kt (upd r.kt (slN r.kh S) (btV r S (upN (x >>> (6 &&& 31)) 6)))) (upN (x >>> (6 &&& 31)) 6))) rfl yS_L_size wML_L_74 rfl rfl rfl (nle rfl) (nle rfl) (nle rfl) (nle rfl) (nle rfl) dL_isAhead_250 ?_
    refine x_iload C 4 rfl dL_isAhead_253 ?_
    refine x_FS (w1 := ([] : va_W)) (wc := ([] : va_W)) (w2 := (wB g ap ad (r.set_kt (upd r.kt (slN r.kh S) (btV r S (upN (x >>> (6 &&& 31)) 6)))) d15 po13 pn13 sv13 mm)) [.int (aimA r (upN (x >>> (6 &&& 31)) 6))] [.int (szV (aimA (r.set_kt (upd r.kt (slN r.kh S) (btV r S (upN (x >>> (6 &&& 31)) 6)))) (upN (x >>> (6 &&& 31)) 6)))] (wB g ap ad (r.set_kt (upd r.kt (slN r.kh S) (btV r S (upN (x >>> (6 &&& 31)) 6)))) d15 po13 pn13 sv13 mm) C (k_L_size l g (aimA r (upN (x >>> (6 &&& 31)) 6))) rfl yS_L_size wML_L_74 rfl rfl rfl (nle rfl) (nle rfl) (nle rfl) (nle rfl) (nle rfl) dL_isAhead_255 ?_
    refine x_icmp_gt C 292 (by decide) dL_isAhead_258 (fun hz => absurd hz (Int32.not_lt.mpr (best_was H hS hV))) (fun _ => ?_)
    refine x_aload_n C 11 rfl rfl dL_isAhead_261 ?_
    refine x_iload C 7 rfl dL_isAhead_262 ?_
    refine x_EV0 [.int (nI (upN (x >>> (6 &&& 31)) 6))] [] C (a_aim l g ap ad (r.set_kt (upd r.kt (slN r.kh S) (btV r S (upN (x >>> (6 &&& 31)) 6)))) d15 po13 pn13 sv13 mm (upN (x >>> (6 &&& 31)) 6) hV HG13.1 hs13.1 HG13.2.2.1) rfl yV_X6_aim wML_L_71 0 rfl rfl rfl rfl (nle rfl) (nle rfl) (nle rfl) (nle rfl) (nle rfl) dL_isAhead_264 (fun E w h => h.elim) (fun r0 w0 h0 => ?_)
    obtain ⟨rfl, d16, rfl⟩ := h0
    refine x_st (st' := [.int (aimA (r.set_kt (upd r.kt (slN r.kh S) (btV r S (upN (x >>> (6 &&& 31)) 6)))) (upN (x >>> (6 &&& 31)) 6))]) rfl ?_
    refine x_FS (w1 := ([] : va_W)) (wc := ([] : va_W)) (w2 := (wB g ap ad (r.set_kt (upd r.kt (slN r.kh S) (btV r S (upN (x >>> (6 &&& 31)) 6)))) d16 po13 pn13 sv13 mm)) [.int (aimA (r.set_kt (upd r.kt (slN r.kh S) (btV r S (upN (x >>> (6 &&& 31)) 6)))) (upN (x >>> (6 &&& 31)) 6))] [] (wB g ap ad (r.set_kt (upd r.kt (slN r.kh S) (btV r S (upN (x >>> (6 &&& 31)) 6)))) d16 po13 pn13 sv13 mm) C (k_L_size l g (aimA (r.set_kt (upd r.kt (slN r.kh S) (btV r S (upN (x >>> (6 &&& 31)) 6)))) (upN (x >>> (6 &&& 31)) 6))) rfl yS_L_size wML_L_74 rfl rfl rfl (nle rfl) (nle rfl) (nle rfl) (nle rfl) (nle rfl) dL_isAhead_267 ?_
    refine x_iload C 0 rfl dL_isAhead_270 ?_
    refine x_icmp_lt C 288 (by decide) dL_isAhead_272 (fun h2 => ?_) (fun h2 => ?_)
    · refine x_iconst C 1 (by decide) dL_isAhead_288 ?_
      refine x_goto C 293 (by decide) dL_isAhead_289 ?_
      refine x_istore C [(13, .int 1), (14, .int (szV (aimA (r.set_kt (upd r.kt (slN r.kh S) ((nI (upN (x >>> (4 &&& 31)) 51)) - 25))) (upN (x >>> (6 &&& 31)) 6)))), (11, .long (dig r)), (10, .int 0), (9, .int (aimA r (upN (x >>> (6 &&& 31)) 6))), (8, .int (aimA (r.set_kp (upd r.kp S ((nI (upN x 201)) - 100))) (upN (x >>> (6 &&& 31)) 6))), (7, .int (btV r S (upN (x >>> (6 &&& 31)) 6))), (6, .int (nI (upN (x >>> (6 &&& 31)) 6))), (5, .int ((nI (upN (x >>> (4 &&& 31)) 51)) - 25)), (4, .int ((nI (upN x 201)) - 100)), (3, .int (sp_dby r (nI S) 0 6)), (0, .ref (ap 0)), (1, .int (nI S)), (2, .int x)] rfl (by decide) dL_isAhead_293 ?_
      refine x_iload C 0 rfl dL_isAhead_295 ?_
      refine x_if_eq C 321 (by decide) dL_isAhead_297 (fun hz => absurd hz (by decide)) (fun _ => ?_)
      refine x_aload_n C 11 rfl rfl dL_isAhead_300 ?_
      refine x_EV0 [] [] C (a_undo l g ap ad (r.set_kt (upd r.kt (slN r.kh S) (btV r S (upN (x >>> (6 &&& 31)) 6)))) r d16 po13 pn13 sv13 mm HG13.1 hs13.1 hs13.2.1) rfl yV_X6_undo wML_L_173 0 rfl rfl rfl rfl (nle rfl) (nle rfl) (nle rfl) (nle rfl) (nle rfl) dL_isAhead_301 (fun E w h => h.elim) (fun r0 w0 h0 => ?_)
      obtain ⟨rfl, rfl, hu17⟩ := h0
      refine x_st (st' := [.int (pn13 - 1)]) rfl ?_
      refine x_if_lt C 321 (by decide) dL_isAhead_304 (fun hz => absurd hz hu17.2) (fun _ => ?_)
      refine x_aload_n C 11 rfl rfl dL_isAhead_307 ?_
      refine x_EV0 [] [] C (a_digest l g ap ad r d16 po13 (pn13 - 1) sv13 mm  H.1 hu17.1 H.2.2.1) rfl yV_X6_digest wML_L_185 0 rfl rfl rfl rfl (nle rfl) (nle rfl) (nle rfl) (nle rfl) (nle rfl) dL_isAhead_308 (fun E w h => h.elim) (fun r0 w0 h0 => ?_)
      obtain ⟨rfl, d18, rfl⟩ := h0
      refine x_st (st' := [.long (dig r)]) rfl ?_
      refine x_lload C 2 rfl dL_isAhead_311 ?_
      refine x_lcmp C dL_isAhead_313 ?_
      refine x_if_ne C 321 (by decide) dL_isAhead_314 (fun hz => absurd (lg_self _) hz) (fun _ => ?_)
      refine x_iconst C 1 (by decide) dL_isAhead_317 ?_
      refine x_goto C 322 (by decide) dL_isAhead_318 ?_
      exact x_zret C hr rfl (nle rfl) (nle rfl) dL_isAhead_322 ⟨rfl, d18, po13, (pn13 - 1), sv13, rfl, hu17.1⟩
    · refine x_iload C 6 rfl dL_isAhead_275 ?_
      refine x_FS (w1 := ([] : va_W)) (wc := ([] : va_W)) (w2 := (wB g ap ad (r.set_kt (upd r.kt (slN r.kh S) (btV r S (upN (x >>> (6 &&& 31)) 6)))) d16 po13 pn13 sv13 mm)) [.int (btV r S (upN (x >>> (6 &&& 31)) 6))] [] (wB g ap ad (r.set_kt (upd r.kt (slN r.kh S) (btV r S (upN (x >>> (6 &&& 31)) 6)))) d16 po13 pn13 sv13 mm) C (k_L_size l g (btV r S (upN (x >>> (6 &&& 31)) 6))) rfl yS_L_size wML_L_74 rfl rfl rfl (nle rfl) (nle rfl) (nle rfl) (nle rfl) (nle rfl) dL_isAhead_277 ?_
      refine x_iload C 8 rfl dL_isAhead_280 ?_
      refine x_FS (w1 := ([] : va_W)) (wc := ([] : va_W)) (w2 := (wB g ap ad (r.set_kt (upd r.kt (slN r.kh S) (btV r S (upN (x >>> (6 &&& 31)) 6)))) d16 po13 pn13 sv13 mm)) [.int ((nI (upN (x >>> (4 &&& 31)) 51)) - 25)] [.int (szV (btV r S (upN (x >>> (6 &&& 31)) 6)))] (wB g ap ad (r.set_kt (upd r.kt (slN r.kh S) (btV r S (upN (x >>> (6 &&& 31)) 6)))) d16 po13 pn13 sv13 mm) C (k_L_size l g ((nI (upN (x >>> (4 &&& 31)) 51)) - 25)) rfl yS_L_size wML_L_74 rfl rfl rfl (nle rfl) (nle rfl) (nle rfl) (nle rfl) (nle rfl) dL_isAhead_282 ?_
      refine x_icmp_gt C 292 (by decide) dL_isAhead_285 (fun hz => absurd hz (Int32.not_lt.mpr ((best_le H hV ht).2.resolve_left h2))) (fun _ => ?_)
      refine x_iconst C 1 (by decide) dL_isAhead_288 ?_
      refine x_goto C 293 (by decide) dL_isAhead_289 ?_
      refine x_istore C [(13, .int 1), (14, .int (szV (aimA (r.set_kt (upd r.kt (slN r.kh S) ((nI (upN (x >>> (4 &&& 31)) 51)) - 25))) (upN (x >>> (6 &&& 31)) 6)))), (11, .long (dig r)), (10, .int 0), (9, .int (aimA r (upN (x >>> (6 &&& 31)) 6))), (8, .int (aimA (r.set_kp (upd r.kp S ((nI (upN x 201)) - 100))) (upN (x >>> (6 &&& 31)) 6))), (7, .int (btV r S (upN (x >>> (6 &&& 31)) 6))), (6, .int (nI (upN (x >>> (6 &&& 31)) 6))), (5, .int ((nI (upN (x >>> (4 &&& 31)) 51)) - 25)), (4, .int ((nI (upN x 201)) - 100)), (3, .int (sp_dby r (nI S) 0 6)), (0, .ref (ap 0)), (1, .int (nI S)), (2, .int x)] rfl (by decide) dL_isAhead_293 ?_
      refine x_iload C 0 rfl dL_isAhead_295 ?_
      refine x_if_eq C 321 (by decide) dL_isAhead_297 (fun hz => absurd hz (by decide)) (fun _ => ?_)
      refine x_aload_n C 11 rfl rfl dL_isAhead_300 ?_
      refine x_EV0 [] [] C (a_undo l g ap ad (r.set_kt (upd r.kt (slN r.kh S) (btV r S (upN (x >>> (6 &&& 31)) 6)))) r d16 po13 pn13 sv13 mm HG13.1 hs13.1 hs13.2.1) rfl yV_X6_undo wML_L_173 0 rfl rfl rfl rfl (nle rfl) (nle rfl) (nle rfl) (nle rfl) (nle rfl) dL_isAhead_301 (fun E w h => h.elim) (fun r0 w0 h0 => ?_)
      obtain ⟨rfl, rfl, hu19⟩ := h0
      refine x_st (st' := [.int (pn13 - 1)]) rfl ?_
      refine x_if_lt C 321 (by decide) dL_isAhead_304 (fun hz => absurd hz hu19.2) (fun _ => ?_)
      refine x_aload_n C 11 rfl rfl dL_isAhead_307 ?_
      refine x_EV0 [] [] C (a_digest l g ap ad r d16 po13 (pn13 - 1) sv13 mm  H.1 hu19.1 H.2.2.1) rfl yV_X6_digest wML_L_185 0 rfl rfl rfl rfl (nle rfl) (nle rfl) (nle rfl) (nle rfl) (nle rfl) dL_isAhead_308 (fun E w h => h.elim) (fun r0 w0 h0 => ?_)
      obtain ⟨rfl, d20, rfl⟩ := h0
      refine x_st (st' := [.long (dig r)]) rfl ?_
      refine x_lload C 2 rfl dL_isAhead_311 ?_
      refine x_lcmp C dL_isAhead_313 ?_
      refine x_if_ne C 321 (by decide) dL_isAhead_314 (fun hz => absurd (lg_self _) hz) (fun _ => ?_)
      refine x_iconst C 1 (by decide) dL_isAhead_317 ?_
      refine x_goto C 322 (by decide) dL_isAhead_318 ?_
      exact x_zret C hr rfl (nle rfl) (nle rfl) dL_isAhead_322 ⟨rfl, d20, po13, (pn13 - 1), sv13, rfl, hu19.1⟩
  · refine x_iconst C 1 (by decide) dL_isAhead_83 ?_
    refine x_goto C 88 (by decide) dL_isAhead_84 ?_
    refine x_istore C [(10, .int 1), (9, .int (aimA r (upN (x >>> (6 &&& 31)) 6))), (8, .int (aimA (r.set_kp (upd r.kp S ((nI (upN x 201)) - 100))) (upN (x >>> (6 &&& 31)) 6))), (7, .int (btV r S (upN (x >>> (6 &&& 31)) 6))), (6, .int (nI (upN (x >>> (6 &&& 31)) 6))), (5, .int ((nI (upN (x >>> (4 &&& 31)) 51)) - 25)), (4, .int ((nI (upN x 201)) - 100)), (3, .int (sp_dby r (nI S) 0 6)), (0, .ref (ap 0)), (1, .int (nI S)), (2, .int x)] rfl (by decide) dL_isAhead_88 ?_
    refine x_aload_n C 8 rfl rfl dL_isAhead_90 ?_
    refine x_EV0 [] [] C (a_digest l g ap ad r d3 po pn sv mm  H.1 Hp H.2.2.1) rfl yV_X6_digest wML_L_185 0 rfl rfl rfl rfl (nle rfl) (nle rfl) (nle rfl) (nle rfl) (nle rfl) dL_isAhead_91 (fun E w h => h.elim) (fun r0 w0 h0 => ?_)
    obtain ⟨rfl, d21, rfl⟩ := h0
    refine x_st (st' := [.long (dig r)]) rfl ?_
    refine x_lstore C [(11, .long (dig r)), (10, .int 1), (9, .int (aimA r (upN (x >>> (6 &&& 31)) 6))), (8, .int (aimA (r.set_kp (upd r.kp S ((nI (upN x 201)) - 100))) (upN (x >>> (6 &&& 31)) 6))), (7, .int (btV r S (upN (x >>> (6 &&& 31)) 6))), (6, .int (nI (upN (x >>> (6 &&& 31)) 6))), (5, .int ((nI (upN (x >>> (4 &&& 31)) 51)) - 25)), (4, .int ((nI (upN x 201)) - 100)), (3, .int (sp_dby r (nI S) 0 6)), (0, .ref (ap 0)), (1, .int (nI S)), (2, .int x)] rfl (by decide) dL_isAhead_94 ?_
    refine x_iload C 1 rfl dL_isAhead_96 ?_
    refine x_if_ne C 108 (by decide) dL_isAhead_98 (fun _ => ?_) (fun hz => absurd hz (by decide))
    refine x_aload_n C 9 rfl rfl dL_isAhead_108 ?_
    refine x_iload_n C 10 rfl rfl dL_isAhead_109 ?_
    refine x_iload C 7 rfl dL_isAhead_110 ?_
    refine x_EV0 [.int (nI S), .int ((nI (upN x 201)) - 100)] [] C (a_move l g ap ad r d21 po pn sv mm S hS ((nI (upN x 201)) - 100) hp H.1 Hp) rfl yV_X6_move wML_L_99 0 rfl rfl rfl rfl (nle rfl) (nle rfl) (nle rfl) (nle rfl) (nle rfl) dL_isAhead_112 (fun E w h => h.elim) (fun r0 w0 h0 => ?_)
    obtain ⟨rfl, d22, po22, pn22, sv22, rfl, hs22⟩ := h0
    have HG22 : Gd (B) (r.set_kp (upd r.kp S ((nI (upN x 201)) - 100))) := g_kp H hS hp
    refine x_st (st' := [.int (r.kp S)]) rfl ?_
    refine x_bipush C (-100) (by decide) dL_isAhead_115 ?_
    refine x_icmp_lt C 152 (by decide) dL_isAhead_117 (fun hz => absurd hz (ge_of (H.2.1.1 _ hS) (by decide))) (fun _ => ?_)
    refine x_aload_n C 9 rfl rfl dL_isAhead_120 ?_
    refine x_iload C 5 rfl dL_isAhead_121 ?_
    refine x_EV0 [.int (nI (upN (x >>> (6 &&& 31)) 6))] [] C (a_aim l g ap ad (r.set_kp (upd r.kp S ((nI (upN x 201)) - 100))) d22 po22 pn22 sv22 mm (upN (x >>> (6 &&& 31)) 6) hV HG22.1 hs22.1 HG22.2.2.1) rfl yV_X6_aim wML_L_71 0 rfl rfl rfl rfl (nle rfl) (nle rfl) (nle rfl) (nle rfl) (nle rfl) dL_isAhead_123 (fun E w h => h.elim) (fun r0 w0 h0 => ?_)
    obtain ⟨rfl, d23, rfl⟩ := h0
    refine x_st (st' := [.int (aimA (r.set_kp (upd r.kp S ((nI (upN x 201)) - 100))) (upN (x >>> (6 &&& 31)) 6))]) rfl ?_
    refine x_iload C 3 rfl dL_isAhead_126 ?_
    refine x_icmp_ne C 152 (by decide) dL_isAhead_128 (fun hz => absurd rfl hz) (fun _ => ?_)
    refine x_aload_n C 9 rfl rfl dL_isAhead_131 ?_
    refine x_EV0 [] [] C (a_undo l g ap ad (r.set_kp (upd r.kp S ((nI (upN x 201)) - 100))) r d23 po22 pn22 sv22 mm HG22.1 hs22.1 hs22.2.1) rfl yV_X6_undo wML_L_173 0 rfl rfl rfl rfl (nle rfl) (nle rfl) (nle rfl) (nle rfl) (nle rfl) dL_isAhead_132 (fun E w h => h.elim) (fun r0 w0 h0 => ?_)
    obtain ⟨rfl, rfl, hu24⟩ := h0
    refine x_st (st' := [.int (pn22 - 1)]) rfl ?_
    refine x_if_lt C 152 (by decide) dL_isAhead_135 (fun hz => absurd hz hu24.2) (fun _ => ?_)
    refine x_aload_n C 9 rfl rfl dL_isAhead_138 ?_
    refine x_EV0 [] [] C (a_digest l g ap ad r d23 po22 (pn22 - 1) sv22 mm  H.1 hu24.1 H.2.2.1) rfl yV_X6_digest wML_L_185 0 rfl rfl rfl rfl (nle rfl) (nle rfl) (nle rfl) (nle rfl) (nle rfl) dL_isAhead_139 (fun E w h => h.elim) (fun r0 w0 h0 => ?_)
    obtain ⟨rfl, d25, rfl⟩ := h0
    refine x_st (st' := [.long (dig r)]) rfl ?_
    refine x_lload C 0 rfl dL_isAhead_142 ?_
    refine x_lcmp C dL_isAhead_144 ?_
    refine x_if_ne C 152 (by decide) dL_isAhead_145 (fun hz => absurd (lg_self _) hz) (fun _ => ?_)
    refine x_iconst C 1 (by decide) dL_isAhead_148 ?_
    refine x_goto C 153 (by decide) dL_isAhead_149 ?_
    refine x_istore C [(13, .int 1), (11, .long (dig r)), (10, .int 1), (9, .int (aimA r (upN (x >>> (6 &&& 31)) 6))), (8, .int (aimA (r.set_kp (upd r.kp S ((nI (upN x 201)) - 100))) (upN (x >>> (6 &&& 31)) 6))), (7, .int (btV r S (upN (x >>> (6 &&& 31)) 6))), (6, .int (nI (upN (x >>> (6 &&& 31)) 6))), (5, .int ((nI (upN (x >>> (4 &&& 31)) 51)) - 25)), (4, .int ((nI (upN x 201)) - 100)), (3, .int (sp_dby r (nI S) 0 6)), (0, .ref (ap 0)), (1, .int (nI S)), (2, .int x)] rfl (by decide) dL_isAhead_153 ?_
    refine x_iload C 0 rfl dL_isAhead_155 ?_
    refine x_if_eq C 192 (by decide) dL_isAhead_157 (fun hz => absurd hz (by decide)) (fun _ => ?_)
    refine x_aload_n C 10 rfl rfl dL_isAhead_160 ?_
    refine x_iload_n C 11 rfl rfl dL_isAhead_161 ?_
    refine x_iload C 7 rfl dL_isAhead_162 ?_
    refine x_EV0 [.int (nI S), .int ((nI (upN (x >>> (4 &&& 31)) 51)) - 25)] [] C (a_setTrim l g ap ad r d25 po22 (pn22 - 1) sv22 mm S hS ((nI (upN (x >>> (4 &&& 31)) 51)) - 25) ht H.1 hu24.1) rfl yV_X6_setTrim wML_L_47 0 rfl rfl rfl rfl (nle rfl) (nle rfl) (nle rfl) (nle rfl) (nle rfl) dL_isAhead_164 (fun E w h => h.elim) (fun r0 w0 h0 => ?_)
    obtain ⟨rfl, d26, po26, pn26, sv26, rfl, hs26⟩ := h0
    have HG26 : Gd (B) (r.set_kt (upd r.kt (slN r.kh S) ((nI (upN (x >>> (4 &&& 31)) 51)) - 25))) := g_kt H (slN_lt r.kh hS) ht
    refine x_st (st' := [.int (r.kt (slN r.kh S))]) rfl ?_
    refine x_bipush C (-25) (by decide) dL_isAhead_167 ?_
    refine x_icmp_lt C 192 (by decide) dL_isAhead_169 (fun hz => absurd hz (ge_of (H.2.1.2.2.2 _ (slN_lt r.kh hS)) (by decide))) (fun _ => ?_)
    refine x_iload C 2 rfl dL_isAhead_172 ?_
    refine x_if_ne C 188 (by decide) dL_isAhead_174 (fun _ => ?_) (fun hz => absurd hz (by decide))
    refine x_iconst C 1 (by decide) dL_isAhead_188 ?_
    refine x_goto C 193 (by decide) dL_isAhead_189 ?_
    refine x_istore C [(13, .int 1), (11, .long (dig r)), (10, .int 1), (9, .int (aimA r (upN (x >>> (6 &&& 31)) 6))), (8, .int (aimA (r.set_kp (upd r.kp S ((nI (upN x 201)) - 100))) (upN (x >>> (6 &&& 31)) 6))), (7, .int (btV r S (upN (x >>> (6 &&& 31)) 6))), (6, .int (nI (upN (x >>> (6 &&& 31)) 6))), (5, .int ((nI (upN (x >>> (4 &&& 31)) 51)) - 25)), (4, .int ((nI (upN x 201)) - 100)), (3, .int (sp_dby r (nI S) 0 6)), (0, .ref (ap 0)), (1, .int (nI S)), (2, .int x)] rfl (by decide) dL_isAhead_193 ?_
    refine x_aload_n C 10 rfl rfl dL_isAhead_195 ?_
    refine x_iload C 6 rfl dL_isAhead_196 ?_
    refine x_EV0 [.int (nI (upN (x >>> (6 &&& 31)) 6))] [] C (a_aim l g ap ad (r.set_kt (upd r.kt (slN r.kh S) ((nI (upN (x >>> (4 &&& 31)) 51)) - 25))) d26 po26 pn26 sv26 mm (upN (x >>> (6 &&& 31)) 6) hV HG26.1 hs26.1 HG26.2.2.1) rfl yV_X6_aim wML_L_71 0 rfl rfl rfl rfl (nle rfl) (nle rfl) (nle rfl) (nle rfl) (nle rfl) dL_isAhead_198 (fun E w h => h.elim) (fun r0 w0 h0 => ?_)
    obtain ⟨rfl, d27, rfl⟩ := h0
    refine x_st (st' := [.int (aimA (r.set_kt (upd r.kt (slN r.kh S) ((nI (upN (x >>> (4 &&& 31)) 51)) - 25))) (upN (x >>> (6 &&& 31)) 6))]) rfl ?_
    refine x_FS (w1 := ([] : va_W)) (wc := ([] : va_W)) (w2 := (wB g ap ad (r.set_kt (upd r.kt (slN r.kh S) ((nI (upN (x >>> (4 &&& 31)) 51)) - 25))) d27 po26 pn26 sv26 mm)) [.int (aimA (r.set_kt (upd r.kt (slN r.kh S) ((nI (upN (x >>> (4 &&& 31)) 51)) - 25))) (upN (x >>> (6 &&& 31)) 6))] [] (wB g ap ad (r.set_kt (upd r.kt (slN r.kh S) ((nI (upN (x >>> (4 &&& 31)) 51)) - 25))) d27 po26 pn26 sv26 mm) C (k_L_size l g (aimA (r.set_kt (upd r.kt (slN r.kh S) ((nI (upN (x >>> (4 &&& 31)) 51)) - 25))) (upN (x >>> (6 &&& 31)) 6))) rfl yS_L_size wML_L_74 rfl rfl rfl (nle rfl) (nle rfl) (nle rfl) (nle rfl) (nle rfl) dL_isAhead_201 ?_
    refine x_istore C [(14, .int (szV (aimA (r.set_kt (upd r.kt (slN r.kh S) ((nI (upN (x >>> (4 &&& 31)) 51)) - 25))) (upN (x >>> (6 &&& 31)) 6)))), (13, .int 1), (11, .long (dig r)), (10, .int 1), (9, .int (aimA r (upN (x >>> (6 &&& 31)) 6))), (8, .int (aimA (r.set_kp (upd r.kp S ((nI (upN x 201)) - 100))) (upN (x >>> (6 &&& 31)) 6))), (7, .int (btV r S (upN (x >>> (6 &&& 31)) 6))), (6, .int (nI (upN (x >>> (6 &&& 31)) 6))), (5, .int ((nI (upN (x >>> (4 &&& 31)) 51)) - 25)), (4, .int ((nI (upN x 201)) - 100)), (3, .int (sp_dby r (nI S) 0 6)), (0, .ref (ap 0)), (1, .int (nI S)), (2, .int x)] rfl (by decide) dL_isAhead_204 ?_
    refine x_iload C 1 rfl dL_isAhead_206 ?_
    refine x_if_eq C 292 (by decide) dL_isAhead_208 (fun hz => absurd hz (by decide)) (fun _ => ?_)
    refine x_aload_n C 11 rfl rfl dL_isAhead_211 ?_
    refine x_EV0 [] [] C (a_undo l g ap ad (r.set_kt (upd r.kt (slN r.kh S) ((nI (upN (x >>> (4 &&& 31)) 51)) - 25))) r d27 po26 pn26 sv26 mm HG26.1 hs26.1 hs26.2.1) rfl yV_X6_undo wML_L_173 0 rfl rfl rfl rfl (nle rfl) (nle rfl) (nle rfl) (nle rfl) (nle rfl) dL_isAhead_212 (fun E w h => h.elim) (fun r0 w0 h0 => ?_)
    obtain ⟨rfl, rfl, hu28⟩ := h0
    refine x_st (st' := [.int (pn26 - 1)]) rfl ?_
    refine x_if_lt C 292 (by decide) dL_isAhead_215 (fun hz => absurd hz hu28.2) (fun _ => ?_)
    refine x_aload_n C 11 rfl rfl dL_isAhead_218 ?_
    refine x_iload_n C 12 rfl rfl dL_isAhead_219 ?_
    refine x_iload C 6 rfl dL_isAhead_220 ?_
    refine x_EV0 [.int (nI S), .int (btV r S (upN (x >>> (6 &&& 31)) 6))] [] C (a_setTrim l g ap ad r d27 po26 (pn26 - 1) sv26 mm S hS (btV r S (upN (x >>> (6 &&& 31)) 6)) (btV_ok r S _).1 H.1 hu28.1) rfl yV_X6_setTrim wML_L_47 0 rfl rfl rfl rfl (nle rfl) (nle rfl) (nle rfl) (nle rfl) (nle rfl) dL_isAhead_222 (fun E w h => h.elim) (fun r0 w0 h0 => ?_)
    obtain ⟨rfl, d29, po29, pn29, sv29, rfl, hs29⟩ := h0
    have HG29 : Gd (B) (r.set_kt (upd r.kt (slN r.kh S) (btV r S (upN (x >>> (6 &&& 31)) 6)))) := g_kt H (slN_lt r.kh hS) (btV_ok r S _).1
    refine x_st (st' := [.int (r.kt (slN r.kh S))]) rfl ?_
    refine x_bipush C (-25) (by decide) dL_isAhead_225 ?_
    refine x_icmp_lt C 292 (by decide) dL_isAhead_227 (fun hz => absurd hz (ge_of (H.2.1.2.2.2 _ (slN_lt r.kh hS)) (by decide))) (fun _ => ?_)
    refine x_aload_n C 11 rfl rfl dL_isAhead_230 ?_
    refine x_iload C 7 rfl dL_isAhead_231 ?_
    refine x_EV0 [.int (nI (upN (x >>> (6 &&& 31)) 6))] [] C (a_aim l g ap ad (r.set_kt (upd r.kt (slN r.kh S) (btV r S (upN (x >>> (6 &&& 31)) 6)))) d29 po29 pn29 sv29 mm (upN (x >>> (6 &&& 31)) 6) hV HG29.1 hs29.1 HG29.2.2.1) rfl yV_X6_aim wML_L_71 0 rfl rfl rfl rfl (nle rfl) (nle rfl) (nle rfl) (nle rfl) (nle rfl) dL_isAhead_233 (fun E w h => h.elim) (fun r0 w0 h0 => ?_)
    obtain ⟨rfl, d30, rfl⟩ := h0
    refine x_st (st' := [.int (aimA (r.set_kt (upd r.kt (slN r.kh S) (btV r S (upN (x >>> (6 &&& 31)) 6)))) (upN (x >>> (6 &&& 31)) 6))]) rfl ?_
    refine x_FS (w1 := ([] : va_W)) (wc := ([] : va_W)) (w2 := (wB g ap ad (r.set_kt (upd r.kt (slN r.kh S) (btV r S (upN (x >>> (6 &&& 31)) 6)))) d30 po29 pn29 sv29 mm)) [.int (aimA (r.set_kt (upd r.kt (slN r.kh S) (btV r S (upN (x >>> (6 &&& 31)) 6)))) (upN (x >>> (6 &&& 31)) 6))] [] (wB g ap ad (r.set_kt (upd r.kt (slN r.kh S) (btV r S (upN (x >>> (6 &&& 31)) 6)))) d30 po29 pn29 sv29 mm) C (k_L_size l g (aimA (r.set_kt (upd r.kt (slN r.kh S) (btV r S (upN (x >>> (6 &&& 31)) 6)))) (upN (x >>> (6 &&& 31)) 6))) rfl yS_L_size wML_L_74 rfl rfl rfl (nle rfl) (nle rfl) (nle rfl) (nle rfl) (nle rfl) dL_isAhead_236 ?_
    refine x_iload C 0 rfl dL_isAhead_239 ?_
    refine x_icmp_gt C 292 (by decide) dL_isAhead_241 (fun hz => absurd hz (Int32.not_lt.mpr (best_le H hV ht).1)) (fun _ => ?_)
    refine x_aload_n C 11 rfl rfl dL_isAhead_244 ?_
    refine x_iload C 7 rfl dL_isAhead_245 ?_
    refine x_EV0 [.int (nI (upN (x >>> (6 &&& 31)) 6))] [] C (a_aim l g ap ad (r.set_kt (upd r.kt (slN r.kh S) (btV r S (upN (x >>> (6 &&& 31)) 6)))) d30 po29 pn29 sv29 mm (upN (x >>> (6 &&& 31)) 6) hV HG29.1 hs29.1 HG29.2.2.1) rfl yV_X6_aim wML_L_71 0 rfl rfl rfl rfl (nle rfl) (nle rfl) (nle rfl) (nle rfl) (nle rfl) dL_isAhead_247 (fun E w h => h.elim) (fun r0 w0 h0 => ?_)
    obtain ⟨rfl, d31, rfl⟩ := h0
    refine x_st (st' := [.int (aimA (r.set_kt (upd r.kt (slN r.kh S) (btV r S (upN (x >>> (6 &&& 31)) 6)))) (upN (x >>> (6 &&& 31)) 6))]) rfl ?_
    refine x_FS (w1 := ([] : va_W)) (wc := ([] : va_W)) (w2 := (wB g ap ad (r.set_kt (upd r.kt (slN r.kh S) (btV r S (upN (x >>> (6 &&& 31)) 6)))) d31 po29 pn29 sv29 mm)) [.int (aimA (r.set_kt (upd r.kt (slN r.kh S) (btV r S (upN (x >>> (6 &&& 31)) 6)))) (upN (x >>> (6 &&& 31)) 6))] [] (wB g ap ad (r.set_kt (upd r.kt (slN r.kh S) (btV r S (upN (x >>> (6 &&& 31)) 6)))) d31 po29 pn29 sv29 mm) C (k_L_size l g (aimA (r.set_kt (upd r.kt (slN r.kh S) (btV r S (upN (x >>> (6 &&& 31)) 6)))) (upN (x >>> (6 &&& 31)) 6))) rfl yS_L_size wML_L_74 rfl rfl rfl (nle rfl) (nle rfl) (nle rfl) (nle rfl) (nle rfl) dL_isAhead_250 ?_
    refine x_iload C 4 rfl dL_isAhead_253 ?_
    refine x_FS (w1 := ([] : va_W)) (wc := ([] : va_W)) (w2 := (wB g ap ad (r.set_kt (upd r.kt (slN r.kh S) (btV r S (upN (x >>> (6 &&& 31)) 6)))) d31 po29 pn29 sv29 mm)) [.int (aimA r (upN (x >>> (6 &&& 31)) 6))] [.int (szV (aimA (r.set_kt (upd r.kt (slN r.kh S) (btV r S (upN (x >>> (6 &&& 31)) 6)))) (upN (x >>> (6 &&& 31)) 6)))] (wB g ap ad (r.set_kt (upd r.kt (slN r.kh S) (btV r S (upN (x >>> (6 &&& 31)) 6)))) d31 po29 pn29 sv29 mm) C (k_L_size l g (aimA r (upN (x >>> (6 &&& 31)) 6))) rfl yS_L_size wML_L_74 rfl rfl rfl (nle rfl) (nle rfl) (nle rfl) (nle rfl) (nle rfl) dL_isAhead_255 ?_
    refine x_icmp_gt C 292 (by decide) dL_isAhead_258 (fun hz => absurd hz (Int32.not_lt.mpr (best_was H hS hV))) (fun _ => ?_)
    refine x_aload_n C 11 rfl rfl dL_isAhead_261 ?_
    refine x_iload C 7 rfl dL_isAhead_262 ?_
    refine x_EV0 [.int (nI (upN (x >>> (6 &&& 31)) 6))] [] C (a_aim l g ap ad (r.set_kt (upd r.kt (slN r.kh S) (btV r S (upN (x >>> (6 &&& 31)) 6)))) d31 po29 pn29 sv29 mm (upN (x >>> (6 &&& 31)) 6) hV HG29.1 hs29.1 HG29.2.2.1) rfl yV_X6_aim wML_L_71 0 rfl rfl rfl rfl (nle rfl) (nle rfl) (nle rfl) (nle rfl) (nle rfl) dL_isAhead_264 (fun E w h => h.elim) (fun r0 w0 h0 => ?_)
    obtain ⟨rfl, d32, rfl⟩ := h0
    refine x_st (st' := [.int (aimA (r.set_kt (upd r.kt (slN r.kh S) (btV r S (upN (x >>> (6 &&& 31)) 6)))) (upN (x >>> (6 &&& 31)) 6))]) rfl ?_
    refine x_FS (w1 := ([] : va_W)) (wc := ([] : va_W)) (w2 := (wB g ap ad (r.set_kt (upd r.kt (slN r.kh S) (btV r S (upN (x >>> (6 &&& 31)) 6)))) d32 po29 pn29 sv29 mm)) [.int (aimA (r.set_kt (upd r.kt (slN r.kh S) (btV r S (upN (x >>> (6 &&& 31)) 6)))) (upN (x >>> (6 &&& 31)) 6))] [] (wB g ap ad (r.set_kt (upd r.kt (slN r.kh S) (btV r S (upN (x >>> (6 &&& 31)) 6)))) d32 po29 pn29 sv29 mm) C (k_L_size l g (aimA (r.set_kt (upd r.kt (slN r.kh S) (btV r S (upN (x >>> (6 &&& 31)) 6)))) (upN (x >>> (6 &&& 31)) 6))) rfl yS_L_size wML_L_74 rfl rfl rfl (nle rfl) (nle rfl) (nle rfl) (nle rfl) (nle rfl) dL_isAhead_267 ?_
    refine x_iload C 0 rfl dL_isAhead_270 ?_
    refine x_icmp_lt C 288 (by decide) dL_isAhead_272 (fun h3 => ?_) (fun h3 => ?_)
    · refine x_iconst C 1 (by decide) dL_isAhead_288 ?_
      refine x_goto C 293 (by decide) dL_isAhead_289 ?_
      refine x_istore C [(13, .int 1), (14, .int (szV (aimA (r.set_kt (upd r.kt (slN r.kh S) ((nI (upN (x >>> (4 &&& 31)) 51)) - 25))) (upN (x >>> (6 &&& 31)) 6)))), (11, .long (dig r)), (10, .int 1), (9, .int (aimA r (upN (x >>> (6 &&& 31)) 6))), (8, .int (aimA (r.set_kp (upd r.kp S ((nI (upN x 201)) - 100))) (upN (x >>> (6 &&& 31)) 6))), (7, .int (btV r S (upN (x >>> (6 &&& 31)) 6))), (6, .int (nI (upN (x >>> (6 &&& 31)) 6))), (5, .int ((nI (upN (x >>> (4 &&& 31)) 51)) - 25)), (4, .int ((nI (upN x 201)) - 100)), (3, .int (sp_dby r (nI S) 0 6)), (0, .ref (ap 0)), (1, .int (nI S)), (2, .int x)] rfl (by decide) dL_isAhead_293 ?_
      refine x_iload C 0 rfl dL_isAhead_295 ?_
      refine x_if_eq C 321 (by decide) dL_isAhead_297 (fun hz => absurd hz (by decide)) (fun _ => ?_)
      refine x_aload_n C 11 rfl rfl dL_isAhead_300 ?_
      refine x_EV0 [] [] C (a_undo l g ap ad (r.set_kt (upd r.kt (slN r.kh S) (btV r S (upN (x >>> (6 &&& 31)) 6)))) r d32 po29 pn29 sv29 mm HG29.1 hs29.1 hs29.2.1) rfl yV_X6_undo wML_L_173 0 rfl rfl rfl rfl (nle rfl) (nle rfl) (nle rfl) (nle rfl) (nle rfl) dL_isAhead_301 (fun E w h => h.elim) (fun r0 w0 h0 => ?_)
      obtain ⟨rfl, rfl, hu33⟩ := h0
      refine x_st (st' := [.int (pn29 - 1)]) rfl ?_
      refine x_if_lt C 321 (by decide) dL_isAhead_304 (fun hz => absurd hz hu33.2) (fun _ => ?_)
      refine x_aload_n C 11 rfl rfl dL_isAhead_307 ?_
      refine x_EV0 [] [] C (a_digest l g ap ad r d32 po29 (pn29 - 1) sv29 mm  H.1 hu33.1 H.2.2.1) rfl yV_X6_digest wML_L_185 0 rfl rfl rfl rfl (nle rfl) (nle rfl) (nle rfl) (nle rfl) (nle rfl) dL_isAhead_308 (fun E w h => h.elim) (fun r0 w0 h0 => ?_)
      obtain ⟨rfl, d34, rfl⟩ := h0
      refine x_st (st' := [.long (dig r)]) rfl ?_
      refine x_lload C 2 rfl dL_isAhead_311 ?_
      refine x_lcmp C dL_isAhead_313 ?_
      refine x_if_ne C 321 (by decide) dL_isAhead_314 (fun hz => absurd (lg_self _) hz) (fun _ => ?_)
      refine x_iconst C 1 (by decide) dL_isAhead_317 ?_
      refine x_goto C 322 (by decide) dL_isAhead_318 ?_
      exact x_zret C hr rfl (nle rfl) (nle rfl) dL_isAhead_322 ⟨rfl, d34, po29, (pn29 - 1), sv29, rfl, hu33.1⟩
    · refine x_iload C 6 rfl dL_isAhead_275 ?_
      refine x_FS (w1 := ([] : va_W)) (wc := ([] : va_W)) (w2 := (wB g ap ad (r.set_kt (upd r.kt (slN r.kh S) (btV r S (upN (x >>> (6 &&& 31)) 6)))) d32 po29 pn29 sv29 mm)) [.int (btV r S (upN (x >>> (6 &&& 31)) 6))] [] (wB g ap ad (r.set_kt (upd r.kt (slN r.kh S) (btV r S (upN (x >>> (6 &&& 31)) 6)))) d32 po29 pn29 sv29 mm) C (k_L_size l g (btV r S (upN (x >>> (6 &&& 31)) 6))) rfl yS_L_size wML_L_74 rfl rfl rfl (nle rfl) (nle rfl) (nle rfl) (nle rfl) (nle rfl) dL_isAhead_277 ?_
      refine x_iload C 8 rfl dL_isAhead_280 ?_
      refine x_FS (w1 := ([] : va_W)) (wc := ([] : va_W)) (w2 := (wB g ap ad (r.set_kt (upd r.kt (slN r.kh S) (btV r S (upN (x >>> (6 &&& 31)) 6)))) d32 po29 pn29 sv29 mm)) [.int ((nI (upN (x >>> (4 &&& 31)) 51)) - 25)] [.int (szV (btV r S (upN (x >>> (6 &&& 31)) 6)))] (wB g ap ad (r.set_kt (upd r.kt (slN r.kh S) (btV r S (upN (x >>> (6 &&& 31)) 6)))) d32 po29 pn29 sv29 mm) C (k_L_size l g ((nI (upN (x >>> (4 &&& 31)) 51)) - 25)) rfl yS_L_size wML_L_74 rfl rfl rfl (nle rfl) (nle rfl) (nle rfl) (nle rfl) (nle rfl) dL_isAhead_282 ?_
      refine x_icmp_gt C 292 (by decide) dL_isAhead_285 (fun hz => absurd hz (Int32.not_lt.mpr ((best_le H hV ht).2.resolve_left h3))) (fun _ => ?_)
      refine x_iconst C 1 (by decide) dL_isAhead_288 ?_
      refine x_goto C 293 (by decide) dL_isAhead_289 ?_
      refine x_istore C [(13, .int 1), (14, .int (szV (aimA (r.set_kt (upd r.kt (slN r.kh S) ((nI (upN (x >>> (4 &&& 31)) 51)) - 25))) (upN (x >>> (6 &&& 31)) 6)))), (11, .long (dig r)), (10, .int 1), (9, .int (aimA r (upN (x >>> (6 &&& 31)) 6))), (8, .int (aimA (r.set_kp (upd r.kp S ((nI (upN x 201)) - 100))) (upN (x >>> (6 &&& 31)) 6))), (7, .int (btV r S (upN (x >>> (6 &&& 31)) 6))), (6, .int (nI (upN (x >>> (6 &&& 31)) 6))), (5, .int ((nI (upN (x >>> (4 &&& 31)) 51)) - 25)), (4, .int ((nI (upN x 201)) - 100)), (3, .int (sp_dby r (nI S) 0 6)), (0, .ref (ap 0)), (1, .int (nI S)), (2, .int x)] rfl (by decide) dL_isAhead_293 ?_
      refine x_iload C 0 rfl dL_isAhead_295 ?_
      refine x_if_eq C 321 (by decide) dL_isAhead_297 (fun hz => absurd hz (by decide)) (fun _ => ?_)
      refine x_aload_n C 11 rfl rfl dL_isAhead_300 ?_
      refine x_EV0 [] [] C (a_undo l g ap ad (r.set_kt (upd r.kt (slN r.kh S) (btV r S (upN (x >>> (6 &&& 31)) 6)))) r d32 po29 pn29 sv29 mm HG29.1 hs29.1 hs29.2.1) rfl yV_X6_undo wML_L_173 0 rfl rfl rfl rfl (nle rfl) (nle rfl) (nle rfl) (nle rfl) (nle rfl) dL_isAhead_301 (fun E w h => h.elim) (fun r0 w0 h0 => ?_)
      obtain ⟨rfl, rfl, hu35⟩ := h0
      refine x_st (st' := [.int (pn29 - 1)]) rfl ?_
      refine x_if_lt C 321 (by decide) dL_isAhead_304 (fun hz => absurd hz hu35.2) (fun _ => ?_)
      refine x_aload_n C 11 rfl rfl dL_isAhead_307 ?_
      refine x_EV0 [] [] C (a_digest l g ap ad r d32 po29 (pn29 - 1) sv29 mm  H.1 hu35.1 H.2.2.1) rfl yV_X6_digest wML_L_185 0 rfl rfl rfl rfl (nle rfl) (nle rfl) (nle rfl) (nle rfl) (nle rfl) dL_isAhead_308 (fun E w h => h.elim) (fun r0 w0 h0 => ?_)
      obtain ⟨rfl, d36, rfl⟩ := h0
      refine x_st (st' := [.long (dig r)]) rfl ?_
      refine x_lload C 2 rfl dL_isAhead_311 ?_
      refine x_lcmp C dL_isAhead_313 ?_
      refine x_if_ne C 321 (by decide) dL_isAhead_314 (fun hz => absurd (lg_self _) hz) (fun _ => ?_)
      refine x_iconst C 1 (by decide) dL_isAhead_317 ?_
      refine x_goto C 322 (by decide) dL_isAhead_318 ?_
      exact x_zret C hr rfl (nle rfl) (nle rfl) dL_isAhead_322 ⟨rfl, d36, po29, (pn29 - 1), sv29, rfl, hu35.1⟩
