/-- what stands in the law's world -/
def wLaw (g : xGt) (ap ad am : Nat → Nat) (ao : Nat) (r : xR) (po : Int32) (pn : Int32) (pl : Int32) (tx : Nat → Int32) (rp : Int32) (rl : Int32) (rs : Int32) (rm : Int32) (rn : Int32) (rz : Int32) (sv : xPl) (mm : xPl) (u : Nat → Int32) (fi : Nat → Int32) (t2 : Nat → Int32) (dm : Nat → Int32) (th : Int32) (sa : Int32) (ln : Int32) (pa : Int32) (le : Int32) (sk : Int32) (nu : Int32) (h : Int64) (fo : Nat → Int64) : va_W := wOu g ao fo ++ (wMo g am u fi t2 dm th sa ln pa le sk nu h ++ (wCl g ap ad r po pn pl tx rp rl rs rm rn rz sv mm))
/-- from the loop's end on, whatever has become of the two -/
def LK (p : Program) (l : Launch) (e : Env) (s : State) (m : MethodId) (args : Array Value) (below : List Frame) (meth : Method) (c : Code) (g : xGt) (A : Nat → Prop) (ap ad am : Nat → Nat) (ao b i k n : Nat) (Q : State → Prop) : Prop := ∀ (r : xR) (po : Int32) (pn : Int32) (pl : Int32) (tx : Nat → Int32) (rp : Int32) (rl : Int32) (rs : Int32) (rm : Int32) (rn : Int32) (rz : Int32) (sv : xPl) (mm : xPl) (u : Nat → Int32) (fi : Nat → Int32) (t2 : Nat → Int32) (dm : Nat → Int32) (th : Int32) (sa : Int32) (ln : Int32) (pa : Int32) (le : Int32) (sk : Int32) (nu : Int32) (h : Int64) (fo : Nat → Int64), RI r po pn pl tx sv mm u fi t2 sa ln → xW p l e room_1 s m args below meth c g.1 A 9 k n Q (wLaw g ap ad am ao r po pn pl tx rp rl rs rm rn rz sv mm u fi t2 dm th sa ln pa le sk nu h fo) [(4, .int (nI i)), (3, .ref ao), (2, .ref (am 0)), (1, .ref (ap 0)), (0, .ref b)] 3131 []
theorem rmc {a b X : Nat} (h : b ≤ X) (hab : a ≤ b) : a ≤ X := Nat.le_trans hab h
theorem lgz {a b : Int64} (h : a = b) : lg_cmp a b = 0 := by
  subst h
  unfold lg_cmp
  simp
theorem cd0 {cd : Int32} {P1 : Prop} (h : P1 ∧ cd = 1) : ¬ cd = 0 := by rw [h.2]; decide
theorem cd00 {cd : Int32} {P1 P2 : Prop} (h : (P1 ∧ cd = 1) ∨ (P2 ∧ cd = 2)) : ¬ cd = 0 := by rcases h with h | h <;> (rw [h.2]; decide)
theorem cd000 {cd : Int32} {P1 P2 P3 : Prop} (h : (P1 ∧ cd = 1) ∨ (P2 ∧ cd = 2) ∨ (P3 ∧ cd = 3)) : ¬ cd = 0 := by rcases h with h | h | h <;> (rw [h.2]; decide)
section ZL
variable {p : Program} {l : Launch} {e : Env} {R : Room} {s : State} {m : MethodId} {args : Array Value} {below : List Frame} {meth : Method} {c : Code} {cells slots : Nat} {Q : State → Prop} {cc : ByteArray} {pc nL : Nat} {own nm : String} {D : va_G} {tys : List (ClassId × FieldType)} {A : Nat → Prop} {ws : va_W} {lv : List (Nat × Value)} {st : List Value}
theorem x_sld (C : xC p l s m args meth c cc nL own nm D tys A) {b L : Nat} {xs : Nat → Int32} (k : Nat) {i : Int32} (hX : va_X b L xs s s.heap) (hbl : b < s.heap.size) (hbA : ¬ A b) (hi : i = nI k) (hk : k < L) (hL : L < 2 ^ 31) (hd : decode cc pc = .ok (.iaload, 1)) (K : xW p l e R s m args below meth c D A nL cells slots Q ws lv (pc + 1) (.int (xs k) :: st)) : xW p l e R s m args below meth c D A nL cells slots Q ws lv pc (.int i :: .ref b :: st) := by
  subst hi
  intro H locs ls hP hD hS hl
  refine va_sld C.1 C.2.1 hX hbl hbA hS (vp_in_nI hk hL) hd ?_
  rw [nI_clamp (Nat.lt_trans hk hL)]
  exact K H locs ls hP hD hS hl
theorem x_slen (C : xC p l s m args meth c cc nL own nm D tys A) {b L : Nat} {xs : Nat → Int32} (hX : va_X b L xs s s.heap) (hbl : b < s.heap.size) (hbA : ¬ A b) (hd : decode cc pc = .ok (.arraylength, 1)) (K : xW p l e R s m args below meth c D A nL cells slots Q ws lv (pc + 1) (.int (nI L) :: st)) : xW p l e R s m args below meth c D A nL cells slots Q ws lv pc (.ref b :: st) := fun H locs ls hP hD hS hl => va_slen C.1 C.2.1 hX hbl hbA hS hd (K H locs ls hP hD hS hl)
theorem x_callL {y : MethodName} {bytes : ByteArray} {maxL n idx fr lo mc ms : Nat} {ret : Option FieldType} {hh : List (Nat × Nat × Nat × Nat)} {X Y Z : va_W} {post : Option Value → va_W → Prop} (As rest : List Value) (C : xC p l s m args meth c cc nL own nm D tys A) (hM : xM l D tys y (ws_H y bytes maxL ret hh) (xRm fr lo mc ms) mc ms As (X ++ Z) post (fun _ _ => False)) (hy : xYH y bytes maxL ret hh n) (hl : Cond.methodLink own idx y ∈ xAll) (hws : ws = X ++ (Y ++ Z)) (hn : As.length = n) (hst : st = As.reverse ++ rest) (hW : (rest.map fun v => v.category).sum ≤ 8) (hf1 : fr + 1 ≤ R.frames) (hf2 : 8 + (maxL + 11) + lo ≤ R.locals) (hc : cells + mc ≤ R.cells) (hs : slots + ms ≤ R.slots) (hd : decode cc pc = .ok (.invokestatic idx, 3))
    (Kr : ∀ (r : Option Value) (w : va_W), post r w → xW p l e R s m args below meth c D A nL (cells + mc) (slots + ms) Q (Y ++ w) lv (pc + 3) (r.toList ++ rest)) : xW p l e R s m args below meth c D A nL cells slots Q ws lv pc st := by
  subst hws
  refine x_perm (List.perm_append_comm_assoc X Y Z) ?_
  exact x_callSH (w1 := Y) (w2 := []) As rest C hM hy hl (by rw [List.append_nil]) hn hst hW hf1 hf2 hc hs hd (fun E w h => h.elim) (fun r w h => by rw [List.append_nil]; exact Kr r w h)
end ZL
set_option maxRecDepth 100000 in
set_option maxHeartbeats 2000000 in
theorem c_0 {p : Program} {l : Launch} {e : Env} {s : State} {m : MethodId} {args : Array Value} {below : List Frame} {meth : Method} {c : Code} {cells slots : Nat} {Q : State → Prop} {nm : String} {g : xGt} {A : Nat → Prop} {b L i : Nat} {xs : Nat → Int32} {ap ad am : Nat → Nat} {ao : Nat} {r : xR} {po : Int32} {pn : Int32} {pl : Int32} {tx : Nat → Int32} {rp : Int32} {rl : Int32} {rs : Int32} {rm : Int32} {rn : Int32} {rz : Int32} {sv : xPl} {mm : xPl} {u : Nat → Int32} {fi : Nat → Int32} {t2 : Nat → Int32} {dm : Nat → Int32} {th : Int32} {sa : Int32} {ln : Int32} {pa : Int32} {le : Int32} {sk : Int32} {nu : Int32} {h : Int64} {fo : Nat → Int64} (C : xC p l s m args meth c cL_law 9 RL nm g.1 (xT g) A) (hX : va_X b L xs s s.heap) (hbl : b < s.heap.size) (hbA : ¬ A b) (hi : i + 6 ≤ L) (hL : L ≤ 3072) (hcC : cells + 40 ≤ room_1.cells) (hsC : slots + 300 ≤ room_1.slots) (H : RI r po pn pl tx sv mm u fi t2 sa ln) (K : LK p l e s m args below meth c g A ap ad am ao b i (cells + 40) (slots + 300) Q) : xW p l e room_1 s m args below meth c g.1 A 9 cells slots Q (wLaw g ap ad am ao r po pn pl tx rp rl rs rm rn rz sv mm u fi t2 dm th sa ln pa le sk nu h fo) [(4, .int (nI i)), (3, .ref ao), (2, .ref (am 0)), (1, .ref (ap 0)), (0, .ref b)] 300 [] := by
  refine x_ws (ws' := ((wOu g ao fo) ++ ((wMo g am u fi t2 dm th sa ln pa le sk nu h) ++ (wCl g ap ad r po pn pl tx rp rl rs rm rn rz sv mm)))) rfl ?_
  refine x_aload_n C 3 rfl rfl dL_law_300 ?_
  refine x_aload_n C 4 rfl rfl dL_law_301 ?_
  refine x_iload C 0 rfl dL_law_302 ?_
  refine x_iconst C 1 (by decide) dL_law_304 ?_
  refine x_iaddN C i 1 rfl rfl dL_law_305 ?_
  refine x_sld C (i + 1) hX hbl hbA rfl (by omega) (by omega) dL_law_306 ?_
  refine x_aload_n C 4 rfl rfl dL_law_307 ?_
  refine x_iload C 0 rfl dL_law_308 ?_
  refine x_iconst C 2 (by decide) dL_law_310 ?_
  refine x_iaddN C i 2 rfl rfl dL_law_311 ?_
  refine x_sld C (i + 2) hX hbl hbA rfl (by omega) (by omega) dL_law_312 ?_
  refine x_aload_n C 1 rfl rfl dL_law_313 ?_
  refine x_callL (X := (wOu g ao fo)) (Y := (wMo g am u fi t2 dm th sa ln pa le sk nu h)) (Z := (wCl g ap ad r po pn pl tx rp rl rs rm rn rz sv mm)) [.ref (ap 0), .int (xs (i + 1)), .int (xs (i + 2)), .ref ao] [] C (k_L_move l g ao fo ap ad r po pn pl tx rp rl rs rm rn rz sv mm (xs (i + 1)) (xs (i + 2)) H.clo) yH_L_move wML_L_148 rfl rfl rfl (nle rfl) (nle rfl) (nle rfl) (rmc hcC (by omega)) (rmc hsC (by omega)) dL_law_314 (fun r0 w0 h0 => ?_)
  have hP := P_move r po pn pl tx rp rl rs rm rn rz sv mm u fi t2 dm th sa ln pa le sk nu h (xs (i + 1)) (xs (i + 2)) H
  rcases h0 with ⟨h1, rfl, w8, hw, rfl⟩ | ⟨E, cd, h1, hcd, rfl, rfl⟩
  · obtain ⟨adn, rfl⟩ := hw
    obtain ⟨e1, e2, e3⟩ := hP.1 h1
    refine x_perm (ws' := ((wOu g ao (vp_updL fo 0 (Int32.toInt64 (r.kp (Int32.toNatClampNeg (xs (i + 1))))))) ++ ((wMo g am u fi t2 dm th sa ln pa le sk nu h) ++ (wCl g ap ad (r.set_kp (upd r.kp (Int32.toNatClampNeg (xs (i + 1))) (xs (i + 2)))) (sp_spo2 po pn) (sp_spn2 pn) pl tx rp rl rs rm rn rz (svS sv adn r po pn) mm)))) (List.perm_append_comm_assoc (wMo g am u fi t2 dm th sa ln pa le sk nu h) (wOu g ao (vp_updL fo 0 (Int32.toInt64 (r.kp (Int32.toNatClampNeg (xs (i + 1))))))) (wCl g ap ad (r.set_kp (upd r.kp (Int32.toNatClampNeg (xs (i + 1))) (xs (i + 2)))) (sp_spo2 po pn) (sp_spn2 pn) pl tx rp rl rs rm rn rz (svS sv adn r po pn) mm)) ?_
    refine x_st (st' := [.int 0]) rfl ?_
    refine x_istore C [(5, .int 0), (4, .int (nI i)), (3, .ref ao), (2, .ref (am 0)), (1, .ref (ap 0)), (0, .ref b)] rfl (by decide) dL_law_317 ?_
    refine x_aload_n C 3 rfl rfl dL_law_319 ?_
    refine x_aload_n C 5 rfl rfl dL_law_320 ?_
    refine x_iload C 1 rfl dL_law_321 ?_
    refine x_iconst C 1 (by decide) dL_law_323 ?_
    refine x_iaddN C i 1 rfl rfl dL_law_324 ?_
    refine x_sld C (i + 1) hX hbl hbA rfl (by omega) (by omega) dL_law_325 ?_
    refine x_aload_n C 5 rfl rfl dL_law_326 ?_
    refine x_iload C 1 rfl dL_law_327 ?_
    refine x_iconst C 2 (by decide) dL_law_329 ?_
    refine x_iaddN C i 2 rfl rfl dL_law_330 ?_
    refine x_sld C (i + 2) hX hbl hbA rfl (by omega) (by omega) dL_law_331 ?_
    refine x_FV (w1 := (wOu g ao (vp_updL fo 0 (Int32.toInt64 (r.kp (Int32.toNatClampNeg (xs (i + 1)))))))) (wc := (wMo g am u fi t2 dm th sa ln pa le sk nu h)) (w2 := (wCl g ap ad (r.set_kp (upd r.kp (Int32.toNatClampNeg (xs (i + 1))) (xs (i + 2)))) (sp_spo2 po pn) (sp_spn2 pn) pl tx rp rl rs rm rn rz (svS sv adn r po pn) mm)) [.int (xs (i + 1)), .int (xs (i + 2))] [] ((wOu g ao (vp_updL fo 0 (Int32.toInt64 (r.kp (Int32.toNatClampNeg (xs (i + 1))))))) ++ ((wMo g am (sp_X7_move_s u sa (xs (i + 1)) (xs (i + 2))) fi t2 dm (sp_X7_move_th (xs (i + 1)) (xs (i + 2))) (sp_X7_move_sa sa (xs (i + 1)) (xs (i + 2))) ln pa le sk nu h) ++ (wCl g ap ad (r.set_kp (upd r.kp (Int32.toNatClampNeg (xs (i + 1))) (xs (i + 2)))) (sp_spo2 po pn) (sp_spn2 pn) pl tx rp rl rs rm rn rz (svS sv adn r po pn) mm))) C (k_X7_move l g am u fi t2 dm th sa ln pa le sk nu h (xs (i + 1)) (xs (i + 2)) H.hs H.hs6 H.hm) rfl yV_X7_move wML_L_153 rfl 1 rfl rfl rfl rfl (nle rfl) (nle rfl) (nle rfl) (rmc hcC (by omega)) (rmc hsC (by omega)) dL_law_332 ?_
    refine x_istore C [(6, .int (sp_X7_move u sa (xs (i + 1)) (xs (i + 2)))), (5, .int 0), (4, .int (nI i)), (3, .ref ao), (2, .ref (am 0)), (1, .ref (ap 0)), (0, .ref b)] rfl (by decide) dL_law_335 ?_
    refine x_aload_n C 4 rfl rfl dL_law_337 ?_
    refine x_FV (w1 := (wOu g ao (vp_updL fo 0 (Int32.toInt64 (r.kp (Int32.toNatClampNeg (xs (i + 1)))))))) (wc := (wMo g am (sp_X7_move_s u sa (xs (i + 1)) (xs (i + 2))) fi t2 dm (sp_X7_move_th (xs (i + 1)) (xs (i + 2))) (sp_X7_move_sa sa (xs (i + 1)) (xs (i + 2))) ln pa le sk nu h)) (w2 := (wCl g ap ad (r.set_kp (upd r.kp (Int32.toNatClampNeg (xs (i + 1))) (xs (i + 2)))) (sp_spo2 po pn) (sp_spn2 pn) pl tx rp rl rs rm rn rz (svS sv adn r po pn) mm)) [] [] ((wOu g ao (vp_updL fo 0 (Int32.toInt64 (r.kp (Int32.toNatClampNeg (xs (i + 1))))))) ++ ((wMo g am (sp_X7_move_s u sa (xs (i + 1)) (xs (i + 2))) fi t2 dm (sp_X7_move_th (xs (i + 1)) (xs (i + 2))) (sp_X7_move_sa sa (xs (i + 1)) (xs (i + 2))) ln pa le sk nu h) ++ (wCl g ap ad (r.set_kp (upd r.kp (Int32.toNatClampNeg (xs (i + 1))) (xs (i + 2)))) (sp_spo2 po pn) (sp_spn2 pn) pl tx rp rl rs rm rn rz (svS sv adn r po pn) mm))) C (k_X7_thrown l g am (sp_X7_move_s u sa (xs (i + 1)) (xs (i + 2))) fi t2 dm (sp_X7_move_th (xs (i + 1)) (xs (i + 2))) (sp_X7_move_sa sa (xs (i + 1)) (xs (i + 2))) ln pa le sk nu h) rfl yV_X7_thrown wML_L_154 rfl 1 rfl rfl rfl rfl (nle rfl) (nle rfl) (nle rfl) (rmc hcC (by omega)) (rmc hsC (by omega)) dL_law_338 ?_
    refine x_iload C 1 rfl dL_law_341 ?_
    refine x_icmp_eq C 348 (by decide) dL_law_343 (fun _ => ?_) (fun hz => absurd e1 hz)
    refine x_iload C 1 rfl dL_law_348 ?_
    refine x_if_ne C 365 (by decide) dL_law_350 (fun hz => absurd (by decide) hz) (fun _ => ?_)
    refine x_aload_n C 3 rfl rfl dL_law_353 ?_
    refine x_iconst C 0 (by decide) dL_law_354 ?_
    refine x_lald (f := (vp_updL fo 0 (Int32.toInt64 (r.kp (Int32.toNatClampNeg (xs (i + 1))))))) C 0 3 rfl rfl in1 dL_law_355 ?_
    refine x_st (st' := [.long (Int32.toInt64 (r.kp (Int32.toNatClampNeg (xs (i + 1)))))]) rfl ?_
    refine x_iload C 0 rfl dL_law_356 ?_
    refine x_i2l C dL_law_358 ?_
    refine x_lcmp C dL_law_359 ?_
    refine x_if_eq C 365 (by decide) dL_law_360 (fun _ => ?_) (fun hz => absurd (lgz (congrArg Int32.toInt64 e2)) hz)
    refine x_goto C 3131 (by decide) dL_law_365 ?_
    refine x_lv [(4, .int (nI i)), (3, .ref ao), (2, .ref (am 0)), (1, .ref (ap 0)), (0, .ref b)] [2, 3, 4, 5, 6] rfl ?_
    refine x_wid (k := cells + 40) (n := slots + 300) (by omega) (by omega) ?_
    exact K (r.set_kp (upd r.kp (Int32.toNatClampNeg (xs (i + 1))) (xs (i + 2)))) (sp_spo2 po pn) (sp_spn2 pn) pl tx rp rl rs rm rn rz (svS sv adn r po pn) mm (sp_X7_move_s u sa (xs (i + 1)) (xs (i + 2))) fi t2 dm (sp_X7_move_th (xs (i + 1)) (xs (i + 2))) (sp_X7_move_sa sa (xs (i + 1)) (xs (i + 2))) ln pa le sk nu h (vp_updL fo 0 (Int32.toInt64 (r.kp (Int32.toNatClampNeg (xs (i + 1)))))) (e3 adn)
  · obtain ⟨e1, e3⟩ := hP.2 E cd h1 hcd
    refine x_perm (ws' := ((wOu g ao fo) ++ ((wMo g am u fi t2 dm th sa ln pa le sk nu h) ++ (wCl g ap ad r po pn pl tx rp rl rs rm rn rz sv mm)))) (List.perm_append_comm_assoc (wMo g am u fi t2 dm th sa ln pa le sk nu h) (wOu g ao fo) (wCl g ap ad r po pn pl tx rp rl rs rm rn rz sv mm)) ?_
    refine x_st (st' := [.int cd]) rfl ?_
    refine x_istore C [(5, .int cd), (4, .int (nI i)), (3, .ref ao), (2, .ref (am 0)), (1, .ref (ap 0)), (0, .ref b)] rfl (by decide) dL_law_317 ?_
    refine x_aload_n C 3 rfl rfl dL_law_319 ?_
    refine x_aload_n C 5 rfl rfl dL_law_320 ?_
    refine x_iload C 1 rfl dL_law_321 ?_
    refine x_iconst C 1 (by decide) dL_law_323 ?_
    refine x_iaddN C i 1 rfl rfl dL_law_324 ?_
    refine x_sld C (i + 1) hX hbl hbA rfl (by omega) (by omega) dL_law_325 ?_
    refine x_aload_n C 5 rfl rfl dL_law_326 ?_
    refine x_iload C 1 rfl dL_law_327 ?_
    refine x_iconst C 2 (by decide) dL_law_329 ?_
    refine x_iaddN C i 2 rfl rfl dL_law_330 ?_
    refine x_sld C (i + 2) hX hbl hbA rfl (by omega) (by omega) dL_law_331 ?_
    refine x_FV (w1 := (wOu g ao fo)) (wc := (wMo g am u fi t2 dm th sa ln pa le sk nu h)) (w2 := (wCl g ap ad r po pn pl tx rp rl rs rm rn rz sv mm)) [.int (xs (i + 1)), .int (xs (i + 2))] [] ((wOu g ao fo) ++ ((wMo g am (sp_X7_move_s u sa (xs (i + 1)) (xs (i + 2))) fi t2 dm (sp_X7_move_th (xs (i + 1)) (xs (i + 2))) (sp_X7_move_sa sa (xs (i + 1)) (xs (i + 2))) ln pa le sk nu h) ++ (wCl g ap ad r po pn pl tx rp rl rs rm rn rz sv mm))) C (k_X7_move l g am u fi t2 dm th sa ln pa le sk nu h (xs (i + 1)) (xs (i + 2)) H.hs H.hs6 H.hm) rfl yV_X7_move wML_L_153 rfl 1 rfl rfl rfl rfl (nle rfl) (nle rfl) (nle rfl) (rmc hcC (by omega)) (rmc hsC (by omega)) dL_law_332 ?_
    refine x_istore C [(6, .int (sp_X7_move u sa (xs (i + 1)) (xs (i + 2)))), (5, .int cd), (4, .int (nI i)), (3, .ref ao), (2, .ref (am 0)), (1, .ref (ap 0)), (0, .ref b)] rfl (by decide) dL_law_335 ?_
    refine x_aload_n C 4 rfl rfl dL_law_337 ?_
    refine x_FV (w1 := (wOu g ao fo)) (wc := (wMo g am (sp_X7_move_s u sa (xs (i + 1)) (xs (i + 2))) fi t2 dm (sp_X7_move_th (xs (i + 1)) (xs (i + 2))) (sp_X7_move_sa sa (xs (i + 1)) (xs (i + 2))) ln pa le sk nu h)) (w2 := (wCl g ap ad r po pn pl tx rp rl rs rm rn rz sv mm)) [] [] ((wOu g ao fo) ++ ((wMo g am (sp_X7_move_s u sa (xs (i + 1)) (xs (i + 2))) fi t2 dm (sp_X7_move_th (xs (i + 1)) (xs (i + 2))) (sp_X7_move_sa sa (xs (i + 1)) (xs (i + 2))) ln pa le sk nu h) ++ (wCl g ap ad r po pn pl tx rp rl rs rm rn rz sv mm))) C (k_X7_thrown l g am (sp_X7_move_s u sa (xs (i + 1)) (xs (i + 2))) fi t2 dm (sp_X7_move_th (xs (i + 1)) (xs (i + 2))) (sp_X7_move_sa sa (xs (i + 1)) (xs (i + 2))) ln pa le sk nu h) rfl yV_X7_thrown wML_L_154 rfl 1 rfl rfl rfl rfl (nle rfl) (nle rfl) (nle rfl) (rmc hcC (by omega)) (rmc hsC (by omega)) dL_law_338 ?_
    refine x_iload C 1 rfl dL_law_341 ?_
    refine x_icmp_eq C 348 (by decide) dL_law_343 (fun _ => ?_) (fun hz => absurd e1 hz)
    refine x_iload C 1 rfl dL_law_348 ?_
    refine x_if_ne C 365 (by decide) dL_law_350 (fun _ => ?_) (fun hz => absurd hz (by rcases hcd with ⟨-, rfl⟩ | ⟨-, rfl⟩ <;> decide))
    refine x_goto C 3131 (by decide) dL_law_365 ?_
    refine x_lv [(4, .int (nI i)), (3, .ref ao), (2, .ref (am 0)), (1, .ref (ap 0)), (0, .ref b)] [2, 3, 4, 5, 6] rfl ?_
    refine x_wid (k := cells + 40) (n := slots + 300) (by omega) (by omega) ?_
    exact K r po pn pl tx rp rl rs rm rn rz sv mm (sp_X7_move_s u sa (xs (i + 1)) (xs (i + 2))) fi t2 dm (sp_X7_move_th (xs (i + 1)) (xs (i + 2))) (sp_X7_move_sa sa (xs (i + 1)) (xs (i + 2))) ln pa le sk nu h fo e3
set_option maxRecDepth 100000 in
set_option maxHeartbeats 2000000 in
theorem c_1 {p : Program} {l : Launch} {e : Env} {s : State} {m : MethodId} {args : Array Value} {below : List Frame} {meth : Method} {c : Code} {cells slots : Nat} {Q : State → Prop} {nm : String} {g : xGt} {A : Nat → Prop} {b L i : Nat} {xs : Nat → Int32} {ap ad am : Nat → Nat} {ao : Nat} {r : xR} {po : Int32} {pn : Int32} {pl : Int32} {tx : Nat → Int32} {rp : Int32} {rl : Int32} {rs : Int32} {rm : Int32} {rn : Int32} {rz : Int32} {sv : xPl} {mm : xPl} {u : Nat → Int32} {fi : Nat → Int32} {t2 : Nat → Int32} {dm : Nat → Int32} {th : Int32} {sa : Int32} {ln : Int32} {pa : Int32} {le : Int32} {sk : Int32} {nu : Int32} {h : Int64} {fo : Nat → Int64} (C : xC p l s m args meth c cL_law 9 RL nm g.1 (xT g) A) (hX : va_X b L xs s s.heap) (hbl : b < s.heap.size) (hbA : ¬ A b) (hi : i + 6 ≤ L) (hL : L ≤ 3072) (hcC : cells + 40 ≤ room_1.cells) (hsC : slots + 300 ≤ room_1.slots) (H : RI r po pn pl tx sv mm u fi t2 sa ln) (K : LK p l e s m args below meth c g A ap ad am ao b i (cells + 40) (slots + 300) Q) : xW p l e room_1 s m args below meth c g.1 A 9 cells slots Q (wLaw g ap ad am ao r po pn pl tx rp rl rs rm rn rz sv mm u fi t2 dm th sa ln pa le sk nu h fo) [(4, .int (nI i)), (3, .ref ao), (2, .ref (am 0)), (1, .ref (ap 0)), (0, .ref b)] 368 [] := by
  refine x_ws (ws' := ((wOu g ao fo) ++ ((wMo g am u fi t2 dm th sa ln pa le sk nu h) ++ (wCl g ap ad r po pn pl tx rp rl rs rm rn rz sv mm)))) rfl ?_
  refine x_aload_n C 3 rfl rfl dL_law_368 ?_
  refine x_aload_n C 4 rfl rfl dL_law_369 ?_
  refine x_iload C 0 rfl dL_law_370 ?_
  refine x_iconst C 1 (by decide) dL_law_372 ?_
  refine x_iaddN C i 1 rfl rfl dL_law_373 ?_
  refine x_sld C (i + 1) hX hbl hbA rfl (by omega) (by omega) dL_law_374 ?_
  refine x_aload_n C 1 rfl rfl dL_law_375 ?_
  refine x_callL (X := (wOu g ao fo)) (Y := (wMo g am u fi t2 dm th sa ln pa le sk nu h)) (Z := (wCl g ap ad r po pn pl tx rp rl rs rm rn rz sv mm)) [.ref (ap 0), .int (xs (i + 1)), .ref ao] [] C (k_L_position l g ao fo ap ad r po pn pl tx rp rl rs rm rn rz sv mm (xs (i + 1)) H.clo) yH_L_position wML_L_157 rfl rfl rfl (nle rfl) (nle rfl) (nle rfl) (rmc hcC (by omega)) (rmc hsC (by omega)) dL_law_376 (fun r0 w0 h0 => ?_)
  have hP := P_position r po pn pl tx rp rl rs rm rn rz sv mm u fi t2 dm th sa ln pa le sk nu h (xs (i + 1)) H
  rcases h0 with ⟨h1, rfl, w8, hw, rfl⟩ | ⟨E, cd, h1, hcd, rfl, rfl⟩
  · obtain rfl := hw
    obtain ⟨e1, e2, e3⟩ := hP.1 h1
    refine x_perm (ws' := ((wOu g ao (vp_updL fo 0 (Int32.toInt64 (r.kp (Int32.toNatClampNeg (xs (i + 1))))))) ++ ((wMo g am u fi t2 dm th sa ln pa le sk nu h) ++ (wCl g ap ad r po pn pl tx rp rl rs rm rn rz sv mm)))) (List.perm_append_comm_assoc (wMo g am u fi t2 dm th sa ln pa le sk nu h) (wOu g ao (vp_updL fo 0 (Int32.toInt64 (r.kp (Int32.toNatClampNeg (xs (i + 1))))))) (wCl g ap ad r po pn pl tx rp rl rs rm rn rz sv mm)) ?_
    refine x_st (st' := [.int 0]) rfl ?_
    refine x_istore C [(5, .int 0), (4, .int (nI i)), (3, .ref ao), (2, .ref (am 0)), (1, .ref (ap 0)), (0, .ref b)] rfl (by decide) dL_law_379 ?_
    refine x_aload_n C 3 rfl rfl dL_law_381 ?_
    refine x_aload_n C 5 rfl rfl dL_law_382 ?_
    refine x_iload C 1 rfl dL_law_383 ?_
    refine x_iconst C 1 (by decide) dL_law_385 ?_
    refine x_iaddN C i 1 rfl rfl dL_law_386 ?_
    refine x_sld C (i + 1) hX hbl hbA rfl (by omega) (by omega) dL_law_387 ?_
    refine x_FV (w1 := (wOu g ao (vp_updL fo 0 (Int32.toInt64 (r.kp (Int32.toNatClampNeg (xs (i + 1)))))))) (wc := (wMo g am u fi t2 dm th sa ln pa le sk nu h)) (w2 := (wCl g ap ad r po pn pl tx rp rl rs rm rn rz sv mm)) [.int (xs (i + 1))] [] ((wOu g ao (vp_updL fo 0 (Int32.toInt64 (r.kp (Int32.toNatClampNeg (xs (i + 1))))))) ++ ((wMo g am u fi t2 dm (sp_X7_position_th (xs (i + 1))) sa ln pa le sk nu h) ++ (wCl g ap ad r po pn pl tx rp rl rs rm rn rz sv mm))) C (k_X7_position l g am u fi t2 dm th sa ln pa le sk nu h (xs (i + 1)) H.hs H.hs6 H.hm) rfl yV_X7_position wML_L_160 rfl 1 rfl rfl rfl rfl (nle rfl) (nle rfl) (nle rfl) (rmc hcC (by omega)) (rmc hsC (by omega)) dL_law_388 ?_
    refine x_istore C [(6, .int (sp_X7_position u (xs (i + 1)))), (5, .int 0), (4, .int (nI i)), (3, .ref ao), (2, .ref (am 0)), (1, .ref (ap 0)), (0, .ref b)] rfl (by decide) dL_law_391 ?_
    refine x_aload_n C 4 rfl rfl dL_law_393 ?_
    refine x_FV (w1 := (wOu g ao (vp_updL fo 0 (Int32.toInt64 (r.kp (Int32.toNatClampNeg (xs (i + 1)))))))) (wc := (wMo g am u fi t2 dm (sp_X7_position_th (xs (i + 1))) sa ln pa le sk nu h)) (w2 := (wCl g ap ad r po pn pl tx rp rl rs rm rn rz sv mm)) [] [] ((wOu g ao (vp_updL fo 0 (Int32.toInt64 (r.kp (Int32.toNatClampNeg (xs (i + 1))))))) ++ ((wMo g am u fi t2 dm (sp_X7_position_th (xs (i + 1))) sa ln pa le sk nu h) ++ (wCl g ap ad r po pn pl tx rp rl rs rm rn rz sv mm))) C (k_X7_thrown l g am u fi t2 dm (sp_X7_position_th (xs (i + 1))) sa ln pa le sk nu h) rfl yV_X7_thrown wML_L_154 rfl 1 rfl rfl rfl rfl (nle rfl) (nle rfl) (nle rfl) (rmc hcC (by omega)) (rmc hsC (by omega)) dL_law_394 ?_
    refine x_iload C 1 rfl dL_law_397 ?_
    refine x_icmp_eq C 404 (by decide) dL_law_399 (fun _ => ?_) (fun hz => absurd e1 hz)
    refine x_iload C 1 rfl dL_law_404 ?_
    refine x_if_ne C 421 (by decide) dL_law_406 (fun hz => absurd (by decide) hz) (fun _ => ?_)
    refine x_aload_n C 3 rfl rfl dL_law_409 ?_
    refine x_iconst C 0 (by decide) dL_law_410 ?_
    refine x_lald (f := (vp_updL fo 0 (Int32.toInt64 (r.kp (Int32.toNatClampNeg (xs (i + 1))))))) C 0 3 rfl rfl in1 dL_law_411 ?_
    refine x_st (st' := [.long (Int32.toInt64 (r.kp (Int32.toNatClampNeg (xs (i + 1)))))]) rfl ?_
    refine x_iload C 0 rfl dL_law_412 ?_
    refine x_i2l C dL_law_414 ?_
    refine x_lcmp C dL_law_415 ?_
    refine x_if_eq C 421 (by decide) dL_law_416 (fun _ => ?_) (fun hz => absurd (lgz (congrArg Int32.toInt64 e2)) hz)
    refine x_goto C 3131 (by decide) dL_law_421 ?_
    refine x_lv [(4, .int (nI i)), (3, .ref ao), (2, .ref (am 0)), (1, .ref (ap 0)), (0, .ref b)] [2, 3, 4, 5, 6] rfl ?_
    refine x_wid (k := cells + 40) (n := slots + 300) (by omega) (by omega) ?_
    exact K r po pn pl tx rp rl rs rm rn rz sv mm u fi t2 dm (sp_X7_position_th (xs (i + 1))) sa ln pa le sk nu h (vp_updL fo 0 (Int32.toInt64 (r.kp (Int32.toNatClampNeg (xs (i + 1)))))) e3
  · obtain ⟨e1, e3⟩ := hP.2 E cd h1 hcd
    refine x_perm (ws' := ((wOu g ao fo) ++ ((wMo g am u fi t2 dm th sa ln pa le sk nu h) ++ (wCl g ap ad r po pn pl tx rp rl rs rm rn rz sv mm)))) (List.perm_append_comm_assoc (wMo g am u fi t2 dm th sa ln pa le sk nu h) (wOu g ao fo) (wCl g ap ad r po pn pl tx rp rl rs rm rn rz sv mm)) ?_
    refine x_st (st' := [.int cd]) rfl ?_
    refine x_istore C [(5, .int cd), (4, .int (nI i)), (3, .ref ao), (2, .ref (am 0)), (1, .ref (ap 0)), (0, .ref b)] rfl (by decide) dL_law_379 ?_
    refine x_aload_n C 3 rfl rfl dL_law_381 ?_
    refine x_aload_n C 5 rfl rfl dL_law_382 ?_
    refine x_iload C 1 rfl dL_law_383 ?_
    refine x_iconst C 1 (by decide) dL_law_385 ?_
    refine x_iaddN C i 1 rfl rfl dL_law_386 ?_
    refine x_sld C (i + 1) hX hbl hbA rfl (by omega) (by omega) dL_law_387 ?_
    refine x_FV (w1 := (wOu g ao fo)) (wc := (wMo g am u fi t2 dm th sa ln pa le sk nu h)) (w2 := (wCl g ap ad r po pn pl tx rp rl rs rm rn rz sv mm)) [.int (xs (i + 1))] [] ((wOu g ao fo) ++ ((wMo g am u fi t2 dm (sp_X7_position_th (xs (i + 1))) sa ln pa le sk nu h) ++ (wCl g ap ad r po pn pl tx rp rl rs rm rn rz sv mm))) C (k_X7_position l g am u fi t2 dm th sa ln pa le sk nu h (xs (i + 1)) H.hs H.hs6 H.hm) rfl yV_X7_position wML_L_160 rfl 1 rfl rfl rfl rfl (nle rfl) (nle rfl) (nle rfl) (rmc hcC (by omega)) (rmc hsC (by omega)) dL_law_388 ?_
    refine x_istore C [(6, .int (sp_X7_position u (xs (i + 1)))), (5, .int cd), (4, .int (nI i)), (3, .ref ao), (2, .ref (am 0)), (1, .ref (ap 0)), (0, .ref b)] rfl (by decide) dL_law_391 ?_
    refine x_aload_n C 4 rfl rfl dL_law_393 ?_
    refine x_FV (w1 := (wOu g ao fo)) (wc := (wMo g am u fi t2 dm (sp_X7_position_th (xs (i + 1))) sa ln pa le sk nu h)) (w2 := (wCl g ap ad r po pn pl tx rp rl rs rm rn rz sv mm)) [] [] ((wOu g ao fo) ++ ((wMo g am u fi t2 dm (sp_X7_position_th (xs (i + 1))) sa ln pa le sk nu h) ++ (wCl g ap ad r po pn pl tx rp rl rs rm rn rz sv mm))) C (k_X7_thrown l g am u fi t2 dm (sp_X7_position_th (xs (i + 1))) sa ln pa le sk nu h) rfl yV_X7_thrown wML_L_154 rfl 1 rfl rfl rfl rfl (nle rfl) (nle rfl) (nle rfl) (rmc hcC (by omega)) (rmc hsC (by omega)) dL_law_394 ?_
    refine x_iload C 1 rfl dL_law_397 ?_
    refine x_icmp_eq C 404 (by decide) dL_law_399 (fun _ => ?_) (fun hz => absurd e1 hz)
    refine x_iload C 1 rfl dL_law_404 ?_
    refine x_if_ne C 421 (by decide) dL_law_406 (fun _ => ?_) (fun hz => absurd hz (cd0 hcd))
    refine x_goto C 3131 (by decide) dL_law_421 ?_
    refine x_lv [(4, .int (nI i)), (3, .ref ao), (2, .ref (am 0)), (1, .ref (ap 0)), (0, .ref b)] [2, 3, 4, 5, 6] rfl ?_
    refine x_wid (k := cells + 40) (n := slots + 300) (by omega) (by omega) ?_
    exact K r po pn pl tx rp rl rs rm rn rz sv mm u fi t2 dm (sp_X7_position_th (xs (i + 1))) sa ln pa le sk nu h fo e3
set_option maxRecDepth 100000 in
set_option maxHeartbeats 2000000 in
theorem c_2 {p : Program} {l : Launch} {e : Env} {s : State} {m : MethodId} {args : Array Value} {below : List Frame} {meth : Method} {c : Code} {cells slots : Nat} {Q : State → Prop} {nm : String} {g : xGt} {A : Nat → Prop} {b L i : Nat} {xs : Nat → Int32} {ap ad am : Nat → Nat} {ao : Nat} {r : xR} {po : Int32} {pn : Int32} {pl : Int32} {tx : Nat → Int32} {rp : Int32} {rl : Int32} {rs : Int32} {rm : Int32} {rn : Int32} {rz : Int32} {sv : xPl} {mm : xPl} {u : Nat → Int32} {fi : Nat → Int32} {t2 : Nat → Int32} {dm : Nat → Int32} {th : Int32} {sa : Int32} {ln : Int32} {pa : Int32} {le : Int32} {sk : Int32} {nu : Int32} {h : Int64} {fo : Nat → Int64} (C : xC p l s m args meth c cL_law 9 RL nm g.1 (xT g) A) (hX : va_X b L xs s s.heap) (hbl : b < s.heap.size) (hbA : ¬ A b) (hi : i + 6 ≤ L) (hL : L ≤ 3072) (hcC : cells + 40 ≤ room_1.cells) (hsC : slots + 300 ≤ room_1.slots) (H : RI r po pn pl tx sv mm u fi t2 sa ln) (K : LK p l e s m args below meth c g A ap ad am ao b i (cells + 40) (slots + 300) Q) : xW p l e room_1 s m args below meth c g.1 A 9 cells slots Q (wLaw g ap ad am ao r po pn pl tx rp rl rs rm rn rz sv mm u fi t2 dm th sa ln pa le sk nu h fo) [(4, .int (nI i)), (3, .ref ao), (2, .ref (am 0)), (1, .ref (ap 0)), (0, .ref b)] 424 [] := by
  refine x_ws (ws' := ((wOu g ao fo) ++ ((wMo g am u fi t2 dm th sa ln pa le sk nu h) ++ (wCl g ap ad r po pn pl tx rp rl rs rm rn rz sv mm)))) rfl ?_
  refine x_aload_n C 3 rfl rfl dL_law_424 ?_
  refine x_aload_n C 4 rfl rfl dL_law_425 ?_
  refine x_iload C 0 rfl dL_law_426 ?_
  refine x_iconst C 1 (by decide) dL_law_428 ?_
  refine x_iaddN C i 1 rfl rfl dL_law_429 ?_
  refine x_sld C (i + 1) hX hbl hbA rfl (by omega) (by omega) dL_law_430 ?_
  refine x_aload_n C 4 rfl rfl dL_law_431 ?_
  refine x_iload C 0 rfl dL_law_432 ?_
  refine x_iconst C 2 (by decide) dL_law_434 ?_
  refine x_iaddN C i 2 rfl rfl dL_law_435 ?_
  refine x_sld C (i + 2) hX hbl hbA rfl (by omega) (by omega) dL_law_436 ?_
  refine x_aload_n C 1 rfl rfl dL_law_437 ?_
  refine x_callL (X := (wOu g ao fo)) (Y := (wMo g am u fi t2 dm th sa ln pa le sk nu h)) (Z := (wCl g ap ad r po pn pl tx rp rl rs rm rn rz sv mm)) [.ref (ap 0), .int (xs (i + 1)), .int (xs (i + 2)), .ref ao] [] C (k_L_setTrim l g ao fo ap ad r po pn pl tx rp rl rs rm rn rz sv mm (xs (i + 1)) (xs (i + 2)) H.clo) yH_L_setTrim wML_L_161 rfl rfl rfl (nle rfl) (nle rfl) (nle rfl) (rmc hcC (by omega)) (rmc hsC (by omega)) dL_law_438 (fun r0 w0 h0 => ?_)
  have hP := P_setTrim r po pn pl tx rp rl rs rm rn rz sv mm u fi t2 dm th sa ln pa le sk nu h (xs (i + 1)) (xs (i + 2)) H
  rcases h0 with ⟨h1, rfl, w8, hw, rfl⟩ | ⟨E, cd, h1, hcd, rfl, rfl⟩
  · obtain ⟨adn, rfl⟩ := hw
    obtain ⟨e1, e2, e3⟩ := hP.1 h1
    refine x_perm (ws' := ((wOu g ao (vp_updL fo 0 (Int32.toInt64 (r.kt (slN r.kh (Int32.toNatClampNeg (xs (i + 1)))))))) ++ ((wMo g am u fi t2 dm th sa ln pa le sk nu h) ++ (wCl g ap ad (r.set_kt (upd r.kt (slN r.kh (Int32.toNatClampNeg (xs (i + 1)))) (xs (i + 2)))) (sp_spo2 po pn) (sp_spn2 pn) pl tx rp rl rs rm rn rz (svS sv adn r po pn) mm)))) (List.perm_append_comm_assoc (wMo g am u fi t2 dm th sa ln pa le sk nu h) (wOu g ao (vp_updL fo 0 (Int32.toInt64 (r.kt (slN r.kh (Int32.toNatClampNeg (xs (i + 1)))))))) (wCl g ap ad (r.set_kt (upd r.kt (slN r.kh (Int32.toNatClampNeg (xs (i + 1)))) (xs (i + 2)))) (sp_spo2 po pn) (sp_spn2 pn) pl tx rp rl rs rm rn rz (svS sv adn r po pn) mm)) ?_
    refine x_st (st' := [.int 0]) rfl ?_
    refine x_istore C [(5, .int 0), (4, .int (nI i)), (3, .ref ao), (2, .ref (am 0)), (1, .ref (ap 0)), (0, .ref b)] rfl (by decide) dL_law_441 ?_
    refine x_aload_n C 3 rfl rfl dL_law_443 ?_
    refine x_aload_n C 5 rfl rfl dL_law_444 ?_
    refine x_iload C 1 rfl dL_law_445 ?_
    refine x_iconst C 1 (by decide) dL_law_447 ?_
    refine x_iaddN C i 1 rfl rfl dL_law_448 ?_
    refine x_sld C (i + 1) hX hbl hbA rfl (by omega) (by omega) dL_law_449 ?_
    refine x_aload_n C 5 rfl rfl dL_law_450 ?_
    refine x_iload C 1 rfl dL_law_451 ?_
    refine x_iconst C 2 (by decide) dL_law_453 ?_
    refine x_iaddN C i 2 rfl rfl dL_law_454 ?_
    refine x_sld C (i + 2) hX hbl hbA rfl (by omega) (by omega) dL_law_455 ?_
    refine x_FV (w1 := (wOu g ao (vp_updL fo 0 (Int32.toInt64 (r.kt (slN r.kh (Int32.toNatClampNeg (xs (i + 1))))))))) (wc := (wMo g am u fi t2 dm th sa ln pa le sk nu h)) (w2 := (wCl g ap ad (r.set_kt (upd r.kt (slN r.kh (Int32.toNatClampNeg (xs (i + 1)))) (xs (i + 2)))) (sp_spo2 po pn) (sp_spn2 pn) pl tx rp rl rs rm rn rz (svS sv adn r po pn) mm)) [.int (xs (i + 1)), .int (xs (i + 2))] [] ((wOu g ao (vp_updL fo 0 (Int32.toInt64 (r.kt (slN r.kh (Int32.toNatClampNeg (xs (i + 1)))))))) ++ ((wMo g am (sp_X7_setTrim_s u sa (xs (i + 1)) (xs (i + 2))) fi t2 dm (sp_X7_setTrim_th (xs (i + 1)) (xs (i + 2))) (sp_X7_setTrim_sa sa (xs (i + 1)) (xs (i + 2))) ln pa le sk nu h) ++ (wCl g ap ad (r.set_kt (upd r.kt (slN r.kh (Int32.toNatClampNeg (xs (i + 1)))) (xs (i + 2)))) (sp_spo2 po pn) (sp_spn2 pn) pl tx rp rl rs rm rn rz (svS sv adn r po pn) mm))) C (k_X7_setTrim l g am u fi t2 dm th sa ln pa le sk nu h (xs (i + 1)) (xs (i + 2)) H.hs H.hs6 H.hm) rfl yV_X7_setTrim wML_L_163 rfl 1 rfl rfl rfl rfl (nle rfl) (nle rfl) (nle rfl) (rmc hcC (by omega)) (rmc hsC (by omega)) dL_law_456 ?_
    refine x_istore C [(6, .int (sp_X7_setTrim u sa (xs (i + 1)) (xs (i + 2)))), (5, .int 0), (4, .int (nI i)), (3, .ref ao), (2, .ref (am 0)), (1, .ref (ap 0)), (0, .ref b)] rfl (by decide) dL_law_459 ?_
    refine x_aload_n C 4 rfl rfl dL_law_461 ?_
    refine x_FV (w1 := (wOu g ao (vp_updL fo 0 (Int32.toInt64 (r.kt (slN r.kh (Int32.toNatClampNeg (xs (i + 1))))))))) (wc := (wMo g am (sp_X7_setTrim_s u sa (xs (i + 1)) (xs (i + 2))) fi t2 dm (sp_X7_setTrim_th (xs (i + 1)) (xs (i + 2))) (sp_X7_setTrim_sa sa (xs (i + 1)) (xs (i + 2))) ln pa le sk nu h)) (w2 := (wCl g ap ad (r.set_kt (upd r.kt (slN r.kh (Int32.toNatClampNeg (xs (i + 1)))) (xs (i + 2)))) (sp_spo2 po pn) (sp_spn2 pn) pl tx rp rl rs rm rn rz (svS sv adn r po pn) mm)) [] [] ((wOu g ao (vp_updL fo 0 (Int32.toInt64 (r.kt (slN r.kh (Int32.toNatClampNeg (xs (i + 1)))))))) ++ ((wMo g am (sp_X7_setTrim_s u sa (xs (i + 1)) (xs (i + 2))) fi t2 dm (sp_X7_setTrim_th (xs (i + 1)) (xs (i + 2))) (sp_X7_setTrim_sa sa (xs (i + 1)) (xs (i + 2))) ln pa le sk nu h) ++ (wCl g ap ad (r.set_kt (upd r.kt (slN r.kh (Int32.toNatClampNeg (xs (i + 1)))) (xs (i + 2)))) (sp_spo2 po pn) (sp_spn2 pn) pl tx rp rl rs rm rn rz (svS sv adn r po pn) mm))) C (k_X7_thrown l g am (sp_X7_setTrim_s u sa (xs (i + 1)) (xs (i + 2))) fi t2 dm (sp_X7_setTrim_th (xs (i + 1)) (xs (i + 2))) (sp_X7_setTrim_sa sa (xs (i + 1)) (xs (i + 2))) ln pa le sk nu h) rfl yV_X7_thrown wML_L_154 rfl 1 rfl rfl rfl rfl (nle rfl) (nle rfl) (nle rfl) (rmc hcC (by omega)) (rmc hsC (by omega)) dL_law_462 ?_
    refine x_iload C 1 rfl dL_law_465 ?_
    refine x_icmp_eq C 472 (by decide) dL_law_467 (fun _ => ?_) (fun hz => absurd e1 hz)
    refine x_iload C 1 rfl dL_law_472 ?_
    refine x_if_ne C 489 (by decide) dL_law_474 (fun hz => absurd (by decide) hz) (fun _ => ?_)
    refine x_aload_n C 3 rfl rfl dL_law_477 ?_
    refine x_iconst C 0 (by decide) dL_law_478 ?_
    refine x_lald (f := (vp_updL fo 0 (Int32.toInt64 (r.kt (slN r.kh (Int32.toNatClampNeg (xs (i + 1)))))))) C 0 3 rfl rfl in1 dL_law_479 ?_
    refine x_st (st' := [.long (Int32.toInt64 (r.kt (slN r.kh (Int32.toNatClampNeg (xs (i + 1))))))]) rfl ?_
    refine x_iload C 0 rfl dL_law_480 ?_
    refine x_i2l C dL_law_482 ?_
    refine x_lcmp C dL_law_483 ?_
    refine x_if_eq C 489 (by decide) dL_law_484 (fun _ => ?_) (fun hz => absurd (lgz (congrArg Int32.toInt64 e2)) hz)
    refine x_goto C 3131 (by decide) dL_law_489 ?_
    refine x_lv [(4, .int (nI i)), (3, .ref ao), (2, .ref (am 0)), (1, .ref (ap 0)), (0, .ref b)] [2, 3, 4, 5, 6] rfl ?_
    refine x_wid (k := cells + 40) (n := slots + 300) (by omega) (by omega) ?_
    exact K (r.set_kt (upd r.kt (slN r.kh (Int32.toNatClampNeg (xs (i + 1)))) (xs (i + 2)))) (sp_spo2 po pn) (sp_spn2 pn) pl tx rp rl rs rm rn rz (svS sv adn r po pn) mm (sp_X7_setTrim_s u sa (xs (i + 1)) (xs (i + 2))) fi t2 dm (sp_X7_setTrim_th (xs (i + 1)) (xs (i + 2))) (sp_X7_setTrim_sa sa (xs (i + 1)) (xs (i + 2))) ln pa le sk nu h (vp_updL fo 0 (Int32.toInt64 (r.kt (slN r.kh (Int32.toNatClampNeg (xs (i + 1))))))) (e3 adn)
  · obtain ⟨e1, e3⟩ := hP.2 E cd h1 hcd
    refine x_perm (ws' := ((wOu g ao fo) ++ ((wMo g am u fi t2 dm th sa ln pa le sk nu h) ++ (wCl g ap ad r po pn pl tx rp rl rs rm rn rz sv mm)))) (List.perm_append_comm_assoc (wMo g am u fi t2 dm th sa ln pa le sk nu h) (wOu g ao fo) (wCl g ap ad r po pn pl tx rp rl rs rm rn rz sv mm)) ?_
    refine x_st (st' := [.int cd]) rfl ?_
    refine x_istore C [(5, .int cd), (4, .int (nI i)), (3, .ref ao), (2, .ref (am 0)), (1, .ref (ap 0)), (0, .ref b)] rfl (by decide) dL_law_441 ?_
    refine x_aload_n C 3 rfl rfl dL_law_443 ?_
    refine x_aload_n C 5 rfl rfl dL_law_444 ?_
    refine x_iload C 1 rfl dL_law_445 ?_
    refine x_iconst C 1 (by decide) dL_law_447 ?_
    refine x_iaddN C i 1 rfl rfl dL_law_448 ?_
    refine x_sld C (i + 1) hX hbl hbA rfl (by omega) (by omega) dL_law_449 ?_
    refine x_aload_n C 5 rfl rfl dL_law_450 ?_
    refine x_iload C 1 rfl dL_law_451 ?_
    refine x_iconst C 2 (by decide) dL_law_453 ?_
    refine x_iaddN C i 2 rfl rfl dL_law_454 ?_
    refine x_sld C (i + 2) hX hbl hbA rfl (by omega) (by omega) dL_law_455 ?_
    refine x_FV (w1 := (wOu g ao fo)) (wc := (wMo g am u fi t2 dm th sa ln pa le sk nu h)) (w2 := (wCl g ap ad r po pn pl tx rp rl rs rm rn rz sv mm)) [.int (xs (i + 1)), .int (xs (i + 2))] [] ((wOu g ao fo) ++ ((wMo g am (sp_X7_setTrim_s u sa (xs (i + 1)) (xs (i + 2))) fi t2 dm (sp_X7_setTrim_th (xs (i + 1)) (xs (i + 2))) (sp_X7_setTrim_sa sa (xs (i + 1)) (xs (i + 2))) ln pa le sk nu h) ++ (wCl g ap ad r po pn pl tx rp rl rs rm rn rz sv mm))) C (k_X7_setTrim l g am u fi t2 dm th sa ln pa le sk nu h (xs (i + 1)) (xs (i + 2)) H.hs H.hs6 H.hm) rfl yV_X7_setTrim wML_L_163 rfl 1 rfl rfl rfl rfl (nle rfl) (nle rfl) (nle rfl) (rmc hcC (by omega)) (rmc hsC (by omega)) dL_law_456 ?_
    refine x_istore C [(6, .int (sp_X7_setTrim u sa (xs (i + 1)) (xs (i + 2)))), (5, .int cd), (4, .int (nI i)), (3, .ref ao), (2, .ref (am 0)), (1, .ref (ap 0)), (0, .ref b)] rfl (by decide) dL_law_459 ?_
    refine x_aload_n C 4 rfl rfl dL_law_461 ?_
    refine x_FV (w1 := (wOu g ao fo)) (wc := (wMo g am (sp_X7_setTrim_s u sa (xs (i + 1)) (xs (i + 2))) fi t2 dm (sp_X7_setTrim_th (xs (i + 1)) (xs (i + 2))) (sp_X7_setTrim_sa sa (xs (i + 1)) (xs (i + 2))) ln pa le sk nu h)) (w2 := (wCl g ap ad r po pn pl tx rp rl rs rm rn rz sv mm)) [] [] ((wOu g ao fo) ++ ((wMo g am (sp_X7_setTrim_s u sa (xs (i + 1)) (xs (i + 2))) fi t2 dm (sp_X7_setTrim_th (xs (i + 1)) (xs (i + 2))) (sp_X7_setTrim_sa sa (xs (i + 1)) (xs (i + 2))) ln pa le sk nu h) ++ (wCl g ap ad r po pn pl tx rp rl rs rm rn rz sv mm))) C (k_X7_thrown l g am (sp_X7_setTrim_s u sa (xs (i + 1)) (xs (i + 2))) fi t2 dm (sp_X7_setTrim_th (xs (i + 1)) (xs (i + 2))) (sp_X7_setTrim_sa sa (xs (i + 1)) (xs (i + 2))) ln pa le sk nu h) rfl yV_X7_thrown wML_L_154 rfl 1 rfl rfl rfl rfl (nle rfl) (nle rfl) (nle rfl) (rmc hcC (by omega)) (rmc hsC (by omega)) dL_law_462 ?_
    refine x_iload C 1 rfl dL_law_465 ?_
    refine x_icmp_eq C 472 (by decide) dL_law_467 (fun _ => ?_) (fun hz => absurd e1 hz)
    refine x_iload C 1 rfl dL_law_472 ?_
    refine x_if_ne C 489 (by decide) dL_law_474 (fun _ => ?_) (fun hz => absurd hz (by rcases hcd with ⟨-, rfl⟩ | ⟨-, rfl⟩ <;> decide))
    refine x_goto C 3131 (by decide) dL_law_489 ?_
    refine x_lv [(4, .int (nI i)), (3, .ref ao), (2, .ref (am 0)), (1, .ref (ap 0)), (0, .ref b)] [2, 3, 4, 5, 6] rfl ?_
    refine x_wid (k := cells + 40) (n := slots + 300) (by omega) (by omega) ?_
    exact K r po pn pl tx rp rl rs rm rn rz sv mm (sp_X7_setTrim_s u sa (xs (i + 1)) (xs (i + 2))) fi t2 dm (sp_X7_setTrim_th (xs (i + 1)) (xs (i + 2))) (sp_X7_setTrim_sa sa (xs (i + 1)) (xs (i + 2))) ln pa le sk nu h fo e3
set_option maxRecDepth 100000 in
set_option maxHeartbeats 2000000 in
theorem c_3 {p : Program} {l : Launch} {e : Env} {s : State} {m : MethodId} {args : Array Value} {below : List Frame} {meth : Method} {c : Code} {cells slots : Nat} {Q : State → Prop} {nm : String} {g : xGt} {A : Nat → Prop} {b L i : Nat} {xs : Nat → Int32} {ap ad am : Nat → Nat} {ao : Nat} {r : xR} {po : Int32} {pn : Int32} {pl : Int32} {tx : Nat → Int32} {rp : Int32} {rl : Int32} {rs : Int32} {rm : Int32} {rn : Int32} {rz : Int32} {sv : xPl} {mm : xPl} {u : Nat → Int32} {fi : Nat → Int32} {t2 : Nat → Int32} {dm : Nat → Int32} {th : Int32} {sa : Int32} {ln : Int32} {pa : Int32} {le : Int32} {sk : Int32} {nu : Int32} {h : Int64} {fo : Nat → Int64} (C : xC p l s m args meth c cL_law 9 RL nm g.1 (xT g) A) (hX : va_X b L xs s s.heap) (hbl : b < s.heap.size) (hbA : ¬ A b) (hi : i + 6 ≤ L) (hL : L ≤ 3072) (hcC : cells + 40 ≤ room_1.cells) (hsC : slots + 300 ≤ room_1.slots) (H : RI r po pn pl tx sv mm u fi t2 sa ln) (K : LK p l e s m args below meth c g A ap ad am ao b i (cells + 40) (slots + 300) Q) : xW p l e room_1 s m args below meth c g.1 A 9 cells slots Q (wLaw g ap ad am ao r po pn pl tx rp rl rs rm rn rz sv mm u fi t2 dm th sa ln pa le sk nu h fo) [(4, .int (nI i)), (3, .ref ao), (2, .ref (am 0)), (1, .ref (ap 0)), (0, .ref b)] 492 [] := by
  refine x_ws (ws' := ((wOu g ao fo) ++ ((wMo g am u fi t2 dm th sa ln pa le sk nu h) ++ (wCl g ap ad r po pn pl tx rp rl rs rm rn rz sv mm)))) rfl ?_
  refine x_aload_n C 3 rfl rfl dL_law_492 ?_
  refine x_aload_n C 4 rfl rfl dL_law_493 ?_
  refine x_iload C 0 rfl dL_law_494 ?_
  refine x_iconst C 1 (by decide) dL_law_496 ?_
  refine x_iaddN C i 1 rfl rfl dL_law_497 ?_
  refine x_sld C (i + 1) hX hbl hbA rfl (by omega) (by omega) dL_law_498 ?_
  refine x_aload_n C 1 rfl rfl dL_law_499 ?_
  refine x_callL (X := (wOu g ao fo)) (Y := (wMo g am u fi t2 dm th sa ln pa le sk nu h)) (Z := (wCl g ap ad r po pn pl tx rp rl rs rm rn rz sv mm)) [.ref (ap 0), .int (xs (i + 1)), .ref ao] [] C (k_L_trim l g ao fo ap ad r po pn pl tx rp rl rs rm rn rz sv mm (xs (i + 1)) H.clo) yH_L_trim wML_L_164 rfl rfl rfl (nle rfl) (nle rfl) (nle rfl) (rmc hcC (by omega)) (rmc hsC (by omega)) dL_law_500 (fun r0 w0 h0 => ?_)
  have hP := P_trim r po pn pl tx rp rl rs rm rn rz sv mm u fi t2 dm th sa ln pa le sk nu h (xs (i + 1)) H
  rcases h0 with ⟨h1, rfl, w8, hw, rfl⟩ | ⟨E, cd, h1, hcd, rfl, rfl⟩
  · obtain rfl := hw
    obtain ⟨e1, e2, e3⟩ := hP.1 h1
    refine x_perm (ws' := ((wOu g ao (vp_updL fo 0 (Int32.toInt64 (r.kt (slN r.kh (Int32.toNatClampNeg (xs (i + 1)))))))) ++ ((wMo g am u fi t2 dm th sa ln pa le sk nu h) ++ (wCl g ap ad r po pn pl tx rp rl rs rm rn rz sv mm)))) (List.perm_append_comm_assoc (wMo g am u fi t2 dm th sa ln pa le sk nu h) (wOu g ao (vp_updL fo 0 (Int32.toInt64 (r.kt (slN r.kh (Int32.toNatClampNeg (xs (i + 1)))))))) (wCl g ap ad r po pn pl tx rp rl rs rm rn rz sv mm)) ?_
    refine x_st (st' := [.int 0]) rfl ?_
    refine x_istore C [(5, .int 0), (4, .int (nI i)), (3, .ref ao), (2, .ref (am 0)), (1, .ref (ap 0)), (0, .ref b)] rfl (by decide) dL_law_503 ?_
    refine x_aload_n C 3 rfl rfl dL_law_505 ?_
    refine x_aload_n C 5 rfl rfl dL_law_506 ?_
    refine x_iload C 1 rfl dL_law_507 ?_
    refine x_iconst C 1 (by decide) dL_law_509 ?_
    refine x_iaddN C i 1 rfl rfl dL_law_510 ?_
    refine x_sld C (i + 1) hX hbl hbA rfl (by omega) (by omega) dL_law_511 ?_
    refine x_FV (w1 := (wOu g ao (vp_updL fo 0 (Int32.toInt64 (r.kt (slN r.kh (Int32.toNatClampNeg (xs (i + 1))))))))) (wc := (wMo g am u fi t2 dm th sa ln pa le sk nu h)) (w2 := (wCl g ap ad r po pn pl tx rp rl rs rm rn rz sv mm)) [.int (xs (i + 1))] [] ((wOu g ao (vp_updL fo 0 (Int32.toInt64 (r.kt (slN r.kh (Int32.toNatClampNeg (xs (i + 1)))))))) ++ ((wMo g am u fi t2 dm (sp_X7_trim_th (xs (i + 1))) sa ln pa le sk nu h) ++ (wCl g ap ad r po pn pl tx rp rl rs rm rn rz sv mm))) C (k_X7_trim l g am u fi t2 dm th sa ln pa le sk nu h (xs (i + 1)) H.hs H.hs6 H.hm) rfl yV_X7_trim wML_L_166 rfl 1 rfl rfl rfl rfl (nle rfl) (nle rfl) (nle rfl) (rmc hcC (by omega)) (rmc hsC (by omega)) dL_law_512 ?_
    refine x_istore C [(6, .int (sp_X7_trim u (xs (i + 1)))), (5, .int 0), (4, .int (nI i)), (3, .ref ao), (2, .ref (am 0)), (1, .ref (ap 0)), (0, .ref b)] rfl (by decide) dL_law_515 ?_
    refine x_aload_n C 4 rfl rfl dL_law_517 ?_
    refine x_FV (w1 := (wOu g ao (vp_updL fo 0 (Int32.toInt64 (r.kt (slN r.kh (Int32.toNatClampNeg (xs (i + 1))))))))) (wc := (wMo g am u fi t2 dm (sp_X7_trim_th (xs (i + 1))) sa ln pa le sk nu h)) (w2 := (wCl g ap ad r po pn pl tx rp rl rs rm rn rz sv mm)) [] [] ((wOu g ao (vp_updL fo 0 (Int32.toInt64 (r.kt (slN r.kh (Int32.toNatClampNeg (xs (i + 1)))))))) ++ ((wMo g am u fi t2 dm (sp_X7_trim_th (xs (i + 1))) sa ln pa le sk nu h) ++ (wCl g ap ad r po pn pl tx rp rl rs rm rn rz sv mm))) C (k_X7_thrown l g am u fi t2 dm (sp_X7_trim_th (xs (i + 1))) sa ln pa le sk nu h) rfl yV_X7_thrown wML_L_154 rfl 1 rfl rfl rfl rfl (nle rfl) (nle rfl) (nle rfl) (rmc hcC (by omega)) (rmc hsC (by omega)) dL_law_518 ?_
    refine x_iload C 1 rfl dL_law_521 ?_
    refine x_icmp_eq C 528 (by decide) dL_law_523 (fun _ => ?_) (fun hz => absurd e1 hz)
    refine x_iload C 1 rfl dL_law_528 ?_
    refine x_if_ne C 545 (by decide) dL_law_530 (fun hz => absurd (by decide) hz) (fun _ => ?_)
    refine x_aload_n C 3 rfl rfl dL_law_533 ?_
    refine x_iconst C 0 (by decide) dL_law_534 ?_
    refine x_lald (f := (vp_updL fo 0 (Int32.toInt64 (r.kt (slN r.kh (Int32.toNatClampNeg (xs (i + 1)))))))) C 0 3 rfl rfl in1 dL_law_535 ?_
    refine x_st (st' := [.long (Int32.toInt64 (r.kt (slN r.kh (Int32.toNatClampNeg (xs (i + 1))))))]) rfl ?_
    refine x_iload C 0 rfl dL_law_536 ?_
    refine x_i2l C dL_law_538 ?_
    refine x_lcmp C dL_law_539 ?_
    refine x_if_eq C 545 (by decide) dL_law_540 (fun _ => ?_) (fun hz => absurd (lgz (congrArg Int32.toInt64 e2)) hz)
    refine x_goto C 3131 (by decide) dL_law_545 ?_
    refine x_lv [(4, .int (nI i)), (3, .ref ao), (2, .ref (am 0)), (1, .ref (ap 0)), (0, .ref b)] [2, 3, 4, 5, 6] rfl ?_
    refine x_wid (k := cells + 40) (n := slots + 300) (by omega) (by omega) ?_
    exact K r po pn pl tx rp rl rs rm rn rz sv mm u fi t2 dm (sp_X7_trim_th (xs (i + 1))) sa ln pa le sk nu h (vp_updL fo 0 (Int32.toInt64 (r.kt (slN r.kh (Int32.toNatClampNeg (xs (i + 1))))))) e3
  · obtain ⟨e1, e3⟩ := hP.2 E cd h1 hcd
    refine x_perm (ws' := ((wOu g ao fo) ++ ((wMo g am u fi t2 dm th sa ln pa le sk nu h) ++ (wCl g ap ad r po pn pl tx rp rl rs rm rn rz sv mm)))) (List.perm_append_comm_assoc (wMo g am u fi t2 dm th sa ln pa le sk nu h) (wOu g ao fo) (wCl g ap ad r po pn pl tx rp rl rs rm rn rz sv mm)) ?_
    refine x_st (st' := [.int cd]) rfl ?_
    refine x_istore C [(5, .int cd), (4, .int (nI i)), (3, .ref ao), (2, .ref (am 0)), (1, .ref (ap 0)), (0, .ref b)] rfl (by decide) dL_law_503 ?_
    refine x_aload_n C 3 rfl rfl dL_law_505 ?_
    refine x_aload_n C 5 rfl rfl dL_law_506 ?_
    refine x_iload C 1 rfl dL_law_507 ?_
    refine x_iconst C 1 (by decide) dL_law_509 ?_
    refine x_iaddN C i 1 rfl rfl dL_law_510 ?_
    refine x_sld C (i + 1) hX hbl hbA rfl (by omega) (by omega) dL_law_511 ?_
    refine x_FV (w1 := (wOu g ao fo)) (wc := (wMo g am u fi t2 dm th sa ln pa le sk nu h)) (w2 := (wCl g ap ad r po pn pl tx rp rl rs rm rn rz sv mm)) [.int (xs (i + 1))] [] ((wOu g ao fo) ++ ((wMo g am u fi t2 dm (sp_X7_trim_th (xs (i + 1))) sa ln pa le sk nu h) ++ (wCl g ap ad r po pn pl tx rp rl rs rm rn rz sv mm))) C (k_X7_trim l g am u fi t2 dm th sa ln pa le sk nu h (xs (i + 1)) H.hs H.hs6 H.hm) rfl yV_X7_trim wML_L_166 rfl 1 rfl rfl rfl rfl (nle rfl) (nle rfl) (nle rfl) (rmc hcC (by omega)) (rmc hsC (by omega)) dL_law_512 ?_
    refine x_istore C [(6, .int (sp_X7_trim u (xs (i + 1)))), (5, .int cd), (4, .int (nI i)), (3, .ref ao), (2, .ref (am 0)), (1, .ref (ap 0)), (0, .ref b)] rfl (by decide) dL_law_515 ?_
    refine x_aload_n C 4 rfl rfl dL_law_517 ?_
    refine x_FV (w1 := (wOu g ao fo)) (wc := (wMo g am u fi t2 dm (sp_X7_trim_th (xs (i + 1))) sa ln pa le sk nu h)) (w2 := (wCl g ap ad r po pn pl tx rp rl rs rm rn rz sv mm)) [] [] ((wOu g ao fo) ++ ((wMo g am u fi t2 dm (sp_X7_trim_th (xs (i + 1))) sa ln pa le sk nu h) ++ (wCl g ap ad r po pn pl tx rp rl rs rm rn rz sv mm))) C (k_X7_thrown l g am u fi t2 dm (sp_X7_trim_th (xs (i + 1))) sa ln pa le sk nu h) rfl yV_X7_thrown wML_L_154 rfl 1 rfl rfl rfl rfl (nle rfl) (nle rfl) (nle rfl) (rmc hcC (by omega)) (rmc hsC (by omega)) dL_law_518 ?_
    refine x_iload C 1 rfl dL_law_521 ?_
    refine x_icmp_eq C 528 (by decide) dL_law_523 (fun _ => ?_) (fun hz => absurd e1 hz)
    refine x_iload C 1 rfl dL_law_528 ?_
    refine x_if_ne C 545 (by decide) dL_law_530 (fun _ => ?_) (fun hz => absurd hz (cd0 hcd))
    refine x_goto C 3131 (by decide) dL_law_545 ?_
    refine x_lv [(4, .int (nI i)), (3, .ref ao), (2, .ref (am 0)), (1, .ref (ap 0)), (0, .ref b)] [2, 3, 4, 5, 6] rfl ?_
    refine x_wid (k := cells + 40) (n := slots + 300) (by omega) (by omega) ?_
    exact K r po pn pl tx rp rl rs rm rn rz sv mm u fi t2 dm (sp_X7_trim_th (xs (i + 1))) sa ln pa le sk nu h fo e3
set_option maxRecDepth 100000 in
set_option maxHeartbeats 2000000 in
theorem c_4 {p : Program} {l : Launch} {e : Env} {s : State} {m : MethodId} {args : Array Value} {below : List Frame} {meth : Method} {c : Code} {cells slots : Nat} {Q : State → Prop} {nm : String} {g : xGt} {A : Nat → Prop} {b L i : Nat} {xs : Nat → Int32} {ap ad am : Nat → Nat} {ao : Nat} {r : xR} {po : Int32} {pn : Int32} {pl : Int32} {tx : Nat → Int32} {rp : Int32} {rl : Int32} {rs : Int32} {rm : Int32} {rn : Int32} {rz : Int32} {sv : xPl} {mm : xPl} {u : Nat → Int32} {fi : Nat → Int32} {t2 : Nat → Int32} {dm : Nat → Int32} {th : Int32} {sa : Int32} {ln : Int32} {pa : Int32} {le : Int32} {sk : Int32} {nu : Int32} {h : Int64} {fo : Nat → Int64} (C : xC p l s m args meth c cL_law 9 RL nm g.1 (xT g) A) (hX : va_X b L xs s s.heap) (hbl : b < s.heap.size) (hbA : ¬ A b) (hi : i + 6 ≤ L) (hL : L ≤ 3072) (hcC : cells + 40 ≤ room_1.cells) (hsC : slots + 300 ≤ room_1.slots) (H : RI r po pn pl tx sv mm u fi t2 sa ln) (K : LK p l e s m args below meth c g A ap ad am ao b i (cells + 40) (slots + 300) Q) : xW p l e room_1 s m args below meth c g.1 A 9 cells slots Q (wLaw g ap ad am ao r po pn pl tx rp rl rs rm rn rz sv mm u fi t2 dm th sa ln pa le sk nu h fo) [(4, .int (nI i)), (3, .ref ao), (2, .ref (am 0)), (1, .ref (ap 0)), (0, .ref b)] 548 [] := by
  refine x_ws (ws' := ((wOu g ao fo) ++ ((wMo g am u fi t2 dm th sa ln pa le sk nu h) ++ (wCl g ap ad r po pn pl tx rp rl rs rm rn rz sv mm)))) rfl ?_
  refine x_aload_n C 3 rfl rfl dL_law_548 ?_
  refine x_aload_n C 4 rfl rfl dL_law_549 ?_
  refine x_iload C 0 rfl dL_law_550 ?_
  refine x_iconst C 1 (by decide) dL_law_552 ?_
  refine x_iaddN C i 1 rfl rfl dL_law_553 ?_
  refine x_sld C (i + 1) hX hbl hbA rfl (by omega) (by omega) dL_law_554 ?_
  refine x_aload_n C 4 rfl rfl dL_law_555 ?_
  refine x_iload C 0 rfl dL_law_556 ?_
  refine x_iconst C 2 (by decide) dL_law_558 ?_
  refine x_iaddN C i 2 rfl rfl dL_law_559 ?_
  refine x_sld C (i + 2) hX hbl hbA rfl (by omega) (by omega) dL_law_560 ?_
  refine x_aload_n C 1 rfl rfl dL_law_561 ?_
  refine x_callL (X := (wOu g ao fo)) (Y := (wMo g am u fi t2 dm th sa ln pa le sk nu h)) (Z := (wCl g ap ad r po pn pl tx rp rl rs rm rn rz sv mm)) [.ref (ap 0), .int (xs (i + 1)), .int (xs (i + 2)), .ref ao] [] C (k_L_setRate l g ao fo ap ad r po pn pl tx rp rl rs rm rn rz sv mm (xs (i + 1)) (xs (i + 2)) H.clo) yH_L_setRate wML_L_167 rfl rfl rfl (nle rfl) (nle rfl) (nle rfl) (rmc hcC (by omega)) (rmc hsC (by omega)) dL_law_562 (fun r0 w0 h0 => ?_)
  have hP := P_setRate r po pn pl tx rp rl rs rm rn rz sv mm u fi t2 dm th sa ln pa le sk nu h (xs (i + 1)) (xs (i + 2)) H
  rcases h0 with ⟨h1, rfl, w8, hw, rfl⟩ | ⟨E, cd, h1, hcd, rfl, rfl⟩
  · obtain ⟨adn, rfl⟩ := hw
    obtain ⟨e1, e2, e3⟩ := hP.1 h1
    refine x_perm (ws' := ((wOu g ao (vp_updL fo 0 (Int32.toInt64 (r.kr (slN r.kh (Int32.toNatClampNeg (xs (i + 1)))))))) ++ ((wMo g am u fi t2 dm th sa ln pa le sk nu h) ++ (wCl g ap ad (r.set_kr (upd r.kr (slN r.kh (Int32.toNatClampNeg (xs (i + 1)))) (xs (i + 2)))) (sp_spo2 po pn) (sp_spn2 pn) pl tx rp rl rs rm rn rz (svS sv adn r po pn) mm)))) (List.perm_append_comm_assoc (wMo g am u fi t2 dm th sa ln pa le sk nu h) (wOu g ao (vp_updL fo 0 (Int32.toInt64 (r.kr (slN r.kh (Int32.toNatClampNeg (xs (i + 1)))))))) (wCl g ap ad (r.set_kr (upd r.kr (slN r.kh (Int32.toNatClampNeg (xs (i + 1)))) (xs (i + 2)))) (sp_spo2 po pn) (sp_spn2 pn) pl tx rp rl rs rm rn rz (svS sv adn r po pn) mm)) ?_
    refine x_st (st' := [.int 0]) rfl ?_
    refine x_istore C [(5, .int 0), (4, .int (nI i)), (3, .ref ao), (2, .ref (am 0)), (1, .ref (ap 0)), (0, .ref b)] rfl (by decide) dL_law_565 ?_
    refine x_aload_n C 3 rfl rfl dL_law_567 ?_
    refine x_aload_n C 5 rfl rfl dL_law_568 ?_
    refine x_iload C 1 rfl dL_law_569 ?_
    refine x_iconst C 1 (by decide) dL_law_571 ?_
    refine x_iaddN C i 1 rfl rfl dL_law_572 ?_
    refine x_sld C (i + 1) hX hbl hbA rfl (by omega) (by omega) dL_law_573 ?_
    refine x_aload_n C 5 rfl rfl dL_law_574 ?_
    refine x_iload C 1 rfl dL_law_575 ?_
    refine x_iconst C 2 (by decide) dL_law_577 ?_
    refine x_iaddN C i 2 rfl rfl dL_law_578 ?_
    refine x_sld C (i + 2) hX hbl hbA rfl (by omega) (by omega) dL_law_579 ?_
    refine x_FV (w1 := (wOu g ao (vp_updL fo 0 (Int32.toInt64 (r.kr (slN r.kh (Int32.toNatClampNeg (xs (i + 1))))))))) (wc := (wMo g am u fi t2 dm th sa ln pa le sk nu h)) (w2 := (wCl g ap ad (r.set_kr (upd r.kr (slN r.kh (Int32.toNatClampNeg (xs (i + 1)))) (xs (i + 2)))) (sp_spo2 po pn) (sp_spn2 pn) pl tx rp rl rs rm rn rz (svS sv adn r po pn) mm)) [.int (xs (i + 1)), .int (xs (i + 2))] [] ((wOu g ao (vp_updL fo 0 (Int32.toInt64 (r.kr (slN r.kh (Int32.toNatClampNeg (xs (i + 1)))))))) ++ ((wMo g am (sp_X7_setRate_s u sa (xs (i + 1)) (xs (i + 2))) fi t2 dm (sp_X7_setRate_th (xs (i + 1)) (xs (i + 2))) (sp_X7_setRate_sa sa (xs (i + 1)) (xs (i + 2))) ln pa le sk nu h) ++ (wCl g ap ad (r.set_kr (upd r.kr (slN r.kh (Int32.toNatClampNeg (xs (i + 1)))) (xs (i + 2)))) (sp_spo2 po pn) (sp_spn2 pn) pl tx rp rl rs rm rn rz (svS sv adn r po pn) mm))) C (k_X7_setRate l g am u fi t2 dm th sa ln pa le sk nu h (xs (i + 1)) (xs (i + 2)) H.hs H.hs6 H.hm) rfl yV_X7_setRate wML_L_169 rfl 1 rfl rfl rfl rfl (nle rfl) (nle rfl) (nle rfl) (rmc hcC (by omega)) (rmc hsC (by omega)) dL_law_580 ?_
    refine x_istore C [(6, .int (sp_X7_setRate u sa (xs (i + 1)) (xs (i + 2)))), (5, .int 0), (4, .int (nI i)), (3, .ref ao), (2, .ref (am 0)), (1, .ref (ap 0)), (0, .ref b)] rfl (by decide) dL_law_583 ?_
    refine x_aload_n C 4 rfl rfl dL_law_585 ?_
    refine x_FV (w1 := (wOu g ao (vp_updL fo 0 (Int32.toInt64 (r.kr (slN r.kh (Int32.toNatClampNeg (xs (i + 1))))))))) (wc := (wMo g am (sp_X7_setRate_s u sa (xs (i + 1)) (xs (i + 2))) fi t2 dm (sp_X7_setRate_th (xs (i + 1)) (xs (i + 2))) (sp_X7_setRate_sa sa (xs (i + 1)) (xs (i + 2))) ln pa le sk nu h)) (w2 := (wCl g ap ad (r.set_kr (upd r.kr (slN r.kh (Int32.toNatClampNeg (xs (i + 1)))) (xs (i + 2)))) (sp_spo2 po pn) (sp_spn2 pn) pl tx rp rl rs rm rn rz (svS sv adn r po pn) mm)) [] [] ((wOu g ao (vp_updL fo 0 (Int32.toInt64 (r.kr (slN r.kh (Int32.toNatClampNeg (xs (i + 1)))))))) ++ ((wMo g am (sp_X7_setRate_s u sa (xs (i + 1)) (xs (i + 2))) fi t2 dm (sp_X7_setRate_th (xs (i + 1)) (xs (i + 2))) (sp_X7_setRate_sa sa (xs (i + 1)) (xs (i + 2))) ln pa le sk nu h) ++ (wCl g ap ad (r.set_kr (upd r.kr (slN r.kh (Int32.toNatClampNeg (xs (i + 1)))) (xs (i + 2)))) (sp_spo2 po pn) (sp_spn2 pn) pl tx rp rl rs rm rn rz (svS sv adn r po pn) mm))) C (k_X7_thrown l g am (sp_X7_setRate_s u sa (xs (i + 1)) (xs (i + 2))) fi t2 dm (sp_X7_setRate_th (xs (i + 1)) (xs (i + 2))) (sp_X7_setRate_sa sa (xs (i + 1)) (xs (i + 2))) ln pa le sk nu h) rfl yV_X7_thrown wML_L_154 rfl 1 rfl rfl rfl rfl (nle rfl) (nle rfl) (nle rfl) (rmc hcC (by omega)) (rmc hsC (by omega)) dL_law_586 ?_
    refine x_iload C 1 rfl dL_law_589 ?_
    refine x_icmp_eq C 596 (by decide) dL_law_591 (fun _ => ?_) (fun hz => absurd e1 hz)
    refine x_iload C 1 rfl dL_law_596 ?_
    refine x_if_ne C 613 (by decide) dL_law_598 (fun hz => absurd (by decide) hz) (fun _ => ?_)
    refine x_aload_n C 3 rfl rfl dL_law_601 ?_
    refine x_iconst C 0 (by decide) dL_law_602 ?_
    refine x_lald (f := (vp_updL fo 0 (Int32.toInt64 (r.kr (slN r.kh (Int32.toNatClampNeg (xs (i + 1)))))))) C 0 3 rfl rfl in1 dL_law_603 ?_
    refine x_st (st' := [.long (Int32.toInt64 (r.kr (slN r.kh (Int32.toNatClampNeg (xs (i + 1))))))]) rfl ?_
    refine x_iload C 0 rfl dL_law_604 ?_
    refine x_i2l C dL_law_606 ?_
    refine x_lcmp C dL_law_607 ?_
    refine x_if_eq C 613 (by decide) dL_law_608 (fun _ => ?_) (fun hz => absurd (lgz (congrArg Int32.toInt64 e2)) hz)
    refine x_goto C 3131 (by decide) dL_law_613 ?_
    refine x_lv [(4, .int (nI i)), (3, .ref ao), (2, .ref (am 0)), (1, .ref (ap 0)), (0, .ref b)] [2, 3, 4, 5, 6] rfl ?_
    refine x_wid (k := cells + 40) (n := slots + 300) (by omega) (by omega) ?_
    exact K (r.set_kr (upd r.kr (slN r.kh (Int32.toNatClampNeg (xs (i + 1)))) (xs (i + 2)))) (sp_spo2 po pn) (sp_spn2 pn) pl tx rp rl rs rm rn rz (svS sv adn r po pn) mm (sp_X7_setRate_s u sa (xs (i + 1)) (xs (i + 2))) fi t2 dm (sp_X7_setRate_th (xs (i + 1)) (xs (i + 2))) (sp_X7_setRate_sa sa (xs (i + 1)) (xs (i + 2))) ln pa le sk nu h (vp_updL fo 0 (Int32.toInt64 (r.kr (slN r.kh (Int32.toNatClampNeg (xs (i + 1))))))) (e3 adn)
  · obtain ⟨e1, e3⟩ := hP.2 E cd h1 hcd
    refine x_perm (ws' := ((wOu g ao fo) ++ ((wMo g am u fi t2 dm th sa ln pa le sk nu h) ++ (wCl g ap ad r po pn pl tx rp rl rs rm rn rz sv mm)))) (List.perm_append_comm_assoc (wMo g am u fi t2 dm th sa ln pa le sk nu h) (wOu g ao fo) (wCl g ap ad r po pn pl tx rp rl rs rm rn rz sv mm)) ?_
    refine x_st (st' := [.int cd]) rfl ?_
    refine x_istore C [(5, .int cd), (4, .int (nI i)), (3, .ref ao), (2, .ref (am 0)), (1, .ref (ap 0)), (0, .ref b)] rfl (by decide) dL_law_565 ?_
    refine x_aload_n C 3 rfl rfl dL_law_567 ?_
    refine x_aload_n C 5 rfl rfl dL_law_568 ?_
    refine x_iload C 1 rfl dL_law_569 ?_
    refine x_iconst C 1 (by decide) dL_law_571 ?_
    refine x_iaddN C i 1 rfl rfl dL_law_572 ?_
    refine x_sld C (i + 1) hX hbl hbA rfl (by omega) (by omega) dL_law_573 ?_
    refine x_aload_n C 5 rfl rfl dL_law_574 ?_
    refine x_iload C 1 rfl dL_law_575 ?_
    refine x_iconst C 2 (by decide) dL_law_577 ?_
    refine x_iaddN C i 2 rfl rfl dL_law_578 ?_
    refine x_sld C (i + 2) hX hbl hbA rfl (by omega) (by omega) dL_law_579 ?_
    refine x_FV (w1 := (wOu g ao fo)) (wc := (wMo g am u fi t2 dm th sa ln pa le sk nu h)) (w2 := (wCl g ap ad r po pn pl tx rp rl rs rm rn rz sv mm)) [.int (xs (i + 1)), .int (xs (i + 2))] [] ((wOu g ao fo) ++ ((wMo g am (sp_X7_setRate_s u sa (xs (i + 1)) (xs (i + 2))) fi t2 dm (sp_X7_setRate_th (xs (i + 1)) (xs (i + 2))) (sp_X7_setRate_sa sa (xs (i + 1)) (xs (i + 2))) ln pa le sk nu h) ++ (wCl g ap ad r po pn pl tx rp rl rs rm rn rz sv mm))) C (k_X7_setRate l g am u fi t2 dm th sa ln pa le sk nu h (xs (i + 1)) (xs (i + 2)) H.hs H.hs6 H.hm) rfl yV_X7_setRate wML_L_169 rfl 1 rfl rfl rfl rfl (nle rfl) (nle rfl) (nle rfl) (rmc hcC (by omega)) (rmc hsC (by omega)) dL_law_580 ?_
    refine x_istore C [(6, .int (sp_X7_setRate u sa (xs (i + 1)) (xs (i + 2)))), (5, .int cd), (4, .int (nI i)), (3, .ref ao), (2, .ref (am 0)), (1, .ref (ap 0)), (0, .ref b)] rfl (by decide) dL_law_583 ?_
    refine x_aload_n C 4 rfl rfl dL_law_585 ?_
    refine x_FV (w1 := (wOu g ao fo)) (wc := (wMo g am (sp_X7_setRate_s u sa (xs (i + 1)) (xs (i + 2))) fi t2 dm (sp_X7_setRate_th (xs (i + 1)) (xs (i + 2))) (sp_X7_setRate_sa sa (xs (i + 1)) (xs (i + 2))) ln pa le sk nu h)) (w2 := (wCl g ap ad r po pn pl tx rp rl rs rm rn rz sv mm)) [] [] ((wOu g ao fo) ++ ((wMo g am (sp_X7_setRate_s u sa (xs (i + 1)) (xs (i + 2))) fi t2 dm (sp_X7_setRate_th (xs (i + 1)) (xs (i + 2))) (sp_X7_setRate_sa sa (xs (i + 1)) (xs (i + 2))) ln pa le sk nu h) ++ (wCl g ap ad r po pn pl tx rp rl rs rm rn rz sv mm))) C (k_X7_thrown l g am (sp_X7_setRate_s u sa (xs (i + 1)) (xs (i + 2))) fi t2 dm (sp_X7_setRate_th (xs (i + 1)) (xs (i + 2))) (sp_X7_setRate_sa sa (xs (i + 1)) (xs (i + 2))) ln pa le sk nu h) rfl yV_X7_thrown wML_L_154 rfl 1 rfl rfl rfl rfl (nle rfl) (nle rfl) (nle rfl) (rmc hcC (by omega)) (rmc hsC (by omega)) dL_law_586 ?_
    refine x_iload C 1 rfl dL_law_589 ?_
    refine x_icmp_eq C 596 (by decide) dL_law_591 (fun _ => ?_) (fun hz => absurd e1 hz)
    refine x_iload C 1 rfl dL_law_596 ?_
    refine x_if_ne C 613 (by decide) dL_law_598 (fun _ => ?_) (fun hz => absurd hz (by rcases hcd with ⟨-, rfl⟩ | ⟨-, rfl⟩ <;> decide))
    refine x_goto C 3131 (by decide) dL_law_613 ?_
    refine x_lv [(4, .int (nI i)), (3, .ref ao), (2, .ref (am 0)), (1, .ref (ap 0)), (0, .ref b)] [2, 3, 4, 5, 6] rfl ?_
    refine x_wid (k := cells + 40) (n := slots + 300) (by omega) (by omega) ?_
    exact K r po pn pl tx rp rl rs rm rn rz sv mm (sp_X7_setRate_s u sa (xs (i + 1)) (xs (i + 2))) fi t2 dm (sp_X7_setRate_th (xs (i + 1)) (xs (i + 2))) (sp_X7_setRate_sa sa (xs (i + 1)) (xs (i + 2))) ln pa le sk nu h fo e3
set_option maxRecDepth 100000 in
set_option maxHeartbeats 2000000 in
theorem c_5 {p : Program} {l : Launch} {e : Env} {s : State} {m : MethodId} {args : Array Value} {below : List Frame} {meth : Method} {c : Code} {cells slots : Nat} {Q : State → Prop} {nm : String} {g : xGt} {A : Nat → Prop} {b L i : Nat} {xs : Nat → Int32} {ap ad am : Nat → Nat} {ao : Nat} {r : xR} {po : Int32} {pn : Int32} {pl : Int32} {tx : Nat → Int32} {rp : Int32} {rl : Int32} {rs : Int32} {rm : Int32} {rn : Int32} {rz : Int32} {sv : xPl} {mm : xPl} {u : Nat → Int32} {fi : Nat → Int32} {t2 : Nat → Int32} {dm : Nat → Int32} {th : Int32} {sa : Int32} {ln : Int32} {pa : Int32} {le : Int32} {sk : Int32} {nu : Int32} {h : Int64} {fo : Nat → Int64} (C : xC p l s m args meth c cL_law 9 RL nm g.1 (xT g) A) (hX : va_X b L xs s s.heap) (hbl : b < s.heap.size) (hbA : ¬ A b) (hi : i + 6 ≤ L) (hL : L ≤ 3072) (hcC : cells + 40 ≤ room_1.cells) (hsC : slots + 300 ≤ room_1.slots) (H : RI r po pn pl tx sv mm u fi t2 sa ln) (K : LK p l e s m args below meth c g A ap ad am ao b i (cells + 40) (slots + 300) Q) : xW p l e room_1 s m args below meth c g.1 A 9 cells slots Q (wLaw g ap ad am ao r po pn pl tx rp rl rs rm rn rz sv mm u fi t2 dm th sa ln pa le sk nu h fo) [(4, .int (nI i)), (3, .ref ao), (2, .ref (am 0)), (1, .ref (ap 0)), (0, .ref b)] 616 [] := by
  refine x_ws (ws' := ((wOu g ao fo) ++ ((wMo g am u fi t2 dm th sa ln pa le sk nu h) ++ (wCl g ap ad r po pn pl tx rp rl rs rm rn rz sv mm)))) rfl ?_
  refine x_aload_n C 3 rfl rfl dL_law_616 ?_
  refine x_aload_n C 4 rfl rfl dL_law_617 ?_
  refine x_iload C 0 rfl dL_law_618 ?_
  refine x_iconst C 1 (by decide) dL_law_620 ?_
  refine x_iaddN C i 1 rfl rfl dL_law_621 ?_
  refine x_sld C (i + 1) hX hbl hbA rfl (by omega) (by omega) dL_law_622 ?_
  refine x_aload_n C 1 rfl rfl dL_law_623 ?_
  refine x_callL (X := (wOu g ao fo)) (Y := (wMo g am u fi t2 dm th sa ln pa le sk nu h)) (Z := (wCl g ap ad r po pn pl tx rp rl rs rm rn rz sv mm)) [.ref (ap 0), .int (xs (i + 1)), .ref ao] [] C (k_L_rate l g ao fo ap ad r po pn pl tx rp rl rs rm rn rz sv mm (xs (i + 1)) H.clo) yH_L_rate wML_L_170 rfl rfl rfl (nle rfl) (nle rfl) (nle rfl) (rmc hcC (by omega)) (rmc hsC (by omega)) dL_law_624 (fun r0 w0 h0 => ?_)
  have hP := P_rate r po pn pl tx rp rl rs rm rn rz sv mm u fi t2 dm th sa ln pa le sk nu h (xs (i + 1)) H
  rcases h0 with ⟨h1, rfl, w8, hw, rfl⟩ | ⟨E, cd, h1, hcd, rfl, rfl⟩
  · obtain rfl := hw
    obtain ⟨e1, e2, e3⟩ := hP.1 h1
    refine x_perm (ws' := ((wOu g ao (vp_updL fo 0 (Int32.toInt64 (r.kr (slN r.kh (Int32.toNatClampNeg (xs (i + 1)))))))) ++ ((wMo g am u fi t2 dm th sa ln pa le sk nu h) ++ (wCl g ap ad r po pn pl tx rp rl rs rm rn rz sv mm)))) (List.perm_append_comm_assoc (wMo g am u fi t2 dm th sa ln pa le sk nu h) (wOu g ao (vp_updL fo 0 (Int32.toInt64 (r.kr (slN r.kh (Int32.toNatClampNeg (xs (i + 1)))))))) (wCl g ap ad r po pn pl tx rp rl rs rm rn rz sv mm)) ?_
    refine x_st (st' := [.int 0]) rfl ?_
    refine x_istore C [(5, .int 0), (4, .int (nI i)), (3, .ref ao), (2, .ref (am 0)), (1, .ref (ap 0)), (0, .ref b)] rfl (by decide) dL_law_627 ?_
    refine x_aload_n C 3 rfl rfl dL_law_629 ?_
    refine x_aload_n C 5 rfl rfl dL_law_630 ?_
    refine x_iload C 1 rfl dL_law_631 ?_
    refine x_iconst C 1 (by decide) dL_law_633 ?_
    refine x_iaddN C i 1 rfl rfl dL_law_634 ?_
    refine x_sld C (i + 1) hX hbl hbA rfl (by omega) (by omega) dL_law_635 ?_
    refine x_FV (w1 := (wOu g ao (vp_updL fo 0 (Int32.toInt64 (r.kr (slN r.kh (Int32.toNatClampNeg (xs (i + 1))))))))) (wc := (wMo g am u fi t2 dm th sa ln pa le sk nu h)) (w2 := (wCl g ap ad r po pn pl tx rp rl rs rm rn rz sv mm)) [.int (xs (i + 1))] [] ((wOu g ao (vp_updL fo 0 (Int32.toInt64 (r.kr (slN r.kh (Int32.toNatClampNeg (xs (i + 1)))))))) ++ ((wMo g am u fi t2 dm (sp_X7_rate_th (xs (i + 1))) sa ln pa le sk nu h) ++ (wCl g ap ad r po pn pl tx rp rl rs rm rn rz sv mm))) C (k_X7_rate l g am u fi t2 dm th sa ln pa le sk nu h (xs (i + 1)) H.hs H.hs6 H.hm) rfl yV_X7_rate wML_L_172 rfl 1 rfl rfl rfl rfl (nle rfl) (nle rfl) (nle rfl) (rmc hcC (by omega)) (rmc hsC (by omega)) dL_law_636 ?_
    refine x_istore C [(6, .int (sp_X7_rate u (xs (i + 1)))), (5, .int 0), (4, .int (nI i)), (3, .ref ao), (2, .ref (am 0)), (1, .ref (ap 0)), (0, .ref b)] rfl (by decide) dL_law_639 ?_
    refine x_aload_n C 4 rfl rfl dL_law_641 ?_
    refine x_FV (w1 := (wOu g ao (vp_updL fo 0 (Int32.toInt64 (r.kr (slN r.kh (Int32.toNatClampNeg (xs (i + 1))))))))) (wc := (wMo g am u fi t2 dm (sp_X7_rate_th (xs (i + 1))) sa ln pa le sk nu h)) (w2 := (wCl g ap ad r po pn pl tx rp rl rs rm rn rz sv mm)) [] [] ((wOu g ao (vp_updL fo 0 (Int32.toInt64 (r.kr (slN r.kh (Int32.toNatClampNeg (xs (i + 1)))))))) ++ ((wMo g am u fi t2 dm (sp_X7_rate_th (xs (i + 1))) sa ln pa le sk nu h) ++ (wCl g ap ad r po pn pl tx rp rl rs rm rn rz sv mm))) C (k_X7_thrown l g am u fi t2 dm (sp_X7_rate_th (xs (i + 1))) sa ln pa le sk nu h) rfl yV_X7_thrown wML_L_154 rfl 1 rfl rfl rfl rfl (nle rfl) (nle rfl) (nle rfl) (rmc hcC (by omega)) (rmc hsC (by omega)) dL_law_642 ?_
    refine x_iload C 1 rfl dL_law_645 ?_
    refine x_icmp_eq C 652 (by decide) dL_law_647 (fun _ => ?_) (fun hz => absurd e1 hz)
    refine x_iload C 1 rfl dL_law_652 ?_
    refine x_if_ne C 669 (by decide) dL_law_654 (fun hz => absurd (by decide) hz) (fun _ => ?_)
    refine x_aload_n C 3 rfl rfl dL_law_657 ?_
    refine x_iconst C 0 (by decide) dL_law_658 ?_
    refine x_lald (f := (vp_updL fo 0 (Int32.toInt64 (r.kr (slN r.kh (Int32.toNatClampNeg (xs (i + 1)))))))) C 0 3 rfl rfl in1 dL_law_659 ?_
    refine x_st (st' := [.long (Int32.toInt64 (r.kr (slN r.kh (Int32.toNatClampNeg (xs (i + 1))))))]) rfl ?_
    refine x_iload C 0 rfl dL_law_660 ?_
    refine x_i2l C dL_law_662 ?_
    refine x_lcmp C dL_law_663 ?_
    refine x_if_eq C 669 (by decide) dL_law_664 (fun _ => ?_) (fun hz => absurd (lgz (congrArg Int32.toInt64 e2)) hz)
    refine x_goto C 3131 (by decide) dL_law_669 ?_
    refine x_lv [(4, .int (nI i)), (3, .ref ao), (2, .ref (am 0)), (1, .ref (ap 0)), (0, .ref b)] [2, 3, 4, 5, 6] rfl ?_
    refine x_wid (k := cells + 40) (n := slots + 300) (by omega) (by omega) ?_
    exact K r po pn pl tx rp rl rs rm rn rz sv mm u fi t2 dm (sp_X7_rate_th (xs (i + 1))) sa ln pa le sk nu h (vp_updL fo 0 (Int32.toInt64 (r.kr (slN r.kh (Int32.toNatClampNeg (xs (i + 1))))))) e3
  · obtain ⟨e1, e3⟩ := hP.2 E cd h1 hcd
    refine x_perm (ws' := ((wOu g ao fo) ++ ((wMo g am u fi t2 dm th sa ln pa le sk nu h) ++ (wCl g ap ad r po pn pl tx rp rl rs rm rn rz sv mm)))) (List.perm_append_comm_assoc (wMo g am u fi t2 dm th sa ln pa le sk nu h) (wOu g ao fo) (wCl g ap ad r po pn pl tx rp rl rs rm rn rz sv mm)) ?_
    refine x_st (st' := [.int cd]) rfl ?_
    refine x_istore C [(5, .int cd), (4, .int (nI i)), (3, .ref ao), (2, .ref (am 0)), (1, .ref (ap 0)), (0, .ref b)] rfl (by decide) dL_law_627 ?_
    refine x_aload_n C 3 rfl rfl dL_law_629 ?_
    refine x_aload_n C 5 rfl rfl dL_law_630 ?_
    refine x_iload C 1 rfl dL_law_631 ?_
    refine x_iconst C 1 (by decide) dL_law_633 ?_
    refine x_iaddN C i 1 rfl rfl dL_law_634 ?_
    refine x_sld C (i + 1) hX hbl hbA rfl (by omega) (by omega) dL_law_635 ?_
    refine x_FV (w1 := (wOu g ao fo)) (wc := (wMo g am u fi t2 dm th sa ln pa le sk nu h)) (w2 := (wCl g ap ad r po pn pl tx rp rl rs rm rn rz sv mm)) [.int (xs (i + 1))] [] ((wOu g ao fo) ++ ((wMo g am u fi t2 dm (sp_X7_rate_th (xs (i + 1))) sa ln pa le sk nu h) ++ (wCl g ap ad r po pn pl tx rp rl rs rm rn rz sv mm))) C (k_X7_rate l g am u fi t2 dm th sa ln pa le sk nu h (xs (i + 1)) H.hs H.hs6 H.hm) rfl yV_X7_rate wML_L_172 rfl 1 rfl rfl rfl rfl (nle rfl) (nle rfl) (nle rfl) (rmc hcC (by omega)) (rmc hsC (by omega)) dL_law_636 ?_
    refine x_istore C [(6, .int (sp_X7_rate u (xs (i + 1)))), (5, .int cd), (4, .int (nI i)), (3, .ref ao), (2, .ref (am 0)), (1, .ref (ap 0)), (0, .ref b)] rfl (by decide) dL_law_639 ?_
    refine x_aload_n C 4 rfl rfl dL_law_641 ?_
    refine x_FV (w1 := (wOu g ao fo)) (wc := (wMo g am u fi t2 dm (sp_X7_rate_th (xs (i + 1))) sa ln pa le sk nu h)) (w2 := (wCl g ap ad r po pn pl tx rp rl rs rm rn rz sv mm)) [] [] ((wOu g ao fo) ++ ((wMo g am u fi t2 dm (sp_X7_rate_th (xs (i + 1))) sa ln pa le sk nu h) ++ (wCl g ap ad r po pn pl tx rp rl rs rm rn rz sv mm))) C (k_X7_thrown l g am u fi t2 dm (sp_X7_rate_th (xs (i + 1))) sa ln pa le sk nu h) rfl yV_X7_thrown wML_L_154 rfl 1 rfl rfl rfl rfl (nle rfl) (nle rfl) (nle rfl) (rmc hcC (by omega)) (rmc hsC (by omega)) dL_law_642 ?_
    refine x_iload C 1 rfl dL_law_645 ?_
    refine x_icmp_eq C 652 (by decide) dL_law_647 (fun _ => ?_) (fun hz => absurd e1 hz)
    refine x_iload C 1 rfl dL_law_652 ?_
    refine x_if_ne C 669 (by decide) dL_law_654 (fun _ => ?_) (fun hz => absurd hz (cd0 hcd))
    refine x_goto C 3131 (by decide) dL_law_669 ?_
    refine x_lv [(4, .int (nI i)), (3, .ref ao), (2, .ref (am 0)), (1, .ref (ap 0)), (0, .ref b)] [2, 3, 4, 5, 6] rfl ?_
    refine x_wid (k := cells + 40) (n := slots + 300) (by omega) (by omega) ?_
    exact K r po pn pl tx rp rl rs rm rn rz sv mm u fi t2 dm (sp_X7_rate_th (xs (i + 1))) sa ln pa le sk nu h fo e3
set_option maxRecDepth 100000 in
set_option maxHeartbeats 2000000 in
theorem c_6 {p : Program} {l : Launch} {e : Env} {s : State} {m : MethodId} {args : Array Value} {below : List Frame} {meth : Method} {c : Code} {cells slots : Nat} {Q : State → Prop} {nm : String} {g : xGt} {A : Nat → Prop} {b L i : Nat} {xs : Nat → Int32} {ap ad am : Nat → Nat} {ao : Nat} {r : xR} {po : Int32} {pn : Int32} {pl : Int32} {tx : Nat → Int32} {rp : Int32} {rl : Int32} {rs : Int32} {rm : Int32} {rn : Int32} {rz : Int32} {sv : xPl} {mm : xPl} {u : Nat → Int32} {fi : Nat → Int32} {t2 : Nat → Int32} {dm : Nat → Int32} {th : Int32} {sa : Int32} {ln : Int32} {pa : Int32} {le : Int32} {sk : Int32} {nu : Int32} {h : Int64} {fo : Nat → Int64} (C : xC p l s m args meth c cL_law 9 RL nm g.1 (xT g) A) (hX : va_X b L xs s s.heap) (hbl : b < s.heap.size) (hbA : ¬ A b) (hi : i + 6 ≤ L) (hL : L ≤ 3072) (hcC : cells + 40 ≤ room_1.cells) (hsC : slots + 300 ≤ room_1.slots) (H : RI r po pn pl tx sv mm u fi t2 sa ln) (K : LK p l e s m args below meth c g A ap ad am ao b i (cells + 40) (slots + 300) Q) : xW p l e room_1 s m args below meth c g.1 A 9 cells slots Q (wLaw g ap ad am ao r po pn pl tx rp rl rs rm rn rz sv mm u fi t2 dm th sa ln pa le sk nu h fo) [(4, .int (nI i)), (3, .ref ao), (2, .ref (am 0)), (1, .ref (ap 0)), (0, .ref b)] 672 [] := by
  refine x_ws (ws' := ((wOu g ao fo) ++ ((wMo g am u fi t2 dm th sa ln pa le sk nu h) ++ (wCl g ap ad r po pn pl tx rp rl rs rm rn rz sv mm)))) rfl ?_
  refine x_aload_n C 3 rfl rfl dL_law_672 ?_
  refine x_aload_n C 4 rfl rfl dL_law_673 ?_
  refine x_iload C 0 rfl dL_law_674 ?_
  refine x_iconst C 1 (by decide) dL_law_676 ?_
  refine x_iaddN C i 1 rfl rfl dL_law_677 ?_
  refine x_sld C (i + 1) hX hbl hbA rfl (by omega) (by omega) dL_law_678 ?_
  refine x_aload_n C 4 rfl rfl dL_law_679 ?_
  refine x_iload C 0 rfl dL_law_680 ?_
  refine x_iconst C 2 (by decide) dL_law_682 ?_
  refine x_iaddN C i 2 rfl rfl dL_law_683 ?_
  refine x_sld C (i + 2) hX hbl hbA rfl (by omega) (by omega) dL_law_684 ?_
  refine x_aload_n C 1 rfl rfl dL_law_685 ?_
  refine x_callL (X := (wOu g ao fo)) (Y := (wMo g am u fi t2 dm th sa ln pa le sk nu h)) (Z := (wCl g ap ad r po pn pl tx rp rl rs rm rn rz sv mm)) [.ref (ap 0), .int (xs (i + 1)), .int (xs (i + 2)), .ref ao] [] C (k_L_setExpo l g ao fo ap ad r po pn pl tx rp rl rs rm rn rz sv mm (xs (i + 1)) (xs (i + 2)) H.clo) yH_L_setExpo wML_L_173 rfl rfl rfl (nle rfl) (nle rfl) (nle rfl) (rmc hcC (by omega)) (rmc hsC (by omega)) dL_law_686 (fun r0 w0 h0 => ?_)
  have hP := P_setExpo r po pn pl tx rp rl rs rm rn rz sv mm u fi t2 dm th sa ln pa le sk nu h (xs (i + 1)) (xs (i + 2)) H
  rcases h0 with ⟨h1, rfl, w8, hw, rfl⟩ | ⟨E, cd, h1, hcd, rfl, rfl⟩
  · obtain ⟨adn, rfl⟩ := hw
    obtain ⟨e1, e2, e3⟩ := hP.1 h1
    refine x_perm (ws' := ((wOu g ao (vp_updL fo 0 (Int32.toInt64 (r.ke (Int32.toNatClampNeg (xs (i + 1))))))) ++ ((wMo g am u fi t2 dm th sa ln pa le sk nu h) ++ (wCl g ap ad (r.set_ke (upd r.ke (Int32.toNatClampNeg (xs (i + 1))) (xs (i + 2)))) (sp_spo2 po pn) (sp_spn2 pn) pl tx rp rl rs rm rn rz (svS sv adn r po pn) mm)))) (List.perm_append_comm_assoc (wMo g am u fi t2 dm th sa ln pa le sk nu h) (wOu g ao (vp_updL fo 0 (Int32.toInt64 (r.ke (Int32.toNatClampNeg (xs (i + 1))))))) (wCl g ap ad (r.set_ke (upd r.ke (Int32.toNatClampNeg (xs (i + 1))) (xs (i + 2)))) (sp_spo2 po pn) (sp_spn2 pn) pl tx rp rl rs rm rn rz (svS sv adn r po pn) mm)) ?_
    refine x_st (st' := [.int 0]) rfl ?_
    refine x_istore C [(5, .int 0), (4, .int (nI i)), (3, .ref ao), (2, .ref (am 0)), (1, .ref (ap 0)), (0, .ref b)] rfl (by decide) dL_law_689 ?_
    refine x_aload_n C 3 rfl rfl dL_law_691 ?_
    refine x_aload_n C 5 rfl rfl dL_law_692 ?_
    refine x_iload C 1 rfl dL_law_693 ?_
    refine x_iconst C 1 (by decide) dL_law_695 ?_
    refine x_iaddN C i 1 rfl rfl dL_law_696 ?_
    refine x_sld C (i + 1) hX hbl hbA rfl (by omega) (by omega) dL_law_697 ?_
    refine x_aload_n C 5 rfl rfl dL_law_698 ?_
    refine x_iload C 1 rfl dL_law_699 ?_
    refine x_iconst C 2 (by decide) dL_law_701 ?_
    refine x_iaddN C i 2 rfl rfl dL_law_702 ?_
    refine x_sld C (i + 2) hX hbl hbA rfl (by omega) (by omega) dL_law_703 ?_
    refine x_FV (w1 := (wOu g ao (vp_updL fo 0 (Int32.toInt64 (r.ke (Int32.toNatClampNeg (xs (i + 1)))))))) (wc := (wMo g am u fi t2 dm th sa ln pa le sk nu h)) (w2 := (wCl g ap ad (r.set_ke (upd r.ke (Int32.toNatClampNeg (xs (i + 1))) (xs (i + 2)))) (sp_spo2 po pn) (sp_spn2 pn) pl tx rp rl rs rm rn rz (svS sv adn r po pn) mm)) [.int (xs (i + 1)), .int (xs (i + 2))] [] ((wOu g ao (vp_updL fo 0 (Int32.toInt64 (r.ke (Int32.toNatClampNeg (xs (i + 1))))))) ++ ((wMo g am (sp_X7_setExpo_s u sa (xs (i + 1)) (xs (i + 2))) fi t2 dm (sp_X7_setExpo_th (xs (i + 1)) (xs (i + 2))) (sp_X7_setExpo_sa sa (xs (i + 1)) (xs (i + 2))) ln pa le sk nu h) ++ (wCl g ap ad (r.set_ke (upd r.ke (Int32.toNatClampNeg (xs (i + 1))) (xs (i + 2)))) (sp_spo2 po pn) (sp_spn2 pn) pl tx rp rl rs rm rn rz (svS sv adn r po pn) mm))) C (k_X7_setExpo l g am u fi t2 dm th sa ln pa le sk nu h (xs (i + 1)) (xs (i + 2)) H.hs H.hs6 H.hm) rfl yV_X7_setExpo wML_L_175 rfl 1 rfl rfl rfl rfl (nle rfl) (nle rfl) (nle rfl) (rmc hcC (by omega)) (rmc hsC (by omega)) dL_law_704 ?_
    refine x_istore C [(6, .int (sp_X7_setExpo u sa (xs (i + 1)) (xs (i + 2)))), (5, .int 0), (4, .int (nI i)), (3, .ref ao), (2, .ref (am 0)), (1, .ref (ap 0)), (0, .ref b)] rfl (by decide) dL_law_707 ?_
    refine x_aload_n C 4 rfl rfl dL_law_709 ?_
    refine x_FV (w1 := (wOu g ao (vp_updL fo 0 (Int32.toInt64 (r.ke (Int32.toNatClampNeg (xs (i + 1)))))))) (wc := (wMo g am (sp_X7_setExpo_s u sa (xs (i + 1)) (xs (i + 2))) fi t2 dm (sp_X7_setExpo_th (xs (i + 1)) (xs (i + 2))) (sp_X7_setExpo_sa sa (xs (i + 1)) (xs (i + 2))) ln pa le sk nu h)) (w2 := (wCl g ap ad (r.set_ke (upd r.ke (Int32.toNatClampNeg (xs (i + 1))) (xs (i + 2)))) (sp_spo2 po pn) (sp_spn2 pn) pl tx rp rl rs rm rn rz (svS sv adn r po pn) mm)) [] [] ((wOu g ao (vp_updL fo 0 (Int32.toInt64 (r.ke (Int32.toNatClampNeg (xs (i + 1))))))) ++ ((wMo g am (sp_X7_setExpo_s u sa (xs (i + 1)) (xs (i + 2))) fi t2 dm (sp_X7_setExpo_th (xs (i + 1)) (xs (i + 2))) (sp_X7_setExpo_sa sa (xs (i + 1)) (xs (i + 2))) ln pa le sk nu h) ++ (wCl g ap ad (r.set_ke (upd r.ke (Int32.toNatClampNeg (xs (i + 1))) (xs (i + 2)))) (sp_spo2 po pn) (sp_spn2 pn) pl tx rp rl rs rm rn rz (svS sv adn r po pn) mm))) C (k_X7_thrown l g am (sp_X7_setExpo_s u sa (xs (i + 1)) (xs (i + 2))) fi t2 dm (sp_X7_setExpo_th (xs (i + 1)) (xs (i + 2))) (sp_X7_setExpo_sa sa (xs (i + 1)) (xs (i + 2))) ln pa le sk nu h) rfl yV_X7_thrown wML_L_154 rfl 1 rfl rfl rfl rfl (nle rfl) (nle rfl) (nle rfl) (rmc hcC (by omega)) (rmc hsC (by omega)) dL_law_710 ?_
    refine x_iload C 1 rfl dL_law_713 ?_
    refine x_icmp_eq C 720 (by decide) dL_law_715 (fun _ => ?_) (fun hz => absurd e1 hz)
    refine x_iload C 1 rfl dL_law_720 ?_
    refine x_if_ne C 737 (by decide) dL_law_722 (fun hz => absurd (by decide) hz) (fun _ => ?_)
    refine x_aload_n C 3 rfl rfl dL_law_725 ?_
    refine x_iconst C 0 (by decide) dL_law_726 ?_
    refine x_lald (f := (vp_updL fo 0 (Int32.toInt64 (r.ke (Int32.toNatClampNeg (xs (i + 1))))))) C 0 3 rfl rfl in1 dL_law_727 ?_
    refine x_st (st' := [.long (Int32.toInt64 (r.ke (Int32.toNatClampNeg (xs (i + 1)))))]) rfl ?_
    refine x_iload C 0 rfl dL_law_728 ?_
    refine x_i2l C dL_law_730 ?_
    refine x_lcmp C dL_law_731 ?_
    refine x_if_eq C 737 (by decide) dL_law_732 (fun _ => ?_) (fun hz => absurd (lgz (congrArg Int32.toInt64 e2)) hz)
    refine x_goto C 3131 (by decide) dL_law_737 ?_
    refine x_lv [(4, .int (nI i)), (3, .ref ao), (2, .ref (am 0)), (1, .ref (ap 0)), (0, .ref b)] [2, 3, 4, 5, 6] rfl ?_
    refine x_wid (k := cells + 40) (n := slots + 300) (by omega) (by omega) ?_
    exact K (r.set_ke (upd r.ke (Int32.toNatClampNeg (xs (i + 1))) (xs (i + 2)))) (sp_spo2 po pn) (sp_spn2 pn) pl tx rp rl rs rm rn rz (svS sv adn r po pn) mm (sp_X7_setExpo_s u sa (xs (i + 1)) (xs (i + 2))) fi t2 dm (sp_X7_setExpo_th (xs (i + 1)) (xs (i + 2))) (sp_X7_setExpo_sa sa (xs (i + 1)) (xs (i + 2))) ln pa le sk nu h (vp_updL fo 0 (Int32.toInt64 (r.ke (Int32.toNatClampNeg (xs (i + 1)))))) (e3 adn)
  · obtain ⟨e1, e3⟩ := hP.2 E cd h1 hcd
    refine x_perm (ws' := ((wOu g ao fo) ++ ((wMo g am u fi t2 dm th sa ln pa le sk nu h) ++ (wCl g ap ad r po pn pl tx rp rl rs rm rn rz sv mm)))) (List.perm_append_comm_assoc (wMo g am u fi t2 dm th sa ln pa le sk nu h) (wOu g ao fo) (wCl g ap ad r po pn pl tx rp rl rs rm rn rz sv mm)) ?_
    refine x_st (st' := [.int cd]) rfl ?_
    refine x_istore C [(5, .int cd), (4, .int (nI i)), (3, .ref ao), (2, .ref (am 0)), (1, .ref (ap 0)), (0, .ref b)] rfl (by decide) dL_law_689 ?_
    refine x_aload_n C 3 rfl rfl dL_law_691 ?_
    refine x_aload_n C 5 rfl rfl dL_law_692 ?_
    refine x_iload C 1 rfl dL_law_693 ?_
    refine x_iconst C 1 (by decide) dL_law_695 ?_
    refine x_iaddN C i 1 rfl rfl dL_law_696 ?_
    refine x_sld C (i + 1) hX hbl hbA rfl (by omega) (by omega) dL_law_697 ?_
    refine x_aload_n C 5 rfl rfl dL_law_698 ?_
    refine x_iload C 1 rfl dL_law_699 ?_
    refine x_iconst C 2 (by decide) dL_law_701 ?_
    refine x_iaddN C i 2 rfl rfl dL_law_702 ?_
    refine x_sld C (i + 2) hX hbl hbA rfl (by omega) (by omega) dL_law_703 ?_
    refine x_FV (w1 := (wOu g ao fo)) (wc := (wMo g am u fi t2 dm th sa ln pa le sk nu h)) (w2 := (wCl g ap ad r po pn pl tx rp rl rs rm rn rz sv mm)) [.int (xs (i + 1)), .int (xs (i + 2))] [] ((wOu g ao fo) ++ ((wMo g am (sp_X7_setExpo_s u sa (xs (i + 1)) (xs (i + 2))) fi t2 dm (sp_X7_setExpo_th (xs (i + 1)) (xs (i + 2))) (sp_X7_setExpo_sa sa (xs (i + 1)) (xs (i + 2))) ln pa le sk nu h) ++ (wCl g ap ad r po pn pl tx rp rl rs rm rn rz sv mm))) C (k_X7_setExpo l g am u fi t2 dm th sa ln pa le sk nu h (xs (i + 1)) (xs (i + 2)) H.hs H.hs6 H.hm) rfl yV_X7_setExpo wML_L_175 rfl 1 rfl rfl rfl rfl (nle rfl) (nle rfl) (nle rfl) (rmc hcC (by omega)) (rmc hsC (by omega)) dL_law_704 ?_
    refine x_istore C [(6, .int (sp_X7_setExpo u sa (xs (i + 1)) (xs (i + 2)))), (5, .int cd), (4, .int (nI i)), (3, .ref ao), (2, .ref (am 0)), (1, .ref (ap 0)), (0, .ref b)] rfl (by decide) dL_law_707 ?_
    refine x_aload_n C 4 rfl rfl dL_law_709 ?_
    refine x_FV (w1 := (wOu g ao fo)) (wc := (wMo g am (sp_X7_setExpo_s u sa (xs (i + 1)) (xs (i + 2))) fi t2 dm (sp_X7_setExpo_th (xs (i + 1)) (xs (i + 2))) (sp_X7_setExpo_sa sa (xs (i + 1)) (xs (i + 2))) ln pa le sk nu h)) (w2 := (wCl g ap ad r po pn pl tx rp rl rs rm rn rz sv mm)) [] [] ((wOu g ao fo) ++ ((wMo g am (sp_X7_setExpo_s u sa (xs (i + 1)) (xs (i + 2))) fi t2 dm (sp_X7_setExpo_th (xs (i + 1)) (xs (i + 2))) (sp_X7_setExpo_sa sa (xs (i + 1)) (xs (i + 2))) ln pa le sk nu h) ++ (wCl g ap ad r po pn pl tx rp rl rs rm rn rz sv mm))) C (k_X7_thrown l g am (sp_X7_setExpo_s u sa (xs (i + 1)) (xs (i + 2))) fi t2 dm (sp_X7_setExpo_th (xs (i + 1)) (xs (i + 2))) (sp_X7_setExpo_sa sa (xs (i + 1)) (xs (i + 2))) ln pa le sk nu h) rfl yV_X7_thrown wML_L_154 rfl 1 rfl rfl rfl rfl (nle rfl) (nle rfl) (nle rfl) (rmc hcC (by omega)) (rmc hsC (by omega)) dL_law_710 ?_
    refine x_iload C 1 rfl dL_law_713 ?_
    refine x_icmp_eq C 720 (by decide) dL_law_715 (fun _ => ?_) (fun hz => absurd e1 hz)
    refine x_iload C 1 rfl dL_law_720 ?_
    refine x_if_ne C 737 (by decide) dL_law_722 (fun _ => ?_) (fun hz => absurd hz (by rcases hcd with ⟨-, rfl⟩ | ⟨-, rfl⟩ <;> decide))
    refine x_goto C 3131 (by decide) dL_law_737 ?_
    refine x_lv [(4, .int (nI i)), (3, .ref ao), (2, .ref (am 0)), (1, .ref (ap 0)), (0, .ref b)] [2, 3, 4, 5, 6] rfl ?_
    refine x_wid (k := cells + 40) (n := slots + 300) (by omega) (by omega) ?_
    exact K r po pn pl tx rp rl rs rm rn rz sv mm (sp_X7_setExpo_s u sa (xs (i + 1)) (xs (i + 2))) fi t2 dm (sp_X7_setExpo_th (xs (i + 1)) (xs (i + 2))) (sp_X7_setExpo_sa sa (xs (i + 1)) (xs (i + 2))) ln pa le sk nu h fo e3
set_option maxRecDepth 100000 in
set_option maxHeartbeats 2000000 in
theorem c_7 {p : Program} {l : Launch} {e : Env} {s : State} {m : MethodId} {args : Array Value} {below : List Frame} {meth : Method} {c : Code} {cells slots : Nat} {Q : State → Prop} {nm : String} {g : xGt} {A : Nat → Prop} {b L i : Nat} {xs : Nat → Int32} {ap ad am : Nat → Nat} {ao : Nat} {r : xR} {po : Int32} {pn : Int32} {pl : Int32} {tx : Nat → Int32} {rp : Int32} {rl : Int32} {rs : Int32} {rm : Int32} {rn : Int32} {rz : Int32} {sv : xPl} {mm : xPl} {u : Nat → Int32} {fi : Nat → Int32} {t2 : Nat → Int32} {dm : Nat → Int32} {th : Int32} {sa : Int32} {ln : Int32} {pa : Int32} {le : Int32} {sk : Int32} {nu : Int32} {h : Int64} {fo : Nat → Int64} (C : xC p l s m args meth c cL_law 9 RL nm g.1 (xT g) A) (hX : va_X b L xs s s.heap) (hbl : b < s.heap.size) (hbA : ¬ A b) (hi : i + 6 ≤ L) (hL : L ≤ 3072) (hcC : cells + 40 ≤ room_1.cells) (hsC : slots + 300 ≤ room_1.slots) (H : RI r po pn pl tx sv mm u fi t2 sa ln) (K : LK p l e s m args below meth c g A ap ad am ao b i (cells + 40) (slots + 300) Q) : xW p l e room_1 s m args below meth c g.1 A 9 cells slots Q (wLaw g ap ad am ao r po pn pl tx rp rl rs rm rn rz sv mm u fi t2 dm th sa ln pa le sk nu h fo) [(4, .int (nI i)), (3, .ref ao), (2, .ref (am 0)), (1, .ref (ap 0)), (0, .ref b)] 740 [] := by
  refine x_ws (ws' := ((wOu g ao fo) ++ ((wMo g am u fi t2 dm th sa ln pa le sk nu h) ++ (wCl g ap ad r po pn pl tx rp rl rs rm rn rz sv mm)))) rfl ?_
  refine x_aload_n C 3 rfl rfl dL_law_740 ?_
  refine x_aload_n C 4 rfl rfl dL_law_741 ?_
  refine x_iload C 0 rfl dL_law_742 ?_
  refine x_iconst C 1 (by decide) dL_law_744 ?_
  refine x_iaddN C i 1 rfl rfl dL_law_745 ?_
  refine x_sld C (i + 1) hX hbl hbA rfl (by omega) (by omega) dL_law_746 ?_
  refine x_aload_n C 1 rfl rfl dL_law_747 ?_
  refine x_callL (X := (wOu g ao fo)) (Y := (wMo g am u fi t2 dm th sa ln pa le sk nu h)) (Z := (wCl g ap ad r po pn pl tx rp rl rs rm rn rz sv mm)) [.ref (ap 0), .int (xs (i + 1)), .ref ao] [] C (k_L_expo l g ao fo ap ad r po pn pl tx rp rl rs rm rn rz sv mm (xs (i + 1)) H.clo) yH_L_expo wML_L_176 rfl rfl rfl (nle rfl) (nle rfl) (nle rfl) (rmc hcC (by omega)) (rmc hsC (by omega)) dL_law_748 (fun r0 w0 h0 => ?_)
  have hP := P_expo r po pn pl tx rp rl rs rm rn rz sv mm u fi t2 dm th sa ln pa le sk nu h (xs (i + 1)) H
  rcases h0 with ⟨h1, rfl, w8, hw, rfl⟩ | ⟨E, cd, h1, hcd, rfl, rfl⟩
  · obtain rfl := hw
    obtain ⟨e1, e2, e3⟩ := hP.1 h1
    refine x_perm (ws' := ((wOu g ao (vp_updL fo 0 (Int32.toInt64 (r.ke (Int32.toNatClampNeg (xs (i + 1))))))) ++ ((wMo g am u fi t2 dm th sa ln pa le sk nu h) ++ (wCl g ap ad r po pn pl tx rp rl rs rm rn rz sv mm)))) (List.perm_append_comm_assoc (wMo g am u fi t2 dm th sa ln pa le sk nu h) (wOu g ao (vp_updL fo 0 (Int32.toInt64 (r.ke (Int32.toNatClampNeg (xs (i + 1))))))) (wCl g ap ad r po pn pl tx rp rl rs rm rn rz sv mm)) ?_
    refine x_st (st' := [.int 0]) rfl ?_
    refine x_istore C [(5, .int 0), (4, .int (nI i)), (3, .ref ao), (2, .ref (am 0)), (1, .ref (ap 0)), (0, .ref b)] rfl (by decide) dL_law_751 ?_
    refine x_aload_n C 3 rfl rfl dL_law_753 ?_
    refine x_aload_n C 5 rfl rfl dL_law_754 ?_
    refine x_iload C 1 rfl dL_law_755 ?_
    refine x_iconst C 1 (by decide) dL_law_757 ?_
    refine x_iaddN C i 1 rfl rfl dL_law_758 ?_
    refine x_sld C (i + 1) hX hbl hbA rfl (by omega) (by omega) dL_law_759 ?_
    refine x_FV (w1 := (wOu g ao (vp_updL fo 0 (Int32.toInt64 (r.ke (Int32.toNatClampNeg (xs (i + 1)))))))) (wc := (wMo g am u fi t2 dm th sa ln pa le sk nu h)) (w2 := (wCl g ap ad r po pn pl tx rp rl rs rm rn rz sv mm)) [.int (xs (i + 1))] [] ((wOu g ao (vp_updL fo 0 (Int32.toInt64 (r.ke (Int32.toNatClampNeg (xs (i + 1))))))) ++ ((wMo g am u fi t2 dm (sp_X7_expo_th (xs (i + 1))) sa ln pa le sk nu h) ++ (wCl g ap ad r po pn pl tx rp rl rs rm rn rz sv mm))) C (k_X7_expo l g am u fi t2 dm th sa ln pa le sk nu h (xs (i + 1)) H.hs H.hs6 H.hm) rfl yV_X7_expo wML_L_178 rfl 1 rfl rfl rfl rfl (nle rfl) (nle rfl) (nle rfl) (rmc hcC (by omega)) (rmc hsC (by omega)) dL_law_760 ?_
    refine x_istore C [(6, .int (sp_X7_expo u (xs (i + 1)))), (5, .int 0), (4, .int (nI i)), (3, .ref ao), (2, .ref (am 0)), (1, .ref (ap 0)), (0, .ref b)] rfl (by decide) dL_law_763 ?_
    refine x_aload_n C 4 rfl rfl dL_law_765 ?_
    refine x_FV (w1 := (wOu g ao (vp_updL fo 0 (Int32.toInt64 (r.ke (Int32.toNatClampNeg (xs (i + 1)))))))) (wc := (wMo g am u fi t2 dm (sp_X7_expo_th (xs (i + 1))) sa ln pa le sk nu h)) (w2 := (wCl g ap ad r po pn pl tx rp rl rs rm rn rz sv mm)) [] [] ((wOu g ao (vp_updL fo 0 (Int32.toInt64 (r.ke (Int32.toNatClampNeg (xs (i + 1))))))) ++ ((wMo g am u fi t2 dm (sp_X7_expo_th (xs (i + 1))) sa ln pa le sk nu h) ++ (wCl g ap ad r po pn pl tx rp rl rs rm rn rz sv mm))) C (k_X7_thrown l g am u fi t2 dm (sp_X7_expo_th (xs (i + 1))) sa ln pa le sk nu h) rfl yV_X7_thrown wML_L_154 rfl 1 rfl rfl rfl rfl (nle rfl) (nle rfl) (nle rfl) (rmc hcC (by omega)) (rmc hsC (by omega)) dL_law_766 ?_
    refine x_iload C 1 rfl dL_law_769 ?_
    refine x_icmp_eq C 776 (by decide) dL_law_771 (fun _ => ?_) (fun hz => absurd e1 hz)
    refine x_iload C 1 rfl dL_law_776 ?_
    refine x_if_ne C 793 (by decide) dL_law_778 (fun hz => absurd (by decide) hz) (fun _ => ?_)
    refine x_aload_n C 3 rfl rfl dL_law_781 ?_
    refine x_iconst C 0 (by decide) dL_law_782 ?_
    refine x_lald (f := (vp_updL fo 0 (Int32.toInt64 (r.ke (Int32.toNatClampNeg (xs (i + 1))))))) C 0 3 rfl rfl in1 dL_law_783 ?_
    refine x_st (st' := [.long (Int32.toInt64 (r.ke (Int32.toNatClampNeg (xs (i + 1)))))]) rfl ?_
    refine x_iload C 0 rfl dL_law_784 ?_
    refine x_i2l C dL_law_786 ?_
    refine x_lcmp C dL_law_787 ?_
    refine x_if_eq C 793 (by decide) dL_law_788 (fun _ => ?_) (fun hz => absurd (lgz (congrArg Int32.toInt64 e2)) hz)
    refine x_goto C 3131 (by decide) dL_law_793 ?_
    refine x_lv [(4, .int (nI i)), (3, .ref ao), (2, .ref (am 0)), (1, .ref (ap 0)), (0, .ref b)] [2, 3, 4, 5, 6] rfl ?_
    refine x_wid (k := cells + 40) (n := slots + 300) (by omega) (by omega) ?_
    exact K r po pn pl tx rp rl rs rm rn rz sv mm u fi t2 dm (sp_X7_expo_th (xs (i + 1))) sa ln pa le sk nu h (vp_updL fo 0 (Int32.toInt64 (r.ke (Int32.toNatClampNeg (xs (i + 1)))))) e3
  · obtain ⟨e1, e3⟩ := hP.2 E cd h1 hcd
    refine x_perm (ws' := ((wOu g ao fo) ++ ((wMo g am u fi t2 dm th sa ln pa le sk nu h) ++ (wCl g ap ad r po pn pl tx rp rl rs rm rn rz sv mm)))) (List.perm_append_comm_assoc (wMo g am u fi t2 dm th sa ln pa le sk nu h) (wOu g ao fo) (wCl g ap ad r po pn pl tx rp rl rs rm rn rz sv mm)) ?_
    refine x_st (st' := [.int cd]) rfl ?_
    refine x_istore C [(5, .int cd), (4, .int (nI i)), (3, .ref ao), (2, .ref (am 0)), (1, .ref (ap 0)), (0, .ref b)] rfl (by decide) dL_law_751 ?_
    refine x_aload_n C 3 rfl rfl dL_law_753 ?_
    refine x_aload_n C 5 rfl rfl dL_law_754 ?_
    refine x_iload C 1 rfl dL_law_755 ?_
    refine x_iconst C 1 (by decide) dL_law_757 ?_
    refine x_iaddN C i 1 rfl rfl dL_law_758 ?_
    refine x_sld C (i + 1) hX hbl hbA rfl (by omega) (by omega) dL_law_759 ?_
    refine x_FV (w1 := (wOu g ao fo)) (wc := (wMo g am u fi t2 dm th sa ln pa le sk nu h)) (w2 := (wCl g ap ad r po pn pl tx rp rl rs rm rn rz sv mm)) [.int (xs (i + 1))] [] ((wOu g ao fo) ++ ((wMo g am u fi t2 dm (sp_X7_expo_th (xs (i + 1))) sa ln pa le sk nu h) ++ (wCl g ap ad r po pn pl tx rp rl rs rm rn rz sv mm))) C (k_X7_expo l g am u fi t2 dm th sa ln pa le sk nu h (xs (i + 1)) H.hs H.hs6 H.hm) rfl yV_X7_expo wML_L_178 rfl 1 rfl rfl rfl rfl (nle rfl) (nle rfl) (nle rfl) (rmc hcC (by omega)) (rmc hsC (by omega)) dL_law_760 ?_
    refine x_istore C [(6, .int (sp_X7_expo u (xs (i + 1)))), (5, .int cd), (4, .int (nI i)), (3, .ref ao), (2, .ref (am 0)), (1, .ref (ap 0)), (0, .ref b)] rfl (by decide) dL_law_763 ?_
    refine x_aload_n C 4 rfl rfl dL_law_765 ?_
    refine x_FV (w1 := (wOu g ao fo)) (wc := (wMo g am u fi t2 dm (sp_X7_expo_th (xs (i + 1))) sa ln pa le sk nu h)) (w2 := (wCl g ap ad r po pn pl tx rp rl rs rm rn rz sv mm)) [] [] ((wOu g ao fo) ++ ((wMo g am u fi t2 dm (sp_X7_expo_th (xs (i + 1))) sa ln pa le sk nu h) ++ (wCl g ap ad r po pn pl tx rp rl rs rm rn rz sv mm))) C (k_X7_thrown l g am u fi t2 dm (sp_X7_expo_th (xs (i + 1))) sa ln pa le sk nu h) rfl yV_X7_thrown wML_L_154 rfl 1 rfl rfl rfl rfl (nle rfl) (nle rfl) (nle rfl) (rmc hcC (by omega)) (rmc hsC (by omega)) dL_law_766 ?_
    refine x_iload C 1 rfl dL_law_769 ?_
    refine x_icmp_eq C 776 (by decide) dL_law_771 (fun _ => ?_) (fun hz => absurd e1 hz)
    refine x_iload C 1 rfl dL_law_776 ?_
    refine x_if_ne C 793 (by decide) dL_law_778 (fun _ => ?_) (fun hz => absurd hz (cd0 hcd))
    refine x_goto C 3131 (by decide) dL_law_793 ?_
    refine x_lv [(4, .int (nI i)), (3, .ref ao), (2, .ref (am 0)), (1, .ref (ap 0)), (0, .ref b)] [2, 3, 4, 5, 6] rfl ?_
    refine x_wid (k := cells + 40) (n := slots + 300) (by omega) (by omega) ?_
    exact K r po pn pl tx rp rl rs rm rn rz sv mm u fi t2 dm (sp_X7_expo_th (xs (i + 1))) sa ln pa le sk nu h fo e3
set_option maxRecDepth 100000 in
set_option maxHeartbeats 2000000 in
theorem c_8 {p : Program} {l : Launch} {e : Env} {s : State} {m : MethodId} {args : Array Value} {below : List Frame} {meth : Method} {c : Code} {cells slots : Nat} {Q : State → Prop} {nm : String} {g : xGt} {A : Nat → Prop} {b L i : Nat} {xs : Nat → Int32} {ap ad am : Nat → Nat} {ao : Nat} {r : xR} {po : Int32} {pn : Int32} {pl : Int32} {tx : Nat → Int32} {rp : Int32} {rl : Int32} {rs : Int32} {rm : Int32} {rn : Int32} {rz : Int32} {sv : xPl} {mm : xPl} {u : Nat → Int32} {fi : Nat → Int32} {t2 : Nat → Int32} {dm : Nat → Int32} {th : Int32} {sa : Int32} {ln : Int32} {pa : Int32} {le : Int32} {sk : Int32} {nu : Int32} {h : Int64} {fo : Nat → Int64} (C : xC p l s m args meth c cL_law 9 RL nm g.1 (xT g) A) (hX : va_X b L xs s s.heap) (hbl : b < s.heap.size) (hbA : ¬ A b) (hi : i + 6 ≤ L) (hL : L ≤ 3072) (hcC : cells + 40 ≤ room_1.cells) (hsC : slots + 300 ≤ room_1.slots) (H : RI r po pn pl tx sv mm u fi t2 sa ln) (K : LK p l e s m args below meth c g A ap ad am ao b i (cells + 40) (slots + 300) Q) : xW p l e room_1 s m args below meth c g.1 A 9 cells slots Q (wLaw g ap ad am ao r po pn pl tx rp rl rs rm rn rz sv mm u fi t2 dm th sa ln pa le sk nu h fo) [(4, .int (nI i)), (3, .ref ao), (2, .ref (am 0)), (1, .ref (ap 0)), (0, .ref b)] 796 [] := by
  refine x_ws (ws' := ((wOu g ao fo) ++ ((wMo g am u fi t2 dm th sa ln pa le sk nu h) ++ (wCl g ap ad r po pn pl tx rp rl rs rm rn rz sv mm)))) rfl ?_
  refine x_aload_n C 3 rfl rfl dL_law_796 ?_
  refine x_EV1 (w1 := (wOu g ao fo) ++ (wMo g am u fi t2 dm th sa ln pa le sk nu h)) (wc := (wCl g ap ad r po pn pl tx rp rl rs rm rn rz sv mm)) [] [] C (k_X6_switchRates l g ap ad r po pn pl tx rp rl rs rm rn rz sv mm H.clo) (List.append_assoc _ _ _).symm yV_X6_switchRates wML_L_179 6 rfl rfl rfl rfl (nle rfl) (nle rfl) (nle rfl) (rmc hcC (by omega)) (rmc hsC (by omega)) dL_law_797 (fun E w h => h.elim) (fun r0 w0 h0 => ?_)
  have hP := P_switchRates r po pn pl tx rp rl rs rm rn rz sv mm u fi t2 dm th sa ln pa le sk nu h  H
  obtain ⟨rfl, adn, rfl⟩ := h0
  refine x_ws (ws' := ((wOu g ao fo) ++ ((wMo g am u fi t2 dm th sa ln pa le sk nu h) ++ (wCl g ap ad (r.set_kh (sp_X6_switchRates_kh r)) (sp_spo2 po pn) (sp_spn2 pn) pl tx rp rl rs rm rn rz (svS sv adn r po pn) mm)))) (List.append_assoc _ _ _) ?_
  refine x_st (st' := [.int (sp_X6_switchRates r)]) rfl ?_
  refine x_aload_n C 2 rfl rfl dL_law_800 ?_
  refine x_FV (w1 := (wOu g ao fo)) (wc := (wMo g am u fi t2 dm th sa ln pa le sk nu h)) (w2 := (wCl g ap ad (r.set_kh (sp_X6_switchRates_kh r)) (sp_spo2 po pn) (sp_spn2 pn) pl tx rp rl rs rm rn rz (svS sv adn r po pn) mm)) [] [.int (sp_X6_switchRates r)] ((wOu g ao fo) ++ ((wMo g am (upd (sp_X7_save_s u sa) 24 (1 - (u 24))) fi t2 dm 0 (sp_X7_save_sa sa) ln pa le sk nu h) ++ (wCl g ap ad (r.set_kh (sp_X6_switchRates_kh r)) (sp_spo2 po pn) (sp_spn2 pn) pl tx rp rl rs rm rn rz (svS sv adn r po pn) mm))) C (k_X7_switchRates l g am u fi t2 dm th sa ln pa le sk nu h H.hs H.hs6 H.hm) rfl yV_X7_switchRates wML_L_183 rfl 1 rfl rfl rfl rfl (nle rfl) (nle rfl) (nle rfl) (rmc hcC (by omega)) (rmc hsC (by omega)) dL_law_801 ?_
  refine x_icmp_eq C 3131 (by decide) dL_law_804 (fun _ => ?_) (fun hz => absurd hP.1 hz)
  refine x_wid (k := cells + 40) (n := slots + 300) (by omega) (by omega) ?_
  exact K (r.set_kh (sp_X6_switchRates_kh r)) (sp_spo2 po pn) (sp_spn2 pn) pl tx rp rl rs rm rn rz (svS sv adn r po pn) mm (upd (sp_X7_save_s u sa) 24 (1 - (u 24))) fi t2 dm 0 (sp_X7_save_sa sa) ln pa le sk nu h fo (hP.2 adn)
set_option maxRecDepth 100000 in
set_option maxHeartbeats 2000000 in
theorem c_9 {p : Program} {l : Launch} {e : Env} {s : State} {m : MethodId} {args : Array Value} {below : List Frame} {meth : Method} {c : Code} {cells slots : Nat} {Q : State → Prop} {nm : String} {g : xGt} {A : Nat → Prop} {b L i : Nat} {xs : Nat → Int32} {ap ad am : Nat → Nat} {ao : Nat} {r : xR} {po : Int32} {pn : Int32} {pl : Int32} {tx : Nat → Int32} {rp : Int32} {rl : Int32} {rs : Int32} {rm : Int32} {rn : Int32} {rz : Int32} {sv : xPl} {mm : xPl} {u : Nat → Int32} {fi : Nat → Int32} {t2 : Nat → Int32} {dm : Nat → Int32} {th : Int32} {sa : Int32} {ln : Int32} {pa : Int32} {le : Int32} {sk : Int32} {nu : Int32} {h : Int64} {fo : Nat → Int64} (C : xC p l s m args meth c cL_law 9 RL nm g.1 (xT g) A) (hX : va_X b L xs s s.heap) (hbl : b < s.heap.size) (hbA : ¬ A b) (hi : i + 6 ≤ L) (hL : L ≤ 3072) (hcC : cells + 40 ≤ room_1.cells) (hsC : slots + 300 ≤ room_1.slots) (H : RI r po pn pl tx sv mm u fi t2 sa ln) (K : LK p l e s m args below meth c g A ap ad am ao b i (cells + 40) (slots + 300) Q) : xW p l e room_1 s m args below meth c g.1 A 9 cells slots Q (wLaw g ap ad am ao r po pn pl tx rp rl rs rm rn rz sv mm u fi t2 dm th sa ln pa le sk nu h fo) [(4, .int (nI i)), (3, .ref ao), (2, .ref (am 0)), (1, .ref (ap 0)), (0, .ref b)] 809 [] := by
  refine x_ws (ws' := ((wOu g ao fo) ++ ((wMo g am u fi t2 dm th sa ln pa le sk nu h) ++ (wCl g ap ad r po pn pl tx rp rl rs rm rn rz sv mm)))) rfl ?_
  refine x_aload_n C 3 rfl rfl dL_law_809 ?_
  refine x_EV1 (w1 := (wOu g ao fo) ++ (wMo g am u fi t2 dm th sa ln pa le sk nu h)) (wc := (wCl g ap ad r po pn pl tx rp rl rs rm rn rz sv mm)) [] [] C (k_X6_isHigh l g ap ad r po pn pl tx rp rl rs rm rn rz sv mm H.clo) (List.append_assoc _ _ _).symm yV_X6_isHigh wML_L_184 6 rfl rfl rfl rfl (nle rfl) (nle rfl) (nle rfl) (rmc hcC (by omega)) (rmc hsC (by omega)) dL_law_810 (fun E w h => h.elim) (fun r0 w0 h0 => ?_)
  have hP := P_isHigh r po pn pl tx rp rl rs rm rn rz sv mm u fi t2 dm th sa ln pa le sk nu h  H
  obtain ⟨rfl, rfl⟩ := h0
  refine x_ws (ws' := ((wOu g ao fo) ++ ((wMo g am u fi t2 dm th sa ln pa le sk nu h) ++ (wCl g ap ad r po pn pl tx rp rl rs rm rn rz sv mm)))) (List.append_assoc _ _ _) ?_
  refine x_st (st' := [.int r.kh]) rfl ?_
  refine x_aload_n C 2 rfl rfl dL_law_813 ?_
  refine x_FV (w1 := (wOu g ao fo)) (wc := (wMo g am u fi t2 dm th sa ln pa le sk nu h)) (w2 := (wCl g ap ad r po pn pl tx rp rl rs rm rn rz sv mm)) [] [.int r.kh] ((wOu g ao fo) ++ ((wMo g am u fi t2 dm 0 sa ln pa le sk nu h) ++ (wCl g ap ad r po pn pl tx rp rl rs rm rn rz sv mm))) C (k_X7_isHigh l g am u fi t2 dm th sa ln pa le sk nu h H.hs H.hs6 H.hm) rfl yV_X7_isHigh wML_L_187 rfl 1 rfl rfl rfl rfl (nle rfl) (nle rfl) (nle rfl) (rmc hcC (by omega)) (rmc hsC (by omega)) dL_law_814 ?_
  refine x_icmp_eq C 3131 (by decide) dL_law_817 (fun _ => ?_) (fun hz => absurd hP.1 hz)
  refine x_wid (k := cells + 40) (n := slots + 300) (by omega) (by omega) ?_
  exact K r po pn pl tx rp rl rs rm rn rz sv mm u fi t2 dm 0 sa ln pa le sk nu h fo hP.2
set_option maxRecDepth 100000 in
set_option maxHeartbeats 2000000 in
theorem c_10 {p : Program} {l : Launch} {e : Env} {s : State} {m : MethodId} {args : Array Value} {below : List Frame} {meth : Method} {c : Code} {cells slots : Nat} {Q : State → Prop} {nm : String} {g : xGt} {A : Nat → Prop} {b L i : Nat} {xs : Nat → Int32} {ap ad am : Nat → Nat} {ao : Nat} {r : xR} {po : Int32} {pn : Int32} {pl : Int32} {tx : Nat → Int32} {rp : Int32} {rl : Int32} {rs : Int32} {rm : Int32} {rn : Int32} {rz : Int32} {sv : xPl} {mm : xPl} {u : Nat → Int32} {fi : Nat → Int32} {t2 : Nat → Int32} {dm : Nat → Int32} {th : Int32} {sa : Int32} {ln : Int32} {pa : Int32} {le : Int32} {sk : Int32} {nu : Int32} {h : Int64} {fo : Nat → Int64} (C : xC p l s m args meth c cL_law 9 RL nm g.1 (xT g) A) (hX : va_X b L xs s s.heap) (hbl : b < s.heap.size) (hbA : ¬ A b) (hi : i + 6 ≤ L) (hL : L ≤ 3072) (hcC : cells + 40 ≤ room_1.cells) (hsC : slots + 300 ≤ room_1.slots) (H : RI r po pn pl tx sv mm u fi t2 sa ln) (K : LK p l e s m args below meth c g A ap ad am ao b i (cells + 40) (slots + 300) Q) : xW p l e room_1 s m args below meth c g.1 A 9 cells slots Q (wLaw g ap ad am ao r po pn pl tx rp rl rs rm rn rz sv mm u fi t2 dm th sa ln pa le sk nu h fo) [(4, .int (nI i)), (3, .ref ao), (2, .ref (am 0)), (1, .ref (ap 0)), (0, .ref b)] 822 [] := by
  refine x_ws (ws' := ((wOu g ao fo) ++ ((wMo g am u fi t2 dm th sa ln pa le sk nu h) ++ (wCl g ap ad r po pn pl tx rp rl rs rm rn rz sv mm)))) rfl ?_
  refine x_aload_n C 3 rfl rfl dL_law_822 ?_
  refine x_aload_n C 4 rfl rfl dL_law_823 ?_
  refine x_iload C 0 rfl dL_law_824 ?_
  refine x_iconst C 1 (by decide) dL_law_826 ?_
  refine x_iaddN C i 1 rfl rfl dL_law_827 ?_
  refine x_sld C (i + 1) hX hbl hbA rfl (by omega) (by omega) dL_law_828 ?_
  refine x_if_eq C 836 (by decide) dL_law_829 (fun hq1 => ?_) (fun hq1 => ?_)
  · refine x_iconst C 0 (by decide) dL_law_836 ?_
    refine x_EV1 (w1 := (wOu g ao fo) ++ (wMo g am u fi t2 dm th sa ln pa le sk nu h)) (wc := (wCl g ap ad r po pn pl tx rp rl rs rm rn rz sv mm)) [.int 0] [] C (k_X6_cutThrottle l g ap ad r po pn pl tx rp rl rs rm rn rz sv mm 0 (Or.inl rfl) H.clo) (List.append_assoc _ _ _).symm yV_X6_cutThrottle wML_L_188 6 rfl rfl rfl rfl (nle rfl) (nle rfl) (nle rfl) (rmc hcC (by omega)) (rmc hsC (by omega)) dL_law_837 (fun E w h => h.elim) (fun r0 w0 h0 => ?_)
    have hP := P_cutThrottle r po pn pl tx rp rl rs rm rn rz sv mm u fi t2 dm th sa ln pa le sk nu h 0 (Or.inl rfl) H
    obtain ⟨rfl, adn, rfl⟩ := h0
    refine x_ws (ws' := ((wOu g ao fo) ++ ((wMo g am u fi t2 dm th sa ln pa le sk nu h) ++ (wCl g ap ad (r.set_kc 0) (sp_spo2 po pn) (sp_spn2 pn) pl tx rp rl rs rm rn rz (svS sv adn r po pn) mm)))) (List.append_assoc _ _ _) ?_
    refine x_st (st' := [.int r.kc]) rfl ?_
    refine x_aload_n C 2 rfl rfl dL_law_840 ?_
    refine x_aload_n C 4 rfl rfl dL_law_841 ?_
    refine x_iload C 0 rfl dL_law_842 ?_
    refine x_iconst C 1 (by decide) dL_law_844 ?_
    refine x_iaddN C i 1 rfl rfl dL_law_845 ?_
    refine x_sld C (i + 1) hX hbl hbA rfl (by omega) (by omega) dL_law_846 ?_
    refine x_if_eq C 854 (by decide) dL_law_847 (fun _ => ?_) (fun hz => absurd hq1 hz)
    refine x_iconst C 0 (by decide) dL_law_854 ?_
    refine x_FV (w1 := (wOu g ao fo)) (wc := (wMo g am u fi t2 dm th sa ln pa le sk nu h)) (w2 := (wCl g ap ad (r.set_kc 0) (sp_spo2 po pn) (sp_spn2 pn) pl tx rp rl rs rm rn rz (svS sv adn r po pn) mm)) [.int 0] [.int r.kc] ((wOu g ao fo) ++ ((wMo g am (sp_X7_cutThrottle_s u sa 0) fi t2 dm 0 (sp_X7_save_sa sa) ln pa le sk nu h) ++ (wCl g ap ad (r.set_kc 0) (sp_spo2 po pn) (sp_spn2 pn) pl tx rp rl rs rm rn rz (svS sv adn r po pn) mm))) C (k_X7_cutThrottle l g am u fi t2 dm th sa ln pa le sk nu h 0 (Or.inl rfl) H.hs H.hs6 H.hm) rfl yV_X7_cutThrottle wML_L_192 rfl 1 rfl rfl rfl rfl (nle rfl) (nle rfl) (nle rfl) (rmc hcC (by omega)) (rmc hsC (by omega)) dL_law_855 ?_
    refine x_icmp_eq C 3131 (by decide) dL_law_858 (fun _ => ?_) (fun hz => absurd hP.1 hz)
    refine x_wid (k := cells + 40) (n := slots + 300) (by omega) (by omega) ?_
    exact K (r.set_kc 0) (sp_spo2 po pn) (sp_spn2 pn) pl tx rp rl rs rm rn rz (svS sv adn r po pn) mm (sp_X7_cutThrottle_s u sa 0) fi t2 dm 0 (sp_X7_save_sa sa) ln pa le sk nu h fo (hP.2 adn)
  · refine x_iconst C 1 (by decide) dL_law_832 ?_
    refine x_goto C 837 (by decide) dL_law_833 ?_
    refine x_EV1 (w1 := (wOu g ao fo) ++ (wMo g am u fi t2 dm th sa ln pa le sk nu h)) (wc := (wCl g ap ad r po pn pl tx rp rl rs rm rn rz sv mm)) [.int 1] [] C (k_X6_cutThrottle l g ap ad r po pn pl tx rp rl rs rm rn rz sv mm 1 (Or.inr rfl) H.clo) (List.append_assoc _ _ _).symm yV_X6_cutThrottle wML_L_188 6 rfl rfl rfl rfl (nle rfl) (nle rfl) (nle rfl) (rmc hcC (by omega)) (rmc hsC (by omega)) dL_law_837 (fun E w h => h.elim) (fun r0 w0 h0 => ?_)
    have hP := P_cutThrottle r po pn pl tx rp rl rs rm rn rz sv mm u fi t2 dm th sa ln pa le sk nu h 1 (Or.inr rfl) H
    obtain ⟨rfl, adn, rfl⟩ := h0
    refine x_ws (ws' := ((wOu g ao fo) ++ ((wMo g am u fi t2 dm th sa ln pa le sk nu h) ++ (wCl g ap ad (r.set_kc 1) (sp_spo2 po pn) (sp_spn2 pn) pl tx rp rl rs rm rn rz (svS sv adn r po pn) mm)))) (List.append_assoc _ _ _) ?_
    refine x_st (st' := [.int r.kc]) rfl ?_
    refine x_aload_n C 2 rfl rfl dL_law_840 ?_
    refine x_aload_n C 4 rfl rfl dL_law_841 ?_
    refine x_iload C 0 rfl dL_law_842 ?_
    refine x_iconst C 1 (by decide) dL_law_844 ?_
    refine x_iaddN C i 1 rfl rfl dL_law_845 ?_
    refine x_sld C (i + 1) hX hbl hbA rfl (by omega) (by omega) dL_law_846 ?_
    refine x_if_eq C 854 (by decide) dL_law_847 (fun hz => absurd hz hq1) (fun _ => ?_)
    refine x_iconst C 1 (by decide) dL_law_850 ?_
    refine x_goto C 855 (by decide) dL_law_851 ?_
    refine x_FV (w1 := (wOu g ao fo)) (wc := (wMo g am u fi t2 dm th sa ln pa le sk nu h)) (w2 := (wCl g ap ad (r.set_kc 1) (sp_spo2 po pn) (sp_spn2 pn) pl tx rp rl rs rm rn rz (svS sv adn r po pn) mm)) [.int 1] [.int r.kc] ((wOu g ao fo) ++ ((wMo g am (sp_X7_cutThrottle_s u sa 1) fi t2 dm 0 (sp_X7_save_sa sa) ln pa le sk nu h) ++ (wCl g ap ad (r.set_kc 1) (sp_spo2 po pn) (sp_spn2 pn) pl tx rp rl rs rm rn rz (svS sv adn r po pn) mm))) C (k_X7_cutThrottle l g am u fi t2 dm th sa ln pa le sk nu h 1 (Or.inr rfl) H.hs H.hs6 H.hm) rfl yV_X7_cutThrottle wML_L_192 rfl 1 rfl rfl rfl rfl (nle rfl) (nle rfl) (nle rfl) (rmc hcC (by omega)) (rmc hsC (by omega)) dL_law_855 ?_
    refine x_icmp_eq C 3131 (by decide) dL_law_858 (fun _ => ?_) (fun hz => absurd hP.1 hz)
    refine x_wid (k := cells + 40) (n := slots + 300) (by omega) (by omega) ?_
    exact K (r.set_kc 1) (sp_spo2 po pn) (sp_spn2 pn) pl tx rp rl rs rm rn rz (svS sv adn r po pn) mm (sp_X7_cutThrottle_s u sa 1) fi t2 dm 0 (sp_X7_save_sa sa) ln pa le sk nu h fo (hP.2 adn)
set_option maxRecDepth 100000 in
set_option maxHeartbeats 2000000 in
theorem c_11 {p : Program} {l : Launch} {e : Env} {s : State} {m : MethodId} {args : Array Value} {below : List Frame} {meth : Method} {c : Code} {cells slots : Nat} {Q : State → Prop} {nm : String} {g : xGt} {A : Nat → Prop} {b L i : Nat} {xs : Nat → Int32} {ap ad am : Nat → Nat} {ao : Nat} {r : xR} {po : Int32} {pn : Int32} {pl : Int32} {tx : Nat → Int32} {rp : Int32} {rl : Int32} {rs : Int32} {rm : Int32} {rn : Int32} {rz : Int32} {sv : xPl} {mm : xPl} {u : Nat → Int32} {fi : Nat → Int32} {t2 : Nat → Int32} {dm : Nat → Int32} {th : Int32} {sa : Int32} {ln : Int32} {pa : Int32} {le : Int32} {sk : Int32} {nu : Int32} {h : Int64} {fo : Nat → Int64} (C : xC p l s m args meth c cL_law 9 RL nm g.1 (xT g) A) (hX : va_X b L xs s s.heap) (hbl : b < s.heap.size) (hbA : ¬ A b) (hi : i + 6 ≤ L) (hL : L ≤ 3072) (hcC : cells + 40 ≤ room_1.cells) (hsC : slots + 300 ≤ room_1.slots) (H : RI r po pn pl tx sv mm u fi t2 sa ln) (K : LK p l e s m args below meth c g A ap ad am ao b i (cells + 40) (slots + 300) Q) : xW p l e room_1 s m args below meth c g.1 A 9 cells slots Q (wLaw g ap ad am ao r po pn pl tx rp rl rs rm rn rz sv mm u fi t2 dm th sa ln pa le sk nu h fo) [(4, .int (nI i)), (3, .ref ao), (2, .ref (am 0)), (1, .ref (ap 0)), (0, .ref b)] 863 [] := by
  refine x_ws (ws' := ((wOu g ao fo) ++ ((wMo g am u fi t2 dm th sa ln pa le sk nu h) ++ (wCl g ap ad r po pn pl tx rp rl rs rm rn rz sv mm)))) rfl ?_
  refine x_aload_n C 3 rfl rfl dL_law_863 ?_
  refine x_EV1 (w1 := (wOu g ao fo) ++ (wMo g am u fi t2 dm th sa ln pa le sk nu h)) (wc := (wCl g ap ad r po pn pl tx rp rl rs rm rn rz sv mm)) [] [] C (k_X6_isCut l g ap ad r po pn pl tx rp rl rs rm rn rz sv mm H.clo) (List.append_assoc _ _ _).symm yV_X6_isCut wML_L_193 6 rfl rfl rfl rfl (nle rfl) (nle rfl) (nle rfl) (rmc hcC (by omega)) (rmc hsC (by omega)) dL_law_864 (fun E w h => h.elim) (fun r0 w0 h0 => ?_)
  have hP := P_isCut r po pn pl tx rp rl rs rm rn rz sv mm u fi t2 dm th sa ln pa le sk nu h  H
  obtain ⟨rfl, rfl⟩ := h0
  refine x_ws (ws' := ((wOu g ao fo) ++ ((wMo g am u fi t2 dm th sa ln pa le sk nu h) ++ (wCl g ap ad r po pn pl tx rp rl rs rm rn rz sv mm)))) (List.append_assoc _ _ _) ?_
  refine x_st (st' := [.int r.kc]) rfl ?_
  refine x_aload_n C 2 rfl rfl dL_law_867 ?_
  refine x_FV (w1 := (wOu g ao fo)) (wc := (wMo g am u fi t2 dm th sa ln pa le sk nu h)) (w2 := (wCl g ap ad r po pn pl tx rp rl rs rm rn rz sv mm)) [] [.int r.kc] ((wOu g ao fo) ++ ((wMo g am u fi t2 dm 0 sa ln pa le sk nu h) ++ (wCl g ap ad r po pn pl tx rp rl rs rm rn rz sv mm))) C (k_X7_isCut l g am u fi t2 dm th sa ln pa le sk nu h H.hs H.hs6 H.hm) rfl yV_X7_isCut wML_L_196 rfl 1 rfl rfl rfl rfl (nle rfl) (nle rfl) (nle rfl) (rmc hcC (by omega)) (rmc hsC (by omega)) dL_law_868 ?_
  refine x_icmp_eq C 3131 (by decide) dL_law_871 (fun _ => ?_) (fun hz => absurd hP.1 hz)
  refine x_wid (k := cells + 40) (n := slots + 300) (by omega) (by omega) ?_
  exact K r po pn pl tx rp rl rs rm rn rz sv mm u fi t2 dm 0 sa ln pa le sk nu h fo hP.2
set_option maxRecDepth 100000 in
set_option maxHeartbeats 2000000 in
theorem c_12 {p : Program} {l : Launch} {e : Env} {s : State} {m : MethodId} {args : Array Value} {below : List Frame} {meth : Method} {c : Code} {cells slots : Nat} {Q : State → Prop} {nm : String} {g : xGt} {A : Nat → Prop} {b L i : Nat} {xs : Nat → Int32} {ap ad am : Nat → Nat} {ao : Nat} {r : xR} {po : Int32} {pn : Int32} {pl : Int32} {tx : Nat → Int32} {rp : Int32} {rl : Int32} {rs : Int32} {rm : Int32} {rn : Int32} {rz : Int32} {sv : xPl} {mm : xPl} {u : Nat → Int32} {fi : Nat → Int32} {t2 : Nat → Int32} {dm : Nat → Int32} {th : Int32} {sa : Int32} {ln : Int32} {pa : Int32} {le : Int32} {sk : Int32} {nu : Int32} {h : Int64} {fo : Nat → Int64} (C : xC p l s m args meth c cL_law 9 RL nm g.1 (xT g) A) (hX : va_X b L xs s s.heap) (hbl : b < s.heap.size) (hbA : ¬ A b) (hi : i + 6 ≤ L) (hL : L ≤ 3072) (hcC : cells + 40 ≤ room_1.cells) (hsC : slots + 300 ≤ room_1.slots) (H : RI r po pn pl tx sv mm u fi t2 sa ln) (K : LK p l e s m args below meth c g A ap ad am ao b i (cells + 40) (slots + 300) Q) : xW p l e room_1 s m args below meth c g.1 A 9 cells slots Q (wLaw g ap ad am ao r po pn pl tx rp rl rs rm rn rz sv mm u fi t2 dm th sa ln pa le sk nu h fo) [(4, .int (nI i)), (3, .ref ao), (2, .ref (am 0)), (1, .ref (ap 0)), (0, .ref b)] 876 [] := by
  refine x_ws (ws' := ((wOu g ao fo) ++ ((wMo g am u fi t2 dm th sa ln pa le sk nu h) ++ (wCl g ap ad r po pn pl tx rp rl rs rm rn rz sv mm)))) rfl ?_
  refine x_aload_n C 3 rfl rfl dL_law_876 ?_
  refine x_aload_n C 4 rfl rfl dL_law_877 ?_
  refine x_iload C 0 rfl dL_law_878 ?_
  refine x_iconst C 1 (by decide) dL_law_880 ?_
  refine x_iaddN C i 1 rfl rfl dL_law_881 ?_
  refine x_sld C (i + 1) hX hbl hbA rfl (by omega) (by omega) dL_law_882 ?_
  refine x_aload_n C 1 rfl rfl dL_law_883 ?_
  refine x_callL (X := (wOu g ao fo)) (Y := (wMo g am u fi t2 dm th sa ln pa le sk nu h)) (Z := (wCl g ap ad r po pn pl tx rp rl rs rm rn rz sv mm)) [.ref (ap 0), .int (xs (i + 1)), .ref ao] [] C (k_L_command l g ao fo ap ad r po pn pl tx rp rl rs rm rn rz sv mm (xs (i + 1)) H.clo) yH_L_command wML_L_197 rfl rfl rfl (nle rfl) (nle rfl) (nle rfl) (rmc hcC (by omega)) (rmc hsC (by omega)) dL_law_884 (fun r0 w0 h0 => ?_)
  have hP := P_command r po pn pl tx rp rl rs rm rn rz sv mm u fi t2 dm th sa ln pa le sk nu h (xs (i + 1)) H
  rcases h0 with ⟨h1, rfl, w8, hw, rfl⟩ | ⟨E, cd, h1, hcd, rfl, rfl⟩
  · obtain rfl := hw
    obtain ⟨e1, e2, e3⟩ := hP.1 h1
    refine x_perm (ws' := ((wOu g ao (vp_updL fo 0 (Int32.toInt64 (sp_X5_commandOf r.kp r.ke r.kr r.kt r.kh r.kc (Int32.toNatClampNeg (xs (i + 1))))))) ++ ((wMo g am u fi t2 dm th sa ln pa le sk nu h) ++ (wCl g ap ad r po pn pl tx rp rl rs rm rn rz sv mm)))) (List.perm_append_comm_assoc (wMo g am u fi t2 dm th sa ln pa le sk nu h) (wOu g ao (vp_updL fo 0 (Int32.toInt64 (sp_X5_commandOf r.kp r.ke r.kr r.kt r.kh r.kc (Int32.toNatClampNeg (xs (i + 1))))))) (wCl g ap ad r po pn pl tx rp rl rs rm rn rz sv mm)) ?_
    refine x_st (st' := [.int 0]) rfl ?_
    refine x_istore C [(5, .int 0), (4, .int (nI i)), (3, .ref ao), (2, .ref (am 0)), (1, .ref (ap 0)), (0, .ref b)] rfl (by decide) dL_law_887 ?_
    refine x_aload_n C 3 rfl rfl dL_law_889 ?_
    refine x_aload_n C 5 rfl rfl dL_law_890 ?_
    refine x_iload C 1 rfl dL_law_891 ?_
    refine x_iconst C 1 (by decide) dL_law_893 ?_
    refine x_iaddN C i 1 rfl rfl dL_law_894 ?_
    refine x_sld C (i + 1) hX hbl hbA rfl (by omega) (by omega) dL_law_895 ?_
    refine x_FV (w1 := (wOu g ao (vp_updL fo 0 (Int32.toInt64 (sp_X5_commandOf r.kp r.ke r.kr r.kt r.kh r.kc (Int32.toNatClampNeg (xs (i + 1)))))))) (wc := (wMo g am u fi t2 dm th sa ln pa le sk nu h)) (w2 := (wCl g ap ad r po pn pl tx rp rl rs rm rn rz sv mm)) [.int (xs (i + 1))] [] ((wOu g ao (vp_updL fo 0 (Int32.toInt64 (sp_X5_commandOf r.kp r.ke r.kr r.kt r.kh r.kc (Int32.toNatClampNeg (xs (i + 1))))))) ++ ((wMo g am u fi t2 dm (sp_X7_command_th (xs (i + 1))) sa ln pa le sk nu h) ++ (wCl g ap ad r po pn pl tx rp rl rs rm rn rz sv mm))) C (k_X7_command l g am u fi t2 dm th sa ln pa le sk nu h (xs (i + 1)) H.hs H.hs6 H.hm) rfl yV_X7_command wML_L_199 rfl 1 rfl rfl rfl rfl (nle rfl) (nle rfl) (nle rfl) (rmc hcC (by omega)) (rmc hsC (by omega)) dL_law_896 ?_
    refine x_istore C [(6, .int (sp_X7_command u (xs (i + 1)))), (5, .int 0), (4, .int (nI i)), (3, .ref ao), (2, .ref (am 0)), (1, .ref (ap 0)), (0, .ref b)] rfl (by decide) dL_law_899 ?_
    refine x_aload_n C 4 rfl rfl dL_law_901 ?_
    refine x_FV (w1 := (wOu g ao (vp_updL fo 0 (Int32.toInt64 (sp_X5_commandOf r.kp r.ke r.kr r.kt r.kh r.kc (Int32.toNatClampNeg (xs (i + 1)))))))) (wc := (wMo g am u fi t2 dm (sp_X7_command_th (xs (i + 1))) sa ln pa le sk nu h)) (w2 := (wCl g ap ad r po pn pl tx rp rl rs rm rn rz sv mm)) [] [] ((wOu g ao (vp_updL fo 0 (Int32.toInt64 (sp_X5_commandOf r.kp r.ke r.kr r.kt r.kh r.kc (Int32.toNatClampNeg (xs (i + 1))))))) ++ ((wMo g am u fi t2 dm (sp_X7_command_th (xs (i + 1))) sa ln pa le sk nu h) ++ (wCl g ap ad r po pn pl tx rp rl rs rm rn rz sv mm))) C (k_X7_thrown l g am u fi t2 dm (sp_X7_command_th (xs (i + 1))) sa ln pa le sk nu h) rfl yV_X7_thrown wML_L_154 rfl 1 rfl rfl rfl rfl (nle rfl) (nle rfl) (nle rfl) (rmc hcC (by omega)) (rmc hsC (by omega)) dL_law_902 ?_
    refine x_iload C 1 rfl dL_law_905 ?_
    refine x_icmp_eq C 912 (by decide) dL_law_907 (fun _ => ?_) (fun hz => absurd e1 hz)
    refine x_iload C 1 rfl dL_law_912 ?_
    refine x_if_ne C 929 (by decide) dL_law_914 (fun hz => absurd (by decide) hz) (fun _ => ?_)
    refine x_aload_n C 3 rfl rfl dL_law_917 ?_
    refine x_iconst C 0 (by decide) dL_law_918 ?_
    refine x_lald (f := (vp_updL fo 0 (Int32.toInt64 (sp_X5_commandOf r.kp r.ke r.kr r.kt r.kh r.kc (Int32.toNatClampNeg (xs (i + 1))))))) C 0 3 rfl rfl in1 dL_law_919 ?_
    refine x_st (st' := [.long (Int32.toInt64 (sp_X5_commandOf r.kp r.ke r.kr r.kt r.kh r.kc (Int32.toNatClampNeg (xs (i + 1)))))]) rfl ?_
    refine x_iload C 0 rfl dL_law_920 ?_
    refine x_i2l C dL_law_922 ?_
    refine x_lcmp C dL_law_923 ?_
    refine x_if_eq C 929 (by decide) dL_law_924 (fun _ => ?_) (fun hz => absurd (lgz (congrArg Int32.toInt64 e2)) hz)
    refine x_goto C 3131 (by decide) dL_law_929 ?_
    refine x_lv [(4, .int (nI i)), (3, .ref ao), (2, .ref (am 0)), (1, .ref (ap 0)), (0, .ref b)] [2, 3, 4, 5, 6] rfl ?_
    refine x_wid (k := cells + 40) (n := slots + 300) (by omega) (by omega) ?_
    exact K r po pn pl tx rp rl rs rm rn rz sv mm u fi t2 dm (sp_X7_command_th (xs (i + 1))) sa ln pa le sk nu h (vp_updL fo 0 (Int32.toInt64 (sp_X5_commandOf r.kp r.ke r.kr r.kt r.kh r.kc (Int32.toNatClampNeg (xs (i + 1)))))) e3
  · obtain ⟨e1, e3⟩ := hP.2 E cd h1 hcd
    refine x_perm (ws' := ((wOu g ao fo) ++ ((wMo g am u fi t2 dm th sa ln pa le sk nu h) ++ (wCl g ap ad r po pn pl tx rp rl rs rm rn rz sv mm)))) (List.perm_append_comm_assoc (wMo g am u fi t2 dm th sa ln pa le sk nu h) (wOu g ao fo) (wCl g ap ad r po pn pl tx rp rl rs rm rn rz sv mm)) ?_
    refine x_st (st' := [.int cd]) rfl ?_
    refine x_istore C [(5, .int cd), (4, .int (nI i)), (3, .ref ao), (2, .ref (am 0)), (1, .ref (ap 0)), (0, .ref b)] rfl (by decide) dL_law_887 ?_
    refine x_aload_n C 3 rfl rfl dL_law_889 ?_
    refine x_aload_n C 5 rfl rfl dL_law_890 ?_
    refine x_iload C 1 rfl dL_law_891 ?_
    refine x_iconst C 1 (by decide) dL_law_893 ?_
    refine x_iaddN C i 1 rfl rfl dL_law_894 ?_
    refine x_sld C (i + 1) hX hbl hbA rfl (by omega) (by omega) dL_law_895 ?_
    refine x_FV (w1 := (wOu g ao fo)) (wc := (wMo g am u fi t2 dm th sa ln pa le sk nu h)) (w2 := (wCl g ap ad r po pn pl tx rp rl rs rm rn rz sv mm)) [.int (xs (i + 1))] [] ((wOu g ao fo) ++ ((wMo g am u fi t2 dm (sp_X7_command_th (xs (i + 1))) sa ln pa le sk nu h) ++ (wCl g ap ad r po pn pl tx rp rl rs rm rn rz sv mm))) C (k_X7_command l g am u fi t2 dm th sa ln pa le sk nu h (xs (i + 1)) H.hs H.hs6 H.hm) rfl yV_X7_command wML_L_199 rfl 1 rfl rfl rfl rfl (nle rfl) (nle rfl) (nle rfl) (rmc hcC (by omega)) (rmc hsC (by omega)) dL_law_896 ?_
    refine x_istore C [(6, .int (sp_X7_command u (xs (i + 1)))), (5, .int cd), (4, .int (nI i)), (3, .ref ao), (2, .ref (am 0)), (1, .ref (ap 0)), (0, .ref b)] rfl (by decide) dL_law_899 ?_
    refine x_aload_n C 4 rfl rfl dL_law_901 ?_
    refine x_FV (w1 := (wOu g ao fo)) (wc := (wMo g am u fi t2 dm (sp_X7_command_th (xs (i + 1))) sa ln pa le sk nu h)) (w2 := (wCl g ap ad r po pn pl tx rp rl rs rm rn rz sv mm)) [] [] ((wOu g ao fo) ++ ((wMo g am u fi t2 dm (sp_X7_command_th (xs (i + 1))) sa ln pa le sk nu h) ++ (wCl g ap ad r po pn pl tx rp rl rs rm rn rz sv mm))) C (k_X7_thrown l g am u fi t2 dm (sp_X7_command_th (xs (i + 1))) sa ln pa le sk nu h) rfl yV_X7_thrown wML_L_154 rfl 1 rfl rfl rfl rfl (nle rfl) (nle rfl) (nle rfl) (rmc hcC (by omega)) (rmc hsC (by omega)) dL_law_902 ?_
    refine x_iload C 1 rfl dL_law_905 ?_
    refine x_icmp_eq C 912 (by decide) dL_law_907 (fun _ => ?_) (fun hz => absurd e1 hz)
    refine x_iload C 1 rfl dL_law_912 ?_
    refine x_if_ne C 929 (by decide) dL_law_914 (fun _ => ?_) (fun hz => absurd hz (cd0 hcd))
    refine x_goto C 3131 (by decide) dL_law_929 ?_
    refine x_lv [(4, .int (nI i)), (3, .ref ao), (2, .ref (am 0)), (1, .ref (ap 0)), (0, .ref b)] [2, 3, 4, 5, 6] rfl ?_
    refine x_wid (k := cells + 40) (n := slots + 300) (by omega) (by omega) ?_
    exact K r po pn pl tx rp rl rs rm rn rz sv mm u fi t2 dm (sp_X7_command_th (xs (i + 1))) sa ln pa le sk nu h fo e3
set_option maxRecDepth 100000 in
set_option maxHeartbeats 2000000 in
theorem c_13 {p : Program} {l : Launch} {e : Env} {s : State} {m : MethodId} {args : Array Value} {below : List Frame} {meth : Method} {c : Code} {cells slots : Nat} {Q : State → Prop} {nm : String} {g : xGt} {A : Nat → Prop} {b L i : Nat} {xs : Nat → Int32} {ap ad am : Nat → Nat} {ao : Nat} {r : xR} {po : Int32} {pn : Int32} {pl : Int32} {tx : Nat → Int32} {rp : Int32} {rl : Int32} {rs : Int32} {rm : Int32} {rn : Int32} {rz : Int32} {sv : xPl} {mm : xPl} {u : Nat → Int32} {fi : Nat → Int32} {t2 : Nat → Int32} {dm : Nat → Int32} {th : Int32} {sa : Int32} {ln : Int32} {pa : Int32} {le : Int32} {sk : Int32} {nu : Int32} {h : Int64} {fo : Nat → Int64} (C : xC p l s m args meth c cL_law 9 RL nm g.1 (xT g) A) (hX : va_X b L xs s s.heap) (hbl : b < s.heap.size) (hbA : ¬ A b) (hi : i + 6 ≤ L) (hL : L ≤ 3072) (hcC : cells + 40 ≤ room_1.cells) (hsC : slots + 300 ≤ room_1.slots) (H : RI r po pn pl tx sv mm u fi t2 sa ln) (K : LK p l e s m args below meth c g A ap ad am ao b i (cells + 40) (slots + 300) Q) : xW p l e room_1 s m args below meth c g.1 A 9 cells slots Q (wLaw g ap ad am ao r po pn pl tx rp rl rs rm rn rz sv mm u fi t2 dm th sa ln pa le sk nu h fo) [(4, .int (nI i)), (3, .ref ao), (2, .ref (am 0)), (1, .ref (ap 0)), (0, .ref b)] 932 [] := by
  refine x_ws (ws' := ((wOu g ao fo) ++ ((wMo g am u fi t2 dm th sa ln pa le sk nu h) ++ (wCl g ap ad r po pn pl tx rp rl rs rm rn rz sv mm)))) rfl ?_
  refine x_aload_n C 3 rfl rfl dL_law_932 ?_
  refine x_aload_n C 4 rfl rfl dL_law_933 ?_
  refine x_iload C 0 rfl dL_law_934 ?_
  refine x_iconst C 1 (by decide) dL_law_936 ?_
  refine x_iaddN C i 1 rfl rfl dL_law_937 ?_
  refine x_sld C (i + 1) hX hbl hbA rfl (by omega) (by omega) dL_law_938 ?_
  refine x_aload_n C 4 rfl rfl dL_law_939 ?_
  refine x_iload C 0 rfl dL_law_940 ?_
  refine x_iconst C 2 (by decide) dL_law_942 ?_
  refine x_iaddN C i 2 rfl rfl dL_law_943 ?_
  refine x_sld C (i + 2) hX hbl hbA rfl (by omega) (by omega) dL_law_944 ?_
  refine x_aload_n C 4 rfl rfl dL_law_945 ?_
  refine x_iload C 0 rfl dL_law_946 ?_
  refine x_iconst C 3 (by decide) dL_law_948 ?_
  refine x_iaddN C i 3 rfl rfl dL_law_949 ?_
  refine x_sld C (i + 3) hX hbl hbA rfl (by omega) (by omega) dL_law_950 ?_
  refine x_aload_n C 4 rfl rfl dL_law_951 ?_
  refine x_iload C 0 rfl dL_law_952 ?_
  refine x_iconst C 4 (by decide) dL_law_954 ?_
  refine x_iaddN C i 4 rfl rfl dL_law_955 ?_
  refine x_sld C (i + 4) hX hbl hbA rfl (by omega) (by omega) dL_law_956 ?_
  refine x_aload_n C 4 rfl rfl dL_law_957 ?_
  refine x_iload C 0 rfl dL_law_958 ?_
  refine x_iconst C 5 (by decide) dL_law_960 ?_
  refine x_iaddN C i 5 rfl rfl dL_law_961 ?_
  refine x_sld C (i + 5) hX hbl hbA rfl (by omega) (by omega) dL_law_962 ?_
  refine x_aload_n C 1 rfl rfl dL_law_963 ?_
  refine x_callL (X := (wOu g ao fo)) (Y := (wMo g am u fi t2 dm th sa ln pa le sk nu h)) (Z := (wCl g ap ad r po pn pl tx rp rl rs rm rn rz sv mm)) [.ref (ap 0), .int (xs (i + 1)), .int (xs (i + 2)), .int (xs (i + 3)), .int (xs (i + 4)), .int (xs (i + 5)), .ref ao] [] C (k_L_addMix l g ao fo ap ad r po pn pl tx rp rl rs rm rn rz sv mm (xs (i + 1)) (xs (i + 2)) (xs (i + 3)) (xs (i + 4)) (xs (i + 5)) H.clo) yH_L_addMix wML_L_200 rfl rfl rfl (nle rfl) (nle rfl) (nle rfl) (rmc hcC (by omega)) (rmc hsC (by omega)) dL_law_964 (fun r0 w0 h0 => ?_)
  have hP := P_addMix r po pn pl tx rp rl rs rm rn rz sv mm u fi t2 dm th sa ln pa le sk nu h (xs (i + 1)) (xs (i + 2)) (xs (i + 3)) (xs (i + 4)) (xs (i + 5)) H
  rcases h0 with ⟨h1, rfl, w8, hw, rfl⟩ | ⟨E, cd, h1, hcd, rfl, rfl⟩
  · obtain ⟨adn, rfl⟩ := hw
    obtain ⟨e1, e2, e3⟩ := hP.1 h1
    refine x_perm (ws' := ((wOu g ao (vp_updL fo 0 (Int32.toInt64 ((sp_X2_put_xn r.xn) - 1)))) ++ ((wMo g am u fi t2 dm th sa ln pa le sk nu h) ++ (wCl g ap ad (xRk r.kp r.ke r.kr r.kt r.kh r.kc (sp_X2_put_xn r.xn) (sp_X2_put_xs r.xn r.xs (xs (i + 1))) (sp_X2_put_xv r.xn r.xv (xs (i + 2))) (sp_X2_put_xh r.xn r.xh (xs (i + 3))) (sp_X2_put_xo r.xn r.xo (xs (i + 4))) (sp_X2_put_xc r.xn r.xc (xs (i + 5))) r.vd r.vn r.vl r.vu r.vs r.vm r.vp r.vt r.va r.vw r.jd r.jb r.jc r.js r.jl r.jx r.ji r.jf r.jn r.dq) (sp_spo2 po pn) (sp_spn2 pn) pl tx rp rl rs rm rn rz (svS sv adn r po pn) mm)))) (List.perm_append_comm_assoc (wMo g am u fi t2 dm th sa ln pa le sk nu h) (wOu g ao (vp_updL fo 0 (Int32.toInt64 ((sp_X2_put_xn r.xn) - 1)))) (wCl g ap ad (xRk r.kp r.ke r.kr r.kt r.kh r.kc (sp_X2_put_xn r.xn) (sp_X2_put_xs r.xn r.xs (xs (i + 1))) (sp_X2_put_xv r.xn r.xv (xs (i + 2))) (sp_X2_put_xh r.xn r.xh (xs (i + 3))) (sp_X2_put_xo r.xn r.xo (xs (i + 4))) (sp_X2_put_xc r.xn r.xc (xs (i + 5))) r.vd r.vn r.vl r.vu r.vs r.vm r.vp r.vt r.va r.vw r.jd r.jb r.jc r.js r.jl r.jx r.ji r.jf r.jn r.dq) (sp_spo2 po pn) (sp_spn2 pn) pl tx rp rl rs rm rn rz (svS sv adn r po pn) mm)) ?_
    refine x_st (st' := [.int 0]) rfl ?_
    refine x_istore C [(5, .int 0), (4, .int (nI i)), (3, .ref ao), (2, .ref (am 0)), (1, .ref (ap 0)), (0, .ref b)] rfl (by decide) dL_law_967 ?_
    refine x_aload_n C 3 rfl rfl dL_law_969 ?_
    refine x_aload_n C 5 rfl rfl dL_law_970 ?_
    refine x_iload C 1 rfl dL_law_971 ?_
    refine x_iconst C 1 (by decide) dL_law_973 ?_
    refine x_iaddN C i 1 rfl rfl dL_law_974 ?_
    refine x_sld C (i + 1) hX hbl hbA rfl (by omega) (by omega) dL_law_975 ?_
    refine x_aload_n C 5 rfl rfl dL_law_976 ?_
    refine x_iload C 1 rfl dL_law_977 ?_
    refine x_iconst C 2 (by decide) dL_law_979 ?_
    refine x_iaddN C i 2 rfl rfl dL_law_980 ?_
    refine x_sld C (i + 2) hX hbl hbA rfl (by omega) (by omega) dL_law_981 ?_
    refine x_aload_n C 5 rfl rfl dL_law_982 ?_
    refine x_iload C 1 rfl dL_law_983 ?_
    refine x_iconst C 3 (by decide) dL_law_985 ?_
    refine x_iaddN C i 3 rfl rfl dL_law_986 ?_
    refine x_sld C (i + 3) hX hbl hbA rfl (by omega) (by omega) dL_law_987 ?_
    refine x_aload_n C 5 rfl rfl dL_law_988 ?_
    refine x_iload C 1 rfl dL_law_989 ?_
    refine x_iconst C 4 (by decide) dL_law_991 ?_
    refine x_iaddN C i 4 rfl rfl dL_law_992 ?_
    refine x_sld C (i + 4) hX hbl hbA rfl (by omega) (by omega) dL_law_993 ?_
    refine x_aload_n C 5 rfl rfl dL_law_994 ?_
    refine x_iload C 1 rfl dL_law_995 ?_
    refine x_iconst C 5 (by decide) dL_law_997 ?_
    refine x_iaddN C i 5 rfl rfl dL_law_998 ?_
    refine x_sld C (i + 5) hX hbl hbA rfl (by omega) (by omega) dL_law_999 ?_
    refine x_FV (w1 := (wOu g ao (vp_updL fo 0 (Int32.toInt64 ((sp_X2_put_xn r.xn) - 1))))) (wc := (wMo g am u fi t2 dm th sa ln pa le sk nu h)) (w2 := (wCl g ap ad (xRk r.kp r.ke r.kr r.kt r.kh r.kc (sp_X2_put_xn r.xn) (sp_X2_put_xs r.xn r.xs (xs (i + 1))) (sp_X2_put_xv r.xn r.xv (xs (i + 2))) (sp_X2_put_xh r.xn r.xh (xs (i + 3))) (sp_X2_put_xo r.xn r.xo (xs (i + 4))) (sp_X2_put_xc r.xn r.xc (xs (i + 5))) r.vd r.vn r.vl r.vu r.vs r.vm r.vp r.vt r.va r.vw r.jd r.jb r.jc r.js r.jl r.jx r.ji r.jf r.jn r.dq) (sp_spo2 po pn) (sp_spn2 pn) pl tx rp rl rs rm rn rz (svS sv adn r po pn) mm)) [.int (xs (i + 1)), .int (xs (i + 2)), .int (xs (i + 3)), .int (xs (i + 4)), .int (xs (i + 5))] [] ((wOu g ao (vp_updL fo 0 (Int32.toInt64 ((sp_X2_put_xn r.xn) - 1)))) ++ ((wMo g am (sp_X7_addMix_s u sa (xs (i + 1)) (xs (i + 2)) (xs (i + 3)) (xs (i + 4)) (xs (i + 5))) fi t2 dm (sp_X7_addMix_th u (xs (i + 1)) (xs (i + 2)) (xs (i + 3)) (xs (i + 4)) (xs (i + 5))) (sp_X7_addMix_sa u sa (xs (i + 1)) (xs (i + 2)) (xs (i + 3)) (xs (i + 4)) (xs (i + 5))) ln pa le sk nu h) ++ (wCl g ap ad (xRk r.kp r.ke r.kr r.kt r.kh r.kc (sp_X2_put_xn r.xn) (sp_X2_put_xs r.xn r.xs (xs (i + 1))) (sp_X2_put_xv r.xn r.xv (xs (i + 2))) (sp_X2_put_xh r.xn r.xh (xs (i + 3))) (sp_X2_put_xo r.xn r.xo (xs (i + 4))) (sp_X2_put_xc r.xn r.xc (xs (i + 5))) r.vd r.vn r.vl r.vu r.vs r.vm r.vp r.vt r.va r.vw r.jd r.jb r.jc r.js r.jl r.jx r.ji r.jf r.jn r.dq) (sp_spo2 po pn) (sp_spn2 pn) pl tx rp rl rs rm rn rz (svS sv adn r po pn) mm))) C (k_X7_addMix l g am u fi t2 dm th sa ln pa le sk nu h (xs (i + 1)) (xs (i + 2)) (xs (i + 3)) (xs (i + 4)) (xs (i + 5)) H.hs H.hs6 H.hm) rfl yV_X7_addMix wML_L_203 rfl 1 rfl rfl rfl rfl (nle rfl) (nle rfl) (nle rfl) (rmc hcC (by omega)) (rmc hsC (by omega)) dL_law_1000 ?_
    refine x_istore C [(6, .int (sp_X7_addMix u sa (xs (i + 1)) (xs (i + 2)) (xs (i + 3)) (xs (i + 4)) (xs (i + 5)))), (5, .int 0), (4, .int (nI i)), (3, .ref ao), (2, .ref (am 0)), (1, .ref (ap 0)), (0, .ref b)] rfl (by decide) dL_law_1003 ?_
    refine x_aload_n C 4 rfl rfl dL_law_1005 ?_
    refine x_FV (w1 := (wOu g ao (vp_updL fo 0 (Int32.toInt64 ((sp_X2_put_xn r.xn) - 1))))) (wc := (wMo g am (sp_X7_addMix_s u sa (xs (i + 1)) (xs (i + 2)) (xs (i + 3)) (xs (i + 4)) (xs (i + 5))) fi t2 dm (sp_X7_addMix_th u (xs (i + 1)) (xs (i + 2)) (xs (i + 3)) (xs (i + 4)) (xs (i + 5))) (sp_X7_addMix_sa u sa (xs (i + 1)) (xs (i + 2)) (xs (i + 3)) (xs (i + 4)) (xs (i + 5))) ln pa le sk nu h)) (w2 := (wCl g ap ad (xRk r.kp r.ke r.kr r.kt r.kh r.kc (sp_X2_put_xn r.xn) (sp_X2_put_xs r.xn r.xs (xs (i + 1))) (sp_X2_put_xv r.xn r.xv (xs (i + 2))) (sp_X2_put_xh r.xn r.xh (xs (i + 3))) (sp_X2_put_xo r.xn r.xo (xs (i + 4))) (sp_X2_put_xc r.xn r.xc (xs (i + 5))) r.vd r.vn r.vl r.vu r.vs r.vm r.vp r.vt r.va r.vw r.jd r.jb r.jc r.js r.jl r.jx r.ji r.jf r.jn r.dq) (sp_spo2 po pn) (sp_spn2 pn) pl tx rp rl rs rm rn rz (svS sv adn r po pn) mm)) [] [] ((wOu g ao (vp_updL fo 0 (Int32.toInt64 ((sp_X2_put_xn r.xn) - 1)))) ++ ((wMo g am (sp_X7_addMix_s u sa (xs (i + 1)) (xs (i + 2)) (xs (i + 3)) (xs (i + 4)) (xs (i + 5))) fi t2 dm (sp_X7_addMix_th u (xs (i + 1)) (xs (i + 2)) (xs (i + 3)) (xs (i + 4)) (xs (i + 5))) (sp_X7_addMix_sa u sa (xs (i + 1)) (xs (i + 2)) (xs (i + 3)) (xs (i + 4)) (xs (i + 5))) ln pa le sk nu h) ++ (wCl g ap ad (xRk r.kp r.ke r.kr r.kt r.kh r.kc (sp_X2_put_xn r.xn) (sp_X2_put_xs r.xn r.xs (xs (i + 1))) (sp_X2_put_xv r.xn r.xv (xs (i + 2))) (sp_X2_put_xh r.xn r.xh (xs (i + 3))) (sp_X2_put_xo r.xn r.xo (xs (i + 4))) (sp_X2_put_xc r.xn r.xc (xs (i + 5))) r.vd r.vn r.vl r.vu r.vs r.vm r.vp r.vt r.va r.vw r.jd r.jb r.jc r.js r.jl r.jx r.ji r.jf r.jn r.dq) (sp_spo2 po pn) (sp_spn2 pn) pl tx rp rl rs rm rn rz (svS sv adn r po pn) mm))) C (k_X7_thrown l g am (sp_X7_addMix_s u sa (xs (i + 1)) (xs (i + 2)) (xs (i + 3)) (xs (i + 4)) (xs (i + 5))) fi t2 dm (sp_X7_addMix_th u (xs (i + 1)) (xs (i + 2)) (xs (i + 3)) (xs (i + 4)) (xs (i + 5))) (sp_X7_addMix_sa u sa (xs (i + 1)) (xs (i + 2)) (xs (i + 3)) (xs (i + 4)) (xs (i + 5))) ln pa le sk nu h) rfl yV_X7_thrown wML_L_154 rfl 1 rfl rfl rfl rfl (nle rfl) (nle rfl) (nle rfl) (rmc hcC (by omega)) (rmc hsC (by omega)) dL_law_1006 ?_
    refine x_iload C 1 rfl dL_law_1009 ?_
    refine x_icmp_eq C 1016 (by decide) dL_law_1011 (fun _ => ?_) (fun hz => absurd e1 hz)
    refine x_iload C 1 rfl dL_law_1016 ?_
    refine x_if_ne C 1033 (by decide) dL_law_1018 (fun hz => absurd (by decide) hz) (fun _ => ?_)
    refine x_aload_n C 3 rfl rfl dL_law_1021 ?_
    refine x_iconst C 0 (by decide) dL_law_1022 ?_
    refine x_lald (f := (vp_updL fo 0 (Int32.toInt64 ((sp_X2_put_xn r.xn) - 1)))) C 0 3 rfl rfl in1 dL_law_1023 ?_
    refine x_st (st' := [.long (Int32.toInt64 ((sp_X2_put_xn r.xn) - 1))]) rfl ?_
    refine x_iload C 0 rfl dL_law_1024 ?_
    refine x_i2l C dL_law_1026 ?_
    refine x_lcmp C dL_law_1027 ?_
    refine x_if_eq C 1033 (by decide) dL_law_1028 (fun _ => ?_) (fun hz => absurd (lgz (congrArg Int32.toInt64 e2)) hz)
    refine x_goto C 3131 (by decide) dL_law_1033 ?_
    refine x_lv [(4, .int (nI i)), (3, .ref ao), (2, .ref (am 0)), (1, .ref (ap 0)), (0, .ref b)] [2, 3, 4, 5, 6] rfl ?_
    refine x_wid (k := cells + 40) (n := slots + 300) (by omega) (by omega) ?_
    exact K (xRk r.kp r.ke r.kr r.kt r.kh r.kc (sp_X2_put_xn r.xn) (sp_X2_put_xs r.xn r.xs (xs (i + 1))) (sp_X2_put_xv r.xn r.xv (xs (i + 2))) (sp_X2_put_xh r.xn r.xh (xs (i + 3))) (sp_X2_put_xo r.xn r.xo (xs (i + 4))) (sp_X2_put_xc r.xn r.xc (xs (i + 5))) r.vd r.vn r.vl r.vu r.vs r.vm r.vp r.vt r.va r.vw r.jd r.jb r.jc r.js r.jl r.jx r.ji r.jf r.jn r.dq) (sp_spo2 po pn) (sp_spn2 pn) pl tx rp rl rs rm rn rz (svS sv adn r po pn) mm (sp_X7_addMix_s u sa (xs (i + 1)) (xs (i + 2)) (xs (i + 3)) (xs (i + 4)) (xs (i + 5))) fi t2 dm (sp_X7_addMix_th u (xs (i + 1)) (xs (i + 2)) (xs (i + 3)) (xs (i + 4)) (xs (i + 5))) (sp_X7_addMix_sa u sa (xs (i + 1)) (xs (i + 2)) (xs (i + 3)) (xs (i + 4)) (xs (i + 5))) ln pa le sk nu h (vp_updL fo 0 (Int32.toInt64 ((sp_X2_put_xn r.xn) - 1))) (e3 adn)
  · obtain ⟨e1, e3⟩ := hP.2 E cd h1 hcd
    refine x_perm (ws' := ((wOu g ao fo) ++ ((wMo g am u fi t2 dm th sa ln pa le sk nu h) ++ (wCl g ap ad r po pn pl tx rp rl rs rm rn rz sv mm)))) (List.perm_append_comm_assoc (wMo g am u fi t2 dm th sa ln pa le sk nu h) (wOu g ao fo) (wCl g ap ad r po pn pl tx rp rl rs rm rn rz sv mm)) ?_
    refine x_st (st' := [.int cd]) rfl ?_
    refine x_istore C [(5, .int cd), (4, .int (nI i)), (3, .ref ao), (2, .ref (am 0)), (1, .ref (ap 0)), (0, .ref b)] rfl (by decide) dL_law_967 ?_
    refine x_aload_n C 3 rfl rfl dL_law_969 ?_
    refine x_aload_n C 5 rfl rfl dL_law_970 ?_
    refine x_iload C 1 rfl dL_law_971 ?_
    refine x_iconst C 1 (by decide) dL_law_973 ?_
    refine x_iaddN C i 1 rfl rfl dL_law_974 ?_
    refine x_sld C (i + 1) hX hbl hbA rfl (by omega) (by omega) dL_law_975 ?_
    refine x_aload_n C 5 rfl rfl dL_law_976 ?_
    refine x_iload C 1 rfl dL_law_977 ?_
    refine x_iconst C 2 (by decide) dL_law_979 ?_
    refine x_iaddN C i 2 rfl rfl dL_law_980 ?_
    refine x_sld C (i + 2) hX hbl hbA rfl (by omega) (by omega) dL_law_981 ?_
    refine x_aload_n C 5 rfl rfl dL_law_982 ?_
    refine x_iload C 1 rfl dL_law_983 ?_
    refine x_iconst C 3 (by decide) dL_law_985 ?_
    refine x_iaddN C i 3 rfl rfl dL_law_986 ?_
    refine x_sld C (i + 3) hX hbl hbA rfl (by omega) (by omega) dL_law_987 ?_
    refine x_aload_n C 5 rfl rfl dL_law_988 ?_
    refine x_iload C 1 rfl dL_law_989 ?_
    refine x_iconst C 4 (by decide) dL_law_991 ?_
    refine x_iaddN C i 4 rfl rfl dL_law_992 ?_
    refine x_sld C (i + 4) hX hbl hbA rfl (by omega) (by omega) dL_law_993 ?_
    refine x_aload_n C 5 rfl rfl dL_law_994 ?_
    refine x_iload C 1 rfl dL_law_995 ?_
    refine x_iconst C 5 (by decide) dL_law_997 ?_
    refine x_iaddN C i 5 rfl rfl dL_law_998 ?_
    refine x_sld C (i + 5) hX hbl hbA rfl (by omega) (by omega) dL_law_999 ?_
    refine x_FV (w1 := (wOu g ao fo)) (wc := (wMo g am u fi t2 dm th sa ln pa le sk nu h)) (w2 := (wCl g ap ad r po pn pl tx rp rl rs rm rn rz sv mm)) [.int (xs (i + 1)), .int (xs (i + 2)), .int (xs (i + 3)), .int (xs (i + 4)), .int (xs (i + 5))] [] ((wOu g ao fo) ++ ((wMo g am (sp_X7_addMix_s u sa (xs (i + 1)) (xs (i + 2)) (xs (i + 3)) (xs (i + 4)) (xs (i + 5))) fi t2 dm (sp_X7_addMix_th u (xs (i + 1)) (xs (i + 2)) (xs (i + 3)) (xs (i + 4)) (xs (i + 5))) (sp_X7_addMix_sa u sa (xs (i + 1)) (xs (i + 2)) (xs (i + 3)) (xs (i + 4)) (xs (i + 5))) ln pa le sk nu h) ++ (wCl g ap ad r po pn pl tx rp rl rs rm rn rz sv mm))) C (k_X7_addMix l g am u fi t2 dm th sa ln pa le sk nu h (xs (i + 1)) (xs (i + 2)) (xs (i + 3)) (xs (i + 4)) (xs (i + 5)) H.hs H.hs6 H.hm) rfl yV_X7_addMix wML_L_203 rfl 1 rfl rfl rfl rfl (nle rfl) (nle rfl) (nle rfl) (rmc hcC (by omega)) (rmc hsC (by omega)) dL_law_1000 ?_
    refine x_istore C [(6, .int (sp_X7_addMix u sa (xs (i + 1)) (xs (i + 2)) (xs (i + 3)) (xs (i + 4)) (xs (i + 5)))), (5, .int cd), (4, .int (nI i)), (3, .ref ao), (2, .ref (am 0)), (1, .ref (ap 0)), (0, .ref b)] rfl (by decide) dL_law_1003 ?_
    refine x_aload_n C 4 rfl rfl dL_law_1005 ?_
    refine x_FV (w1 := (wOu g ao fo)) (wc := (wMo g am (sp_X7_addMix_s u sa (xs (i + 1)) (xs (i + 2)) (xs (i + 3)) (xs (i + 4)) (xs (i + 5))) fi t2 dm (sp_X7_addMix_th u (xs (i + 1)) (xs (i + 2)) (xs (i + 3)) (xs (i + 4)) (xs (i + 5))) (sp_X7_addMix_sa u sa (xs (i + 1)) (xs (i + 2)) (xs (i + 3)) (xs (i + 4)) (xs (i + 5))) ln pa le sk nu h)) (w2 := (wCl g ap ad r po pn pl tx rp rl rs rm rn rz sv mm)) [] [] ((wOu g ao fo) ++ ((wMo g am (sp_X7_addMix_s u sa (xs (i + 1)) (xs (i + 2)) (xs (i + 3)) (xs (i + 4)) (xs (i + 5))) fi t2 dm (sp_X7_addMix_th u (xs (i + 1)) (xs (i + 2)) (xs (i + 3)) (xs (i + 4)) (xs (i + 5))) (sp_X7_addMix_sa u sa (xs (i + 1)) (xs (i + 2)) (xs (i + 3)) (xs (i + 4)) (xs (i + 5))) ln pa le sk nu h) ++ (wCl g ap ad r po pn pl tx rp rl rs rm rn rz sv mm))) C (k_X7_thrown l g am (sp_X7_addMix_s u sa (xs (i + 1)) (xs (i + 2)) (xs (i + 3)) (xs (i + 4)) (xs (i + 5))) fi t2 dm (sp_X7_addMix_th u (xs (i + 1)) (xs (i + 2)) (xs (i + 3)) (xs (i + 4)) (xs (i + 5))) (sp_X7_addMix_sa u sa (xs (i + 1)) (xs (i + 2)) (xs (i + 3)) (xs (i + 4)) (xs (i + 5))) ln pa le sk nu h) rfl yV_X7_thrown wML_L_154 rfl 1 rfl rfl rfl rfl (nle rfl) (nle rfl) (nle rfl) (rmc hcC (by omega)) (rmc hsC (by omega)) dL_law_1006 ?_
    refine x_iload C 1 rfl dL_law_1009 ?_
    refine x_icmp_eq C 1016 (by decide) dL_law_1011 (fun _ => ?_) (fun hz => absurd e1 hz)
    refine x_iload C 1 rfl dL_law_1016 ?_
    refine x_if_ne C 1033 (by decide) dL_law_1018 (fun _ => ?_) (fun hz => absurd hz (by rcases hcd with ⟨-, rfl⟩ | ⟨-, rfl⟩ | ⟨-, rfl⟩ <;> decide))
    refine x_goto C 3131 (by decide) dL_law_1033 ?_
    refine x_lv [(4, .int (nI i)), (3, .ref ao), (2, .ref (am 0)), (1, .ref (ap 0)), (0, .ref b)] [2, 3, 4, 5, 6] rfl ?_
    refine x_wid (k := cells + 40) (n := slots + 300) (by omega) (by omega) ?_
    exact K r po pn pl tx rp rl rs rm rn rz sv mm (sp_X7_addMix_s u sa (xs (i + 1)) (xs (i + 2)) (xs (i + 3)) (xs (i + 4)) (xs (i + 5))) fi t2 dm (sp_X7_addMix_th u (xs (i + 1)) (xs (i + 2)) (xs (i + 3)) (xs (i + 4)) (xs (i + 5))) (sp_X7_addMix_sa u sa (xs (i + 1)) (xs (i + 2)) (xs (i + 3)) (xs (i + 4)) (xs (i + 5))) ln pa le sk nu h fo e3
set_option maxRecDepth 100000 in
set_option maxHeartbeats 2000000 in
theorem c_14 {p : Program} {l : Launch} {e : Env} {s : State} {m : MethodId} {args : Array Value} {below : List Frame} {meth : Method} {c : Code} {cells slots : Nat} {Q : State → Prop} {nm : String} {g : xGt} {A : Nat → Prop} {b L i : Nat} {xs : Nat → Int32} {ap ad am : Nat → Nat} {ao : Nat} {r : xR} {po : Int32} {pn : Int32} {pl : Int32} {tx : Nat → Int32} {rp : Int32} {rl : Int32} {rs : Int32} {rm : Int32} {rn : Int32} {rz : Int32} {sv : xPl} {mm : xPl} {u : Nat → Int32} {fi : Nat → Int32} {t2 : Nat → Int32} {dm : Nat → Int32} {th : Int32} {sa : Int32} {ln : Int32} {pa : Int32} {le : Int32} {sk : Int32} {nu : Int32} {h : Int64} {fo : Nat → Int64} (C : xC p l s m args meth c cL_law 9 RL nm g.1 (xT g) A) (hX : va_X b L xs s s.heap) (hbl : b < s.heap.size) (hbA : ¬ A b) (hi : i + 6 ≤ L) (hL : L ≤ 3072) (hcC : cells + 40 ≤ room_1.cells) (hsC : slots + 300 ≤ room_1.slots) (H : RI r po pn pl tx sv mm u fi t2 sa ln) (K : LK p l e s m args below meth c g A ap ad am ao b i (cells + 40) (slots + 300) Q) : xW p l e room_1 s m args below meth c g.1 A 9 cells slots Q (wLaw g ap ad am ao r po pn pl tx rp rl rs rm rn rz sv mm u fi t2 dm th sa ln pa le sk nu h fo) [(4, .int (nI i)), (3, .ref ao), (2, .ref (am 0)), (1, .ref (ap 0)), (0, .ref b)] 1036 [] := by
  refine x_ws (ws' := ((wOu g ao fo) ++ ((wMo g am u fi t2 dm th sa ln pa le sk nu h) ++ (wCl g ap ad r po pn pl tx rp rl rs rm rn rz sv mm)))) rfl ?_
  refine x_aload_n C 3 rfl rfl dL_law_1036 ?_
  refine x_aload_n C 4 rfl rfl dL_law_1037 ?_
  refine x_iload C 0 rfl dL_law_1038 ?_
  refine x_iconst C 1 (by decide) dL_law_1040 ?_
  refine x_iaddN C i 1 rfl rfl dL_law_1041 ?_
  refine x_sld C (i + 1) hX hbl hbA rfl (by omega) (by omega) dL_law_1042 ?_
  refine x_aload_n C 1 rfl rfl dL_law_1043 ?_
  refine x_callL (X := (wOu g ao fo)) (Y := (wMo g am u fi t2 dm th sa ln pa le sk nu h)) (Z := (wCl g ap ad r po pn pl tx rp rl rs rm rn rz sv mm)) [.ref (ap 0), .int (xs (i + 1)), .ref ao] [] C (k_L_removeMix l g ao fo ap ad r po pn pl tx rp rl rs rm rn rz sv mm (xs (i + 1)) H.clo) yH_L_removeMix wML_L_204 rfl rfl rfl (nle rfl) (nle rfl) (nle rfl) (rmc hcC (by omega)) (rmc hsC (by omega)) dL_law_1044 (fun r0 w0 h0 => ?_)
  have hP := P_removeMix r po pn pl tx rp rl rs rm rn rz sv mm u fi t2 dm th sa ln pa le sk nu h (xs (i + 1)) H
  rcases h0 with ⟨h1, rfl, w8, hw, rfl⟩ | ⟨E, cd, h1, hcd, rfl, rfl⟩
  · obtain ⟨adn, rfl⟩ := hw
    obtain ⟨e1, e2, e3⟩ := hP.1 h1
    refine x_perm (ws' := ((wOu g ao (vp_updL fo 0 (Int32.toInt64 (r.xn - 1)))) ++ ((wMo g am u fi t2 dm th sa ln pa le sk nu h) ++ (wCl g ap ad (xRk r.kp r.ke r.kr r.kt r.kh r.kc (r.xn - 1) (sp_X6_removeMix_xs r (xs (i + 1))) (sp_X6_removeMix_xv r (xs (i + 1))) (sp_X6_removeMix_xh r (xs (i + 1))) (sp_X6_removeMix_xo r (xs (i + 1))) (sp_X6_removeMix_xc r (xs (i + 1))) r.vd r.vn r.vl r.vu r.vs r.vm r.vp r.vt r.va r.vw r.jd r.jb r.jc r.js r.jl r.jx r.ji r.jf r.jn r.dq) (sp_spo2 po pn) (sp_spn2 pn) pl tx rp rl rs rm rn rz (svS sv adn r po pn) mm)))) (List.perm_append_comm_assoc (wMo g am u fi t2 dm th sa ln pa le sk nu h) (wOu g ao (vp_updL fo 0 (Int32.toInt64 (r.xn - 1)))) (wCl g ap ad (xRk r.kp r.ke r.kr r.kt r.kh r.kc (r.xn - 1) (sp_X6_removeMix_xs r (xs (i + 1))) (sp_X6_removeMix_xv r (xs (i + 1))) (sp_X6_removeMix_xh r (xs (i + 1))) (sp_X6_removeMix_xo r (xs (i + 1))) (sp_X6_removeMix_xc r (xs (i + 1))) r.vd r.vn r.vl r.vu r.vs r.vm r.vp r.vt r.va r.vw r.jd r.jb r.jc r.js r.jl r.jx r.ji r.jf r.jn r.dq) (sp_spo2 po pn) (sp_spn2 pn) pl tx rp rl rs rm rn rz (svS sv adn r po pn) mm)) ?_
    refine x_st (st' := [.int 0]) rfl ?_
    refine x_istore C [(5, .int 0), (4, .int (nI i)), (3, .ref ao), (2, .ref (am 0)), (1, .ref (ap 0)), (0, .ref b)] rfl (by decide) dL_law_1047 ?_
    refine x_aload_n C 3 rfl rfl dL_law_1049 ?_
    refine x_aload_n C 5 rfl rfl dL_law_1050 ?_
    refine x_iload C 1 rfl dL_law_1051 ?_
    refine x_iconst C 1 (by decide) dL_law_1053 ?_
    refine x_iaddN C i 1 rfl rfl dL_law_1054 ?_
    refine x_sld C (i + 1) hX hbl hbA rfl (by omega) (by omega) dL_law_1055 ?_
    refine x_FV (w1 := (wOu g ao (vp_updL fo 0 (Int32.toInt64 (r.xn - 1))))) (wc := (wMo g am u fi t2 dm th sa ln pa le sk nu h)) (w2 := (wCl g ap ad (xRk r.kp r.ke r.kr r.kt r.kh r.kc (r.xn - 1) (sp_X6_removeMix_xs r (xs (i + 1))) (sp_X6_removeMix_xv r (xs (i + 1))) (sp_X6_removeMix_xh r (xs (i + 1))) (sp_X6_removeMix_xo r (xs (i + 1))) (sp_X6_removeMix_xc r (xs (i + 1))) r.vd r.vn r.vl r.vu r.vs r.vm r.vp r.vt r.va r.vw r.jd r.jb r.jc r.js r.jl r.jx r.ji r.jf r.jn r.dq) (sp_spo2 po pn) (sp_spn2 pn) pl tx rp rl rs rm rn rz (svS sv adn r po pn) mm)) [.int (xs (i + 1))] [] ((wOu g ao (vp_updL fo 0 (Int32.toInt64 (r.xn - 1)))) ++ ((wMo g am (sp_X7_removeMix_s u sa (xs (i + 1))) fi t2 dm (sp_X7_removeMix_th u (xs (i + 1))) (sp_X7_removeMix_sa u sa (xs (i + 1))) ln pa le sk nu h) ++ (wCl g ap ad (xRk r.kp r.ke r.kr r.kt r.kh r.kc (r.xn - 1) (sp_X6_removeMix_xs r (xs (i + 1))) (sp_X6_removeMix_xv r (xs (i + 1))) (sp_X6_removeMix_xh r (xs (i + 1))) (sp_X6_removeMix_xo r (xs (i + 1))) (sp_X6_removeMix_xc r (xs (i + 1))) r.vd r.vn r.vl r.vu r.vs r.vm r.vp r.vt r.va r.vw r.jd r.jb r.jc r.js r.jl r.jx r.ji r.jf r.jn r.dq) (sp_spo2 po pn) (sp_spn2 pn) pl tx rp rl rs rm rn rz (svS sv adn r po pn) mm))) C (k_X7_removeMix l g am u fi t2 dm th sa ln pa le sk nu h (xs (i + 1)) H.hs H.hs6 H.hm) rfl yV_X7_removeMix wML_L_206 rfl 1 rfl rfl rfl rfl (nle rfl) (nle rfl) (nle rfl) (rmc hcC (by omega)) (rmc hsC (by omega)) dL_law_1056 ?_
    refine x_istore C [(6, .int (sp_X7_removeMix u sa (xs (i + 1)))), (5, .int 0), (4, .int (nI i)), (3, .ref ao), (2, .ref (am 0)), (1, .ref (ap 0)), (0, .ref b)] rfl (by decide) dL_law_1059 ?_
    refine x_aload_n C 4 rfl rfl dL_law_1061 ?_
    refine x_FV (w1 := (wOu g ao (vp_updL fo 0 (Int32.toInt64 (r.xn - 1))))) (wc := (wMo g am (sp_X7_removeMix_s u sa (xs (i + 1))) fi t2 dm (sp_X7_removeMix_th u (xs (i + 1))) (sp_X7_removeMix_sa u sa (xs (i + 1))) ln pa le sk nu h)) (w2 := (wCl g ap ad (xRk r.kp r.ke r.kr r.kt r.kh r.kc (r.xn - 1) (sp_X6_removeMix_xs r (xs (i + 1))) (sp_X6_removeMix_xv r (xs (i + 1))) (sp_X6_removeMix_xh r (xs (i + 1))) (sp_X6_removeMix_xo r (xs (i + 1))) (sp_X6_removeMix_xc r (xs (i + 1))) r.vd r.vn r.vl r.vu r.vs r.vm r.vp r.vt r.va r.vw r.jd r.jb r.jc r.js r.jl r.jx r.ji r.jf r.jn r.dq) (sp_spo2 po pn) (sp_spn2 pn) pl tx rp rl rs rm rn rz (svS sv adn r po pn) mm)) [] [] ((wOu g ao (vp_updL fo 0 (Int32.toInt64 (r.xn - 1)))) ++ ((wMo g am (sp_X7_removeMix_s u sa (xs (i + 1))) fi t2 dm (sp_X7_removeMix_th u (xs (i + 1))) (sp_X7_removeMix_sa u sa (xs (i + 1))) ln pa le sk nu h) ++ (wCl g ap ad (xRk r.kp r.ke r.kr r.kt r.kh r.kc (r.xn - 1) (sp_X6_removeMix_xs r (xs (i + 1))) (sp_X6_removeMix_xv r (xs (i + 1))) (sp_X6_removeMix_xh r (xs (i + 1))) (sp_X6_removeMix_xo r (xs (i + 1))) (sp_X6_removeMix_xc r (xs (i + 1))) r.vd r.vn r.vl r.vu r.vs r.vm r.vp r.vt r.va r.vw r.jd r.jb r.jc r.js r.jl r.jx r.ji r.jf r.jn r.dq) (sp_spo2 po pn) (sp_spn2 pn) pl tx rp rl rs rm rn rz (svS sv adn r po pn) mm))) C (k_X7_thrown l g am (sp_X7_removeMix_s u sa (xs (i + 1))) fi t2 dm (sp_X7_removeMix_th u (xs (i + 1))) (sp_X7_removeMix_sa u sa (xs (i + 1))) ln pa le sk nu h) rfl yV_X7_thrown wML_L_154 rfl 1 rfl rfl rfl rfl (nle rfl) (nle rfl) (nle rfl) (rmc hcC (by omega)) (rmc hsC (by omega)) dL_law_1062 ?_
    refine x_iload C 1 rfl dL_law_1065 ?_
    refine x_icmp_eq C 1072 (by decide) dL_law_1067 (fun _ => ?_) (fun hz => absurd e1 hz)
    refine x_iload C 1 rfl dL_law_1072 ?_
    refine x_if_ne C 1089 (by decide) dL_law_1074 (fun hz => absurd (by decide) hz) (fun _ => ?_)
    refine x_aload_n C 3 rfl rfl dL_law_1077 ?_
    refine x_iconst C 0 (by decide) dL_law_1078 ?_
    refine x_lald (f := (vp_updL fo 0 (Int32.toInt64 (r.xn - 1)))) C 0 3 rfl rfl in1 dL_law_1079 ?_
    refine x_st (st' := [.long (Int32.toInt64 (r.xn - 1))]) rfl ?_
    refine x_iload C 0 rfl dL_law_1080 ?_
    refine x_i2l C dL_law_1082 ?_
    refine x_lcmp C dL_law_1083 ?_
    refine x_if_eq C 1089 (by decide) dL_law_1084 (fun _ => ?_) (fun hz => absurd (lgz (congrArg Int32.toInt64 e2)) hz)
    refine x_goto C 3131 (by decide) dL_law_1089 ?_
    refine x_lv [(4, .int (nI i)), (3, .ref ao), (2, .ref (am 0)), (1, .ref (ap 0)), (0, .ref b)] [2, 3, 4, 5, 6] rfl ?_
    refine x_wid (k := cells + 40) (n := slots + 300) (by omega) (by omega) ?_
    exact K (xRk r.kp r.ke r.kr r.kt r.kh r.kc (r.xn - 1) (sp_X6_removeMix_xs r (xs (i + 1))) (sp_X6_removeMix_xv r (xs (i + 1))) (sp_X6_removeMix_xh r (xs (i + 1))) (sp_X6_removeMix_xo r (xs (i + 1))) (sp_X6_removeMix_xc r (xs (i + 1))) r.vd r.vn r.vl r.vu r.vs r.vm r.vp r.vt r.va r.vw r.jd r.jb r.jc r.js r.jl r.jx r.ji r.jf r.jn r.dq) (sp_spo2 po pn) (sp_spn2 pn) pl tx rp rl rs rm rn rz (svS sv adn r po pn) mm (sp_X7_removeMix_s u sa (xs (i + 1))) fi t2 dm (sp_X7_removeMix_th u (xs (i + 1))) (sp_X7_removeMix_sa u sa (xs (i + 1))) ln pa le sk nu h (vp_updL fo 0 (Int32.toInt64 (r.xn - 1))) (e3 adn)
  · obtain ⟨e1, e3⟩ := hP.2 E cd h1 hcd
    refine x_perm (ws' := ((wOu g ao fo) ++ ((wMo g am u fi t2 dm th sa ln pa le sk nu h) ++ (wCl g ap ad r po pn pl tx rp rl rs rm rn rz sv mm)))) (List.perm_append_comm_assoc (wMo g am u fi t2 dm th sa ln pa le sk nu h) (wOu g ao fo) (wCl g ap ad r po pn pl tx rp rl rs rm rn rz sv mm)) ?_
    refine x_st (st' := [.int cd]) rfl ?_
    refine x_istore C [(5, .int cd), (4, .int (nI i)), (3, .ref ao), (2, .ref (am 0)), (1, .ref (ap 0)), (0, .ref b)] rfl (by decide) dL_law_1047 ?_
    refine x_aload_n C 3 rfl rfl dL_law_1049 ?_
    refine x_aload_n C 5 rfl rfl dL_law_1050 ?_
    refine x_iload C 1 rfl dL_law_1051 ?_
    refine x_iconst C 1 (by decide) dL_law_1053 ?_
    refine x_iaddN C i 1 rfl rfl dL_law_1054 ?_
    refine x_sld C (i + 1) hX hbl hbA rfl (by omega) (by omega) dL_law_1055 ?_
    refine x_FV (w1 := (wOu g ao fo)) (wc := (wMo g am u fi t2 dm th sa ln pa le sk nu h)) (w2 := (wCl g ap ad r po pn pl tx rp rl rs rm rn rz sv mm)) [.int (xs (i + 1))] [] ((wOu g ao fo) ++ ((wMo g am (sp_X7_removeMix_s u sa (xs (i + 1))) fi t2 dm (sp_X7_removeMix_th u (xs (i + 1))) (sp_X7_removeMix_sa u sa (xs (i + 1))) ln pa le sk nu h) ++ (wCl g ap ad r po pn pl tx rp rl rs rm rn rz sv mm))) C (k_X7_removeMix l g am u fi t2 dm th sa ln pa le sk nu h (xs (i + 1)) H.hs H.hs6 H.hm) rfl yV_X7_removeMix wML_L_206 rfl 1 rfl rfl rfl rfl (nle rfl) (nle rfl) (nle rfl) (rmc hcC (by omega)) (rmc hsC (by omega)) dL_law_1056 ?_
    refine x_istore C [(6, .int (sp_X7_removeMix u sa (xs (i + 1)))), (5, .int cd), (4, .int (nI i)), (3, .ref ao), (2, .ref (am 0)), (1, .ref (ap 0)), (0, .ref b)] rfl (by decide) dL_law_1059 ?_
    refine x_aload_n C 4 rfl rfl dL_law_1061 ?_
    refine x_FV (w1 := (wOu g ao fo)) (wc := (wMo g am (sp_X7_removeMix_s u sa (xs (i + 1))) fi t2 dm (sp_X7_removeMix_th u (xs (i + 1))) (sp_X7_removeMix_sa u sa (xs (i + 1))) ln pa le sk nu h)) (w2 := (wCl g ap ad r po pn pl tx rp rl rs rm rn rz sv mm)) [] [] ((wOu g ao fo) ++ ((wMo g am (sp_X7_removeMix_s u sa (xs (i + 1))) fi t2 dm (sp_X7_removeMix_th u (xs (i + 1))) (sp_X7_removeMix_sa u sa (xs (i + 1))) ln pa le sk nu h) ++ (wCl g ap ad r po pn pl tx rp rl rs rm rn rz sv mm))) C (k_X7_thrown l g am (sp_X7_removeMix_s u sa (xs (i + 1))) fi t2 dm (sp_X7_removeMix_th u (xs (i + 1))) (sp_X7_removeMix_sa u sa (xs (i + 1))) ln pa le sk nu h) rfl yV_X7_thrown wML_L_154 rfl 1 rfl rfl rfl rfl (nle rfl) (nle rfl) (nle rfl) (rmc hcC (by omega)) (rmc hsC (by omega)) dL_law_1062 ?_
    refine x_iload C 1 rfl dL_law_1065 ?_
    refine x_icmp_eq C 1072 (by decide) dL_law_1067 (fun _ => ?_) (fun hz => absurd e1 hz)
    refine x_iload C 1 rfl dL_law_1072 ?_
    refine x_if_ne C 1089 (by decide) dL_law_1074 (fun _ => ?_) (fun hz => absurd hz (cd0 hcd))
    refine x_goto C 3131 (by decide) dL_law_1089 ?_
    refine x_lv [(4, .int (nI i)), (3, .ref ao), (2, .ref (am 0)), (1, .ref (ap 0)), (0, .ref b)] [2, 3, 4, 5, 6] rfl ?_
    refine x_wid (k := cells + 40) (n := slots + 300) (by omega) (by omega) ?_
    exact K r po pn pl tx rp rl rs rm rn rz sv mm (sp_X7_removeMix_s u sa (xs (i + 1))) fi t2 dm (sp_X7_removeMix_th u (xs (i + 1))) (sp_X7_removeMix_sa u sa (xs (i + 1))) ln pa le sk nu h fo e3
set_option maxRecDepth 100000 in
set_option maxHeartbeats 2000000 in
theorem c_15 {p : Program} {l : Launch} {e : Env} {s : State} {m : MethodId} {args : Array Value} {below : List Frame} {meth : Method} {c : Code} {cells slots : Nat} {Q : State → Prop} {nm : String} {g : xGt} {A : Nat → Prop} {b L i : Nat} {xs : Nat → Int32} {ap ad am : Nat → Nat} {ao : Nat} {r : xR} {po : Int32} {pn : Int32} {pl : Int32} {tx : Nat → Int32} {rp : Int32} {rl : Int32} {rs : Int32} {rm : Int32} {rn : Int32} {rz : Int32} {sv : xPl} {mm : xPl} {u : Nat → Int32} {fi : Nat → Int32} {t2 : Nat → Int32} {dm : Nat → Int32} {th : Int32} {sa : Int32} {ln : Int32} {pa : Int32} {le : Int32} {sk : Int32} {nu : Int32} {h : Int64} {fo : Nat → Int64} (C : xC p l s m args meth c cL_law 9 RL nm g.1 (xT g) A) (hX : va_X b L xs s s.heap) (hbl : b < s.heap.size) (hbA : ¬ A b) (hi : i + 6 ≤ L) (hL : L ≤ 3072) (hcC : cells + 40 ≤ room_1.cells) (hsC : slots + 300 ≤ room_1.slots) (H : RI r po pn pl tx sv mm u fi t2 sa ln) (K : LK p l e s m args below meth c g A ap ad am ao b i (cells + 40) (slots + 300) Q) : xW p l e room_1 s m args below meth c g.1 A 9 cells slots Q (wLaw g ap ad am ao r po pn pl tx rp rl rs rm rn rz sv mm u fi t2 dm th sa ln pa le sk nu h fo) [(4, .int (nI i)), (3, .ref ao), (2, .ref (am 0)), (1, .ref (ap 0)), (0, .ref b)] 1092 [] := by
  refine x_ws (ws' := ((wOu g ao fo) ++ ((wMo g am u fi t2 dm th sa ln pa le sk nu h) ++ (wCl g ap ad r po pn pl tx rp rl rs rm rn rz sv mm)))) rfl ?_
  refine x_aload_n C 3 rfl rfl dL_law_1092 ?_
  refine x_aload_n C 4 rfl rfl dL_law_1093 ?_
  refine x_iload C 0 rfl dL_law_1094 ?_
  refine x_iconst C 1 (by decide) dL_law_1096 ?_
  refine x_iaddN C i 1 rfl rfl dL_law_1097 ?_
  refine x_sld C (i + 1) hX hbl hbA rfl (by omega) (by omega) dL_law_1098 ?_
  refine x_aload_n C 1 rfl rfl dL_law_1099 ?_
  refine x_callL (X := (wOu g ao fo)) (Y := (wMo g am u fi t2 dm th sa ln pa le sk nu h)) (Z := (wCl g ap ad r po pn pl tx rp rl rs rm rn rz sv mm)) [.ref (ap 0), .int (xs (i + 1)), .ref ao] [] C (k_L_clearMixes l g ao fo ap ad r po pn pl tx rp rl rs rm rn rz sv mm (xs (i + 1)) H.clo) yH_L_clearMixes wML_L_207 rfl rfl rfl (nle rfl) (nle rfl) (nle rfl) (rmc hcC (by omega)) (rmc hsC (by omega)) dL_law_1100 (fun r0 w0 h0 => ?_)
  have hP := P_clearMixes r po pn pl tx rp rl rs rm rn rz sv mm u fi t2 dm th sa ln pa le sk nu h (xs (i + 1)) H
  rcases h0 with ⟨h1, rfl, w8, hw, rfl⟩ | ⟨E, cd, h1, hcd, rfl, rfl⟩
  · obtain ⟨adn, rfl⟩ := hw
    obtain ⟨e1, e2, e3⟩ := hP.1 h1
    refine x_perm (ws' := ((wOu g ao (vp_updL fo 0 (Int32.toInt64 (r.xn - ((sp_dal (xs (i + 1)) r.xs r.xv r.xh r.xo r.xc 0 (Int32.toNatClampNeg r.xn)).2.2.2.2.2))))) ++ ((wMo g am u fi t2 dm th sa ln pa le sk nu h) ++ (wCl g ap ad (xRk r.kp r.ke r.kr r.kt r.kh r.kc ((sp_dal (xs (i + 1)) r.xs r.xv r.xh r.xo r.xc 0 (Int32.toNatClampNeg r.xn)).2.2.2.2.2) ((sp_dal (xs (i + 1)) r.xs r.xv r.xh r.xo r.xc 0 (Int32.toNatClampNeg r.xn)).1) ((sp_dal (xs (i + 1)) r.xs r.xv r.xh r.xo r.xc 0 (Int32.toNatClampNeg r.xn)).2.1) ((sp_dal (xs (i + 1)) r.xs r.xv r.xh r.xo r.xc 0 (Int32.toNatClampNeg r.xn)).2.2.1) ((sp_dal (xs (i + 1)) r.xs r.xv r.xh r.xo r.xc 0 (Int32.toNatClampNeg r.xn)).2.2.2.1) ((sp_dal (xs (i + 1)) r.xs r.xv r.xh r.xo r.xc 0 (Int32.toNatClampNeg r.xn)).2.2.2.2.1) r.vd r.vn r.vl r.vu r.vs r.vm r.vp r.vt r.va r.vw r.jd r.jb r.jc r.js r.jl r.jx r.ji r.jf r.jn r.dq) (sp_spo2 po pn) (sp_spn2 pn) pl tx rp rl rs rm rn rz (svS sv adn r po pn) mm)))) (List.perm_append_comm_assoc (wMo g am u fi t2 dm th sa ln pa le sk nu h) (wOu g ao (vp_updL fo 0 (Int32.toInt64 (r.xn - ((sp_dal (xs (i + 1)) r.xs r.xv r.xh r.xo r.xc 0 (Int32.toNatClampNeg r.xn)).2.2.2.2.2))))) (wCl g ap ad (xRk r.kp r.ke r.kr r.kt r.kh r.kc ((sp_dal (xs (i + 1)) r.xs r.xv r.xh r.xo r.xc 0 (Int32.toNatClampNeg r.xn)).2.2.2.2.2) ((sp_dal (xs (i + 1)) r.xs r.xv r.xh r.xo r.xc 0 (Int32.toNatClampNeg r.xn)).1) ((sp_dal (xs (i + 1)) r.xs r.xv r.xh r.xo r.xc 0 (Int32.toNatClampNeg r.xn)).2.1) ((sp_dal (xs (i + 1)) r.xs r.xv r.xh r.xo r.xc 0 (Int32.toNatClampNeg r.xn)).2.2.1) ((sp_dal (xs (i + 1)) r.xs r.xv r.xh r.xo r.xc 0 (Int32.toNatClampNeg r.xn)).2.2.2.1) ((sp_dal (xs (i + 1)) r.xs r.xv r.xh r.xo r.xc 0 (Int32.toNatClampNeg r.xn)).2.2.2.2.1) r.vd r.vn r.vl r.vu r.vs r.vm r.vp r.vt r.va r.vw r.jd r.jb r.jc r.js r.jl r.jx r.ji r.jf r.jn r.dq) (sp_spo2 po pn) (sp_spn2 pn) pl tx rp rl rs rm rn rz (svS sv adn r po pn) mm)) ?_
    refine x_st (st' := [.int 0]) rfl ?_
    refine x_istore C [(5, .int 0), (4, .int (nI i)), (3, .ref ao), (2, .ref (am 0)), (1, .ref (ap 0)), (0, .ref b)] rfl (by decide) dL_law_1103 ?_
    refine x_aload_n C 3 rfl rfl dL_law_1105 ?_
    refine x_aload_n C 5 rfl rfl dL_law_1106 ?_
    refine x_iload C 1 rfl dL_law_1107 ?_
    refine x_iconst C 1 (by decide) dL_law_1109 ?_
    refine x_iaddN C i 1 rfl rfl dL_law_1110 ?_
    refine x_sld C (i + 1) hX hbl hbA rfl (by omega) (by omega) dL_law_1111 ?_
    refine x_FV (w1 := (wOu g ao (vp_updL fo 0 (Int32.toInt64 (r.xn - ((sp_dal (xs (i + 1)) r.xs r.xv r.xh r.xo r.xc 0 (Int32.toNatClampNeg r.xn)).2.2.2.2.2)))))) (wc := (wMo g am u fi t2 dm th sa ln pa le sk nu h)) (w2 := (wCl g ap ad (xRk r.kp r.ke r.kr r.kt r.kh r.kc ((sp_dal (xs (i + 1)) r.xs r.xv r.xh r.xo r.xc 0 (Int32.toNatClampNeg r.xn)).2.2.2.2.2) ((sp_dal (xs (i + 1)) r.xs r.xv r.xh r.xo r.xc 0 (Int32.toNatClampNeg r.xn)).1) ((sp_dal (xs (i + 1)) r.xs r.xv r.xh r.xo r.xc 0 (Int32.toNatClampNeg r.xn)).2.1) ((sp_dal (xs (i + 1)) r.xs r.xv r.xh r.xo r.xc 0 (Int32.toNatClampNeg r.xn)).2.2.1) ((sp_dal (xs (i + 1)) r.xs r.xv r.xh r.xo r.xc 0 (Int32.toNatClampNeg r.xn)).2.2.2.1) ((sp_dal (xs (i + 1)) r.xs r.xv r.xh r.xo r.xc 0 (Int32.toNatClampNeg r.xn)).2.2.2.2.1) r.vd r.vn r.vl r.vu r.vs r.vm r.vp r.vt r.va r.vw r.jd r.jb r.jc r.js r.jl r.jx r.ji r.jf r.jn r.dq) (sp_spo2 po pn) (sp_spn2 pn) pl tx rp rl rs rm rn rz (svS sv adn r po pn) mm)) [.int (xs (i + 1))] [] ((wOu g ao (vp_updL fo 0 (Int32.toInt64 (r.xn - ((sp_dal (xs (i + 1)) r.xs r.xv r.xh r.xo r.xc 0 (Int32.toNatClampNeg r.xn)).2.2.2.2.2))))) ++ ((wMo g am (sp_X7_clearMixes_s u sa (xs (i + 1))) fi t2 dm (sp_X7_clearMixes_th (xs (i + 1))) (sp_X7_clearMixes_sa sa (xs (i + 1))) ln pa le sk nu h) ++ (wCl g ap ad (xRk r.kp r.ke r.kr r.kt r.kh r.kc ((sp_dal (xs (i + 1)) r.xs r.xv r.xh r.xo r.xc 0 (Int32.toNatClampNeg r.xn)).2.2.2.2.2) ((sp_dal (xs (i + 1)) r.xs r.xv r.xh r.xo r.xc 0 (Int32.toNatClampNeg r.xn)).1) ((sp_dal (xs (i + 1)) r.xs r.xv r.xh r.xo r.xc 0 (Int32.toNatClampNeg r.xn)).2.1) ((sp_dal (xs (i + 1)) r.xs r.xv r.xh r.xo r.xc 0 (Int32.toNatClampNeg r.xn)).2.2.1) ((sp_dal (xs (i + 1)) r.xs r.xv r.xh r.xo r.xc 0 (Int32.toNatClampNeg r.xn)).2.2.2.1) ((sp_dal (xs (i + 1)) r.xs r.xv r.xh r.xo r.xc 0 (Int32.toNatClampNeg r.xn)).2.2.2.2.1) r.vd r.vn r.vl r.vu r.vs r.vm r.vp r.vt r.va r.vw r.jd r.jb r.jc r.js r.jl r.jx r.ji r.jf r.jn r.dq) (sp_spo2 po pn) (sp_spn2 pn) pl tx rp rl rs rm rn rz (svS sv adn r po pn) mm))) C (k_X7_clearMixes l g am u fi t2 dm th sa ln pa le sk nu h (xs (i + 1)) H.hs H.hs6 H.hm) rfl yV_X7_clearMixes wML_L_209 rfl 1 rfl rfl rfl rfl (nle rfl) (nle rfl) (nle rfl) (rmc hcC (by omega)) (rmc hsC (by omega)) dL_law_1112 ?_
    refine x_istore C [(6, .int (sp_X7_clearMixes u sa (xs (i + 1)))), (5, .int 0), (4, .int (nI i)), (3, .ref ao), (2, .ref (am 0)), (1, .ref (ap 0)), (0, .ref b)] rfl (by decide) dL_law_1115 ?_
    refine x_aload_n C 4 rfl rfl dL_law_1117 ?_
    refine x_FV (w1 := (wOu g ao (vp_updL fo 0 (Int32.toInt64 (r.xn - ((sp_dal (xs (i + 1)) r.xs r.xv r.xh r.xo r.xc 0 (Int32.toNatClampNeg r.xn)).2.2.2.2.2)))))) (wc := (wMo g am (sp_X7_clearMixes_s u sa (xs (i + 1))) fi t2 dm (sp_X7_clearMixes_th (xs (i + 1))) (sp_X7_clearMixes_sa sa (xs (i + 1))) ln pa le sk nu h)) (w2 := (wCl g ap ad (xRk r.kp r.ke r.kr r.kt r.kh r.kc ((sp_dal (xs (i + 1)) r.xs r.xv r.xh r.xo r.xc 0 (Int32.toNatClampNeg r.xn)).2.2.2.2.2) ((sp_dal (xs (i + 1)) r.xs r.xv r.xh r.xo r.xc 0 (Int32.toNatClampNeg r.xn)).1) ((sp_dal (xs (i + 1)) r.xs r.xv r.xh r.xo r.xc 0 (Int32.toNatClampNeg r.xn)).2.1) ((sp_dal (xs (i + 1)) r.xs r.xv r.xh r.xo r.xc 0 (Int32.toNatClampNeg r.xn)).2.2.1) ((sp_dal (xs (i + 1)) r.xs r.xv r.xh r.xo r.xc 0 (Int32.toNatClampNeg r.xn)).2.2.2.1) ((sp_dal (xs (i + 1)) r.xs r.xv r.xh r.xo r.xc 0 (Int32.toNatClampNeg r.xn)).2.2.2.2.1) r.vd r.vn r.vl r.vu r.vs r.vm r.vp r.vt r.va r.vw r.jd r.jb r.jc r.js r.jl r.jx r.ji r.jf r.jn r.dq) (sp_spo2 po pn) (sp_spn2 pn) pl tx rp rl rs rm rn rz (svS sv adn r po pn) mm)) [] [] ((wOu g ao (vp_updL fo 0 (Int32.toInt64 (r.xn - ((sp_dal (xs (i + 1)) r.xs r.xv r.xh r.xo r.xc 0 (Int32.toNatClampNeg r.xn)).2.2.2.2.2))))) ++ ((wMo g am (sp_X7_clearMixes_s u sa (xs (i + 1))) fi t2 dm (sp_X7_clearMixes_th (xs (i + 1))) (sp_X7_clearMixes_sa sa (xs (i + 1))) ln pa le sk nu h) ++ (wCl g ap ad (xRk r.kp r.ke r.kr r.kt r.kh r.kc ((sp_dal (xs (i + 1)) r.xs r.xv r.xh r.xo r.xc 0 (Int32.toNatClampNeg r.xn)).2.2.2.2.2) ((sp_dal (xs (i + 1)) r.xs r.xv r.xh r.xo r.xc 0 (Int32.toNatClampNeg r.xn)).1) ((sp_dal (xs (i + 1)) r.xs r.xv r.xh r.xo r.xc 0 (Int32.toNatClampNeg r.xn)).2.1) ((sp_dal (xs (i + 1)) r.xs r.xv r.xh r.xo r.xc 0 (Int32.toNatClampNeg r.xn)).2.2.1) ((sp_dal (xs (i + 1)) r.xs r.xv r.xh r.xo r.xc 0 (Int32.toNatClampNeg r.xn)).2.2.2.1) ((sp_dal (xs (i + 1)) r.xs r.xv r.xh r.xo r.xc 0 (Int32.toNatClampNeg r.xn)).2.2.2.2.1) r.vd r.vn r.vl r.vu r.vs r.vm r.vp r.vt r.va r.vw r.jd r.jb r.jc r.js r.jl r.jx r.ji r.jf r.jn r.dq) (sp_spo2 po pn) (sp_spn2 pn) pl tx rp rl rs rm rn rz (svS sv adn r po pn) mm))) C (k_X7_thrown l g am (sp_X7_clearMixes_s u sa (xs (i + 1))) fi t2 dm (sp_X7_clearMixes_th (xs (i + 1))) (sp_X7_clearMixes_sa sa (xs (i + 1))) ln pa le sk nu h) rfl yV_X7_thrown wML_L_154 rfl 1 rfl rfl rfl rfl (nle rfl) (nle rfl) (nle rfl) (rmc hcC (by omega)) (rmc hsC (by omega)) dL_law_1118 ?_
    refine x_iload C 1 rfl dL_law_1121 ?_
    refine x_icmp_eq C 1128 (by decide) dL_law_1123 (fun _ => ?_) (fun hz => absurd e1 hz)
    refine x_iload C 1 rfl dL_law_1128 ?_
    refine x_if_ne C 1145 (by decide) dL_law_1130 (fun hz => absurd (by decide) hz) (fun _ => ?_)
    refine x_aload_n C 3 rfl rfl dL_law_1133 ?_
    refine x_iconst C 0 (by decide) dL_law_1134 ?_
    refine x_lald (f := (vp_updL fo 0 (Int32.toInt64 (r.xn - ((sp_dal (xs (i + 1)) r.xs r.xv r.xh r.xo r.xc 0 (Int32.toNatClampNeg r.xn)).2.2.2.2.2))))) C 0 3 rfl rfl in1 dL_law_1135 ?_
    refine x_st (st' := [.long (Int32.toInt64 (r.xn - ((sp_dal (xs (i + 1)) r.xs r.xv r.xh r.xo r.xc 0 (Int32.toNatClampNeg r.xn)).2.2.2.2.2)))]) rfl ?_
    refine x_iload C 0 rfl dL_law_1136 ?_
    refine x_i2l C dL_law_1138 ?_
    refine x_lcmp C dL_law_1139 ?_
    refine x_if_eq C 1145 (by decide) dL_law_1140 (fun _ => ?_) (fun hz => absurd (lgz (congrArg Int32.toInt64 e2)) hz)
    refine x_goto C 3131 (by decide) dL_law_1145 ?_
    refine x_lv [(4, .int (nI i)), (3, .ref ao), (2, .ref (am 0)), (1, .ref (ap 0)), (0, .ref b)] [2, 3, 4, 5, 6] rfl ?_
    refine x_wid (k := cells + 40) (n := slots + 300) (by omega) (by omega) ?_
    exact K (xRk r.kp r.ke r.kr r.kt r.kh r.kc ((sp_dal (xs (i + 1)) r.xs r.xv r.xh r.xo r.xc 0 (Int32.toNatClampNeg r.xn)).2.2.2.2.2) ((sp_dal (xs (i + 1)) r.xs r.xv r.xh r.xo r.xc 0 (Int32.toNatClampNeg r.xn)).1) ((sp_dal (xs (i + 1)) r.xs r.xv r.xh r.xo r.xc 0 (Int32.toNatClampNeg r.xn)).2.1) ((sp_dal (xs (i + 1)) r.xs r.xv r.xh r.xo r.xc 0 (Int32.toNatClampNeg r.xn)).2.2.1) ((sp_dal (xs (i + 1)) r.xs r.xv r.xh r.xo r.xc 0 (Int32.toNatClampNeg r.xn)).2.2.2.1) ((sp_dal (xs (i + 1)) r.xs r.xv r.xh r.xo r.xc 0 (Int32.toNatClampNeg r.xn)).2.2.2.2.1) r.vd r.vn r.vl r.vu r.vs r.vm r.vp r.vt r.va r.vw r.jd r.jb r.jc r.js r.jl r.jx r.ji r.jf r.jn r.dq) (sp_spo2 po pn) (sp_spn2 pn) pl tx rp rl rs rm rn rz (svS sv adn r po pn) mm (sp_X7_clearMixes_s u sa (xs (i + 1))) fi t2 dm (sp_X7_clearMixes_th (xs (i + 1))) (sp_X7_clearMixes_sa sa (xs (i + 1))) ln pa le sk nu h (vp_updL fo 0 (Int32.toInt64 (r.xn - ((sp_dal (xs (i + 1)) r.xs r.xv r.xh r.xo r.xc 0 (Int32.toNatClampNeg r.xn)).2.2.2.2.2)))) (e3 adn)
  · obtain ⟨e1, e3⟩ := hP.2 E cd h1 hcd
    refine x_perm (ws' := ((wOu g ao fo) ++ ((wMo g am u fi t2 dm th sa ln pa le sk nu h) ++ (wCl g ap ad r po pn pl tx rp rl rs rm rn rz sv mm)))) (List.perm_append_comm_assoc (wMo g am u fi t2 dm th sa ln pa le sk nu h) (wOu g ao fo) (wCl g ap ad r po pn pl tx rp rl rs rm rn rz sv mm)) ?_
    refine x_st (st' := [.int cd]) rfl ?_
    refine x_istore C [(5, .int cd), (4, .int (nI i)), (3, .ref ao), (2, .ref (am 0)), (1, .ref (ap 0)), (0, .ref b)] rfl (by decide) dL_law_1103 ?_
    refine x_aload_n C 3 rfl rfl dL_law_1105 ?_
    refine x_aload_n C 5 rfl rfl dL_law_1106 ?_
    refine x_iload C 1 rfl dL_law_1107 ?_
    refine x_iconst C 1 (by decide) dL_law_1109 ?_
    refine x_iaddN C i 1 rfl rfl dL_law_1110 ?_
    refine x_sld C (i + 1) hX hbl hbA rfl (by omega) (by omega) dL_law_1111 ?_
    refine x_FV (w1 := (wOu g ao fo)) (wc := (wMo g am u fi t2 dm th sa ln pa le sk nu h)) (w2 := (wCl g ap ad r po pn pl tx rp rl rs rm rn rz sv mm)) [.int (xs (i + 1))] [] ((wOu g ao fo) ++ ((wMo g am (sp_X7_clearMixes_s u sa (xs (i + 1))) fi t2 dm (sp_X7_clearMixes_th (xs (i + 1))) (sp_X7_clearMixes_sa sa (xs (i + 1))) ln pa le sk nu h) ++ (wCl g ap ad r po pn pl tx rp rl rs rm rn rz sv mm))) C (k_X7_clearMixes l g am u fi t2 dm th sa ln pa le sk nu h (xs (i + 1)) H.hs H.hs6 H.hm) rfl yV_X7_clearMixes wML_L_209 rfl 1 rfl rfl rfl rfl (nle rfl) (nle rfl) (nle rfl) (rmc hcC (by omega)) (rmc hsC (by omega)) dL_law_1112 ?_
    refine x_istore C [(6, .int (sp_X7_clearMixes u sa (xs (i + 1)))), (5, .int cd), (4, .int (nI i)), (3, .ref ao), (2, .ref (am 0)), (1, .ref (ap 0)), (0, .ref b)] rfl (by decide) dL_law_1115 ?_
    refine x_aload_n C 4 rfl rfl dL_law_1117 ?_
    refine x_FV (w1 := (wOu g ao fo)) (wc := (wMo g am (sp_X7_clearMixes_s u sa (xs (i + 1))) fi t2 dm (sp_X7_clearMixes_th (xs (i + 1))) (sp_X7_clearMixes_sa sa (xs (i + 1))) ln pa le sk nu h)) (w2 := (wCl g ap ad r po pn pl tx rp rl rs rm rn rz sv mm)) [] [] ((wOu g ao fo) ++ ((wMo g am (sp_X7_clearMixes_s u sa (xs (i + 1))) fi t2 dm (sp_X7_clearMixes_th (xs (i + 1))) (sp_X7_clearMixes_sa sa (xs (i + 1))) ln pa le sk nu h) ++ (wCl g ap ad r po pn pl tx rp rl rs rm rn rz sv mm))) C (k_X7_thrown l g am (sp_X7_clearMixes_s u sa (xs (i + 1))) fi t2 dm (sp_X7_clearMixes_th (xs (i + 1))) (sp_X7_clearMixes_sa sa (xs (i + 1))) ln pa le sk nu h) rfl yV_X7_thrown wML_L_154 rfl 1 rfl rfl rfl rfl (nle rfl) (nle rfl) (nle rfl) (rmc hcC (by omega)) (rmc hsC (by omega)) dL_law_1118 ?_
    refine x_iload C 1 rfl dL_law_1121 ?_
    refine x_icmp_eq C 1128 (by decide) dL_law_1123 (fun _ => ?_) (fun hz => absurd e1 hz)
    refine x_iload C 1 rfl dL_law_1128 ?_
    refine x_if_ne C 1145 (by decide) dL_law_1130 (fun _ => ?_) (fun hz => absurd hz (cd0 hcd))
    refine x_goto C 3131 (by decide) dL_law_1145 ?_
    refine x_lv [(4, .int (nI i)), (3, .ref ao), (2, .ref (am 0)), (1, .ref (ap 0)), (0, .ref b)] [2, 3, 4, 5, 6] rfl ?_
    refine x_wid (k := cells + 40) (n := slots + 300) (by omega) (by omega) ?_
    exact K r po pn pl tx rp rl rs rm rn rz sv mm (sp_X7_clearMixes_s u sa (xs (i + 1))) fi t2 dm (sp_X7_clearMixes_th (xs (i + 1))) (sp_X7_clearMixes_sa sa (xs (i + 1))) ln pa le sk nu h fo e3
set_option maxRecDepth 100000 in
set_option maxHeartbeats 2000000 in
theorem c_16 {p : Program} {l : Launch} {e : Env} {s : State} {m : MethodId} {args : Array Value} {below : List Frame} {meth : Method} {c : Code} {cells slots : Nat} {Q : State → Prop} {nm : String} {g : xGt} {A : Nat → Prop} {b L i : Nat} {xs : Nat → Int32} {ap ad am : Nat → Nat} {ao : Nat} {r : xR} {po : Int32} {pn : Int32} {pl : Int32} {tx : Nat → Int32} {rp : Int32} {rl : Int32} {rs : Int32} {rm : Int32} {rn : Int32} {rz : Int32} {sv : xPl} {mm : xPl} {u : Nat → Int32} {fi : Nat → Int32} {t2 : Nat → Int32} {dm : Nat → Int32} {th : Int32} {sa : Int32} {ln : Int32} {pa : Int32} {le : Int32} {sk : Int32} {nu : Int32} {h : Int64} {fo : Nat → Int64} (C : xC p l s m args meth c cL_law 9 RL nm g.1 (xT g) A) (hX : va_X b L xs s s.heap) (hbl : b < s.heap.size) (hbA : ¬ A b) (hi : i + 6 ≤ L) (hL : L ≤ 3072) (hcC : cells + 40 ≤ room_1.cells) (hsC : slots + 300 ≤ room_1.slots) (H : RI r po pn pl tx sv mm u fi t2 sa ln) (K : LK p l e s m args below meth c g A ap ad am ao b i (cells + 40) (slots + 300) Q) : xW p l e room_1 s m args below meth c g.1 A 9 cells slots Q (wLaw g ap ad am ao r po pn pl tx rp rl rs rm rn rz sv mm u fi t2 dm th sa ln pa le sk nu h fo) [(4, .int (nI i)), (3, .ref ao), (2, .ref (am 0)), (1, .ref (ap 0)), (0, .ref b)] 1148 [] := by
  refine x_ws (ws' := ((wOu g ao fo) ++ ((wMo g am u fi t2 dm th sa ln pa le sk nu h) ++ (wCl g ap ad r po pn pl tx rp rl rs rm rn rz sv mm)))) rfl ?_
  refine x_aload_n C 3 rfl rfl dL_law_1148 ?_
  refine x_aload_n C 4 rfl rfl dL_law_1149 ?_
  refine x_iload C 0 rfl dL_law_1150 ?_
  refine x_iconst C 1 (by decide) dL_law_1152 ?_
  refine x_iaddN C i 1 rfl rfl dL_law_1153 ?_
  refine x_sld C (i + 1) hX hbl hbA rfl (by omega) (by omega) dL_law_1154 ?_
  refine x_aload_n C 4 rfl rfl dL_law_1155 ?_
  refine x_iload C 0 rfl dL_law_1156 ?_
  refine x_iconst C 2 (by decide) dL_law_1158 ?_
  refine x_iaddN C i 2 rfl rfl dL_law_1159 ?_
  refine x_sld C (i + 2) hX hbl hbA rfl (by omega) (by omega) dL_law_1160 ?_
  refine x_aload_n C 4 rfl rfl dL_law_1161 ?_
  refine x_iload C 0 rfl dL_law_1162 ?_
  refine x_iconst C 3 (by decide) dL_law_1164 ?_
  refine x_iaddN C i 3 rfl rfl dL_law_1165 ?_
  refine x_sld C (i + 3) hX hbl hbA rfl (by omega) (by omega) dL_law_1166 ?_
  refine x_aload_n C 1 rfl rfl dL_law_1167 ?_
  refine x_callL (X := (wOu g ao fo)) (Y := (wMo g am u fi t2 dm th sa ln pa le sk nu h)) (Z := (wCl g ap ad r po pn pl tx rp rl rs rm rn rz sv mm)) [.ref (ap 0), .int (xs (i + 1)), .int (xs (i + 2)), .int (xs (i + 3)), .ref ao] [] C (k_L_elevons l g ao fo ap ad r po pn pl tx rp rl rs rm rn rz sv mm (xs (i + 1)) (xs (i + 2)) (xs (i + 3)) H.clo) yH_L_elevons wML_L_210 rfl rfl rfl (nle rfl) (nle rfl) (nle rfl) (rmc hcC (by omega)) (rmc hsC (by omega)) dL_law_1168 (fun r0 w0 h0 => ?_)
  have hP := P_elevons r po pn pl tx rp rl rs rm rn rz sv mm u fi t2 dm th sa ln pa le sk nu h (xs (i + 1)) (xs (i + 2)) (xs (i + 3)) H
  rcases h0 with ⟨h1, rfl, w8, hw, rfl⟩ | ⟨E, cd, h1, hcd, rfl, rfl⟩
  · obtain ⟨adn, rfl⟩ := hw
    obtain ⟨e1, e2, e3⟩ := hP.1 h1
    refine x_perm (ws' := ((wOu g ao (vp_updL fo 0 (Int32.toInt64 (sp_el4_xn r)))) ++ ((wMo g am u fi t2 dm th sa ln pa le sk nu h) ++ (wCl g ap ad (xRk r.kp r.ke r.kr r.kt r.kh r.kc (sp_el4_xn r) (sp_el4_xs r) (sp_el4_xv r (xs (i + 1)) (xs (i + 2))) (sp_el4_xh r (xs (i + 3))) (sp_el4_xo r) (sp_el4_xc r) r.vd r.vn r.vl r.vu r.vs r.vm r.vp r.vt r.va r.vw r.jd r.jb r.jc r.js r.jl r.jx r.ji r.jf r.jn r.dq) (sp_spo2 po pn) (sp_spn2 pn) pl tx rp rl rs rm rn rz (svS sv adn r po pn) mm)))) (List.perm_append_comm_assoc (wMo g am u fi t2 dm th sa ln pa le sk nu h) (wOu g ao (vp_updL fo 0 (Int32.toInt64 (sp_el4_xn r)))) (wCl g ap ad (xRk r.kp r.ke r.kr r.kt r.kh r.kc (sp_el4_xn r) (sp_el4_xs r) (sp_el4_xv r (xs (i + 1)) (xs (i + 2))) (sp_el4_xh r (xs (i + 3))) (sp_el4_xo r) (sp_el4_xc r) r.vd r.vn r.vl r.vu r.vs r.vm r.vp r.vt r.va r.vw r.jd r.jb r.jc r.js r.jl r.jx r.ji r.jf r.jn r.dq) (sp_spo2 po pn) (sp_spn2 pn) pl tx rp rl rs rm rn rz (svS sv adn r po pn) mm)) ?_
    refine x_st (st' := [.int 0]) rfl ?_
    refine x_istore C [(5, .int 0), (4, .int (nI i)), (3, .ref ao), (2, .ref (am 0)), (1, .ref (ap 0)), (0, .ref b)] rfl (by decide) dL_law_1171 ?_
    refine x_aload_n C 3 rfl rfl dL_law_1173 ?_
    refine x_aload_n C 5 rfl rfl dL_law_1174 ?_
    refine x_iload C 1 rfl dL_law_1175 ?_
    refine x_iconst C 1 (by decide) dL_law_1177 ?_
    refine x_iaddN C i 1 rfl rfl dL_law_1178 ?_
    refine x_sld C (i + 1) hX hbl hbA rfl (by omega) (by omega) dL_law_1179 ?_
    refine x_aload_n C 5 rfl rfl dL_law_1180 ?_
    refine x_iload C 1 rfl dL_law_1181 ?_
    refine x_iconst C 2 (by decide) dL_law_1183 ?_
    refine x_iaddN C i 2 rfl rfl dL_law_1184 ?_
    refine x_sld C (i + 2) hX hbl hbA rfl (by omega) (by omega) dL_law_1185 ?_
    refine x_aload_n C 5 rfl rfl dL_law_1186 ?_
    refine x_iload C 1 rfl dL_law_1187 ?_
    refine x_iconst C 3 (by decide) dL_law_1189 ?_
    refine x_iaddN C i 3 rfl rfl dL_law_1190 ?_
    refine x_sld C (i + 3) hX hbl hbA rfl (by omega) (by omega) dL_law_1191 ?_
    refine x_FV (w1 := (wOu g ao (vp_updL fo 0 (Int32.toInt64 (sp_el4_xn r))))) (wc := (wMo g am u fi t2 dm th sa ln pa le sk nu h)) (w2 := (wCl g ap ad (xRk r.kp r.ke r.kr r.kt r.kh r.kc (sp_el4_xn r) (sp_el4_xs r) (sp_el4_xv r (xs (i + 1)) (xs (i + 2))) (sp_el4_xh r (xs (i + 3))) (sp_el4_xo r) (sp_el4_xc r) r.vd r.vn r.vl r.vu r.vs r.vm r.vp r.vt r.va r.vw r.jd r.jb r.jc r.js r.jl r.jx r.ji r.jf r.jn r.dq) (sp_spo2 po pn) (sp_spn2 pn) pl tx rp rl rs rm rn rz (svS sv adn r po pn) mm)) [.int (xs (i + 1)), .int (xs (i + 2)), .int (xs (i + 3))] [] ((wOu g ao (vp_updL fo 0 (Int32.toInt64 (sp_el4_xn r)))) ++ ((wMo g am (sp_X7_elevons_s u sa (xs (i + 1)) (xs (i + 2)) (xs (i + 3))) fi t2 dm (sp_X7_elevons_th u (xs (i + 1)) (xs (i + 2)) (xs (i + 3))) (sp_X7_elevons_sa u sa (xs (i + 1)) (xs (i + 2)) (xs (i + 3))) ln pa le sk nu h) ++ (wCl g ap ad (xRk r.kp r.ke r.kr r.kt r.kh r.kc (sp_el4_xn r) (sp_el4_xs r) (sp_el4_xv r (xs (i + 1)) (xs (i + 2))) (sp_el4_xh r (xs (i + 3))) (sp_el4_xo r) (sp_el4_xc r) r.vd r.vn r.vl r.vu r.vs r.vm r.vp r.vt r.va r.vw r.jd r.jb r.jc r.js r.jl r.jx r.ji r.jf r.jn r.dq) (sp_spo2 po pn) (sp_spn2 pn) pl tx rp rl rs rm rn rz (svS sv adn r po pn) mm))) C (k_X7_elevons l g am u fi t2 dm th sa ln pa le sk nu h (xs (i + 1)) (xs (i + 2)) (xs (i + 3)) H.hs H.hs6 H.hm) rfl yV_X7_elevons wML_L_213 rfl 1 rfl rfl rfl rfl (nle rfl) (nle rfl) (nle rfl) (rmc hcC (by omega)) (rmc hsC (by omega)) dL_law_1192 ?_
    refine x_istore C [(6, .int (sp_X7_elevons u sa (xs (i + 1)) (xs (i + 2)) (xs (i + 3)))), (5, .int 0), (4, .int (nI i)), (3, .ref ao), (2, .ref (am 0)), (1, .ref (ap 0)), (0, .ref b)] rfl (by decide) dL_law_1195 ?_
    refine x_aload_n C 4 rfl rfl dL_law_1197 ?_
    refine x_FV (w1 := (wOu g ao (vp_updL fo 0 (Int32.toInt64 (sp_el4_xn r))))) (wc := (wMo g am (sp_X7_elevons_s u sa (xs (i + 1)) (xs (i + 2)) (xs (i + 3))) fi t2 dm (sp_X7_elevons_th u (xs (i + 1)) (xs (i + 2)) (xs (i + 3))) (sp_X7_elevons_sa u sa (xs (i + 1)) (xs (i + 2)) (xs (i + 3))) ln pa le sk nu h)) (w2 := (wCl g ap ad (xRk r.kp r.ke r.kr r.kt r.kh r.kc (sp_el4_xn r) (sp_el4_xs r) (sp_el4_xv r (xs (i + 1)) (xs (i + 2))) (sp_el4_xh r (xs (i + 3))) (sp_el4_xo r) (sp_el4_xc r) r.vd r.vn r.vl r.vu r.vs r.vm r.vp r.vt r.va r.vw r.jd r.jb r.jc r.js r.jl r.jx r.ji r.jf r.jn r.dq) (sp_spo2 po pn) (sp_spn2 pn) pl tx rp rl rs rm rn rz (svS sv adn r po pn) mm)) [] [] ((wOu g ao (vp_updL fo 0 (Int32.toInt64 (sp_el4_xn r)))) ++ ((wMo g am (sp_X7_elevons_s u sa (xs (i + 1)) (xs (i + 2)) (xs (i + 3))) fi t2 dm (sp_X7_elevons_th u (xs (i + 1)) (xs (i + 2)) (xs (i + 3))) (sp_X7_elevons_sa u sa (xs (i + 1)) (xs (i + 2)) (xs (i + 3))) ln pa le sk nu h) ++ (wCl g ap ad (xRk r.kp r.ke r.kr r.kt r.kh r.kc (sp_el4_xn r) (sp_el4_xs r) (sp_el4_xv r (xs (i + 1)) (xs (i + 2))) (sp_el4_xh r (xs (i + 3))) (sp_el4_xo r) (sp_el4_xc r) r.vd r.vn r.vl r.vu r.vs r.vm r.vp r.vt r.va r.vw r.jd r.jb r.jc r.js r.jl r.jx r.ji r.jf r.jn r.dq) (sp_spo2 po pn) (sp_spn2 pn) pl tx rp rl rs rm rn rz (svS sv adn r po pn) mm))) C (k_X7_thrown l g am (sp_X7_elevons_s u sa (xs (i + 1)) (xs (i + 2)) (xs (i + 3))) fi t2 dm (sp_X7_elevons_th u (xs (i + 1)) (xs (i + 2)) (xs (i + 3))) (sp_X7_elevons_sa u sa (xs (i + 1)) (xs (i + 2)) (xs (i + 3))) ln pa le sk nu h) rfl yV_X7_thrown wML_L_154 rfl 1 rfl rfl rfl rfl (nle rfl) (nle rfl) (nle rfl) (rmc hcC (by omega)) (rmc hsC (by omega)) dL_law_1198 ?_
    refine x_iload C 1 rfl dL_law_1201 ?_
    refine x_icmp_eq C 1208 (by decide) dL_law_1203 (fun _ => ?_) (fun hz => absurd e1 hz)
    refine x_iload C 1 rfl dL_law_1208 ?_
    refine x_if_ne C 1225 (by decide) dL_law_1210 (fun hz => absurd (by decide) hz) (fun _ => ?_)
    refine x_aload_n C 3 rfl rfl dL_law_1213 ?_
    refine x_iconst C 0 (by decide) dL_law_1214 ?_
    refine x_lald (f := (vp_updL fo 0 (Int32.toInt64 (sp_el4_xn r)))) C 0 3 rfl rfl in1 dL_law_1215 ?_
    refine x_st (st' := [.long (Int32.toInt64 (sp_el4_xn r))]) rfl ?_
    refine x_iload C 0 rfl dL_law_1216 ?_
    refine x_i2l C dL_law_1218 ?_
    refine x_lcmp C dL_law_1219 ?_
    refine x_if_eq C 1225 (by decide) dL_law_1220 (fun _ => ?_) (fun hz => absurd (lgz (congrArg Int32.toInt64 e2)) hz)
    refine x_goto C 3131 (by decide) dL_law_1225 ?_
    refine x_lv [(4, .int (nI i)), (3, .ref ao), (2, .ref (am 0)), (1, .ref (ap 0)), (0, .ref b)] [2, 3, 4, 5, 6] rfl ?_
    refine x_wid (k := cells + 40) (n := slots + 300) (by omega) (by omega) ?_
    exact K (xRk r.kp r.ke r.kr r.kt r.kh r.kc (sp_el4_xn r) (sp_el4_xs r) (sp_el4_xv r (xs (i + 1)) (xs (i + 2))) (sp_el4_xh r (xs (i + 3))) (sp_el4_xo r) (sp_el4_xc r) r.vd r.vn r.vl r.vu r.vs r.vm r.vp r.vt r.va r.vw r.jd r.jb r.jc r.js r.jl r.jx r.ji r.jf r.jn r.dq) (sp_spo2 po pn) (sp_spn2 pn) pl tx rp rl rs rm rn rz (svS sv adn r po pn) mm (sp_X7_elevons_s u sa (xs (i + 1)) (xs (i + 2)) (xs (i + 3))) fi t2 dm (sp_X7_elevons_th u (xs (i + 1)) (xs (i + 2)) (xs (i + 3))) (sp_X7_elevons_sa u sa (xs (i + 1)) (xs (i + 2)) (xs (i + 3))) ln pa le sk nu h (vp_updL fo 0 (Int32.toInt64 (sp_el4_xn r))) (e3 adn)
  · obtain ⟨e1, e3⟩ := hP.2 E cd h1 hcd
    refine x_perm (ws' := ((wOu g ao fo) ++ ((wMo g am u fi t2 dm th sa ln pa le sk nu h) ++ (wCl g ap ad r po pn pl tx rp rl rs rm rn rz sv mm)))) (List.perm_append_comm_assoc (wMo g am u fi t2 dm th sa ln pa le sk nu h) (wOu g ao fo) (wCl g ap ad r po pn pl tx rp rl rs rm rn rz sv mm)) ?_
    refine x_st (st' := [.int cd]) rfl ?_
    refine x_istore C [(5, .int cd), (4, .int (nI i)), (3, .ref ao), (2, .ref (am 0)), (1, .ref (ap 0)), (0, .ref b)] rfl (by decide) dL_law_1171 ?_
    refine x_aload_n C 3 rfl rfl dL_law_1173 ?_
    refine x_aload_n C 5 rfl rfl dL_law_1174 ?_
    refine x_iload C 1 rfl dL_law_1175 ?_
    refine x_iconst C 1 (by decide) dL_law_1177 ?_
    refine x_iaddN C i 1 rfl rfl dL_law_1178 ?_
    refine x_sld C (i + 1) hX hbl hbA rfl (by omega) (by omega) dL_law_1179 ?_
    refine x_aload_n C 5 rfl rfl dL_law_1180 ?_
    refine x_iload C 1 rfl dL_law_1181 ?_
    refine x_iconst C 2 (by decide) dL_law_1183 ?_
    refine x_iaddN C i 2 rfl rfl dL_law_1184 ?_
    refine x_sld C (i + 2) hX hbl hbA rfl (by omega) (by omega) dL_law_1185 ?_
    refine x_aload_n C 5 rfl rfl dL_law_1186 ?_
    refine x_iload C 1 rfl dL_law_1187 ?_
    refine x_iconst C 3 (by decide) dL_law_1189 ?_
    refine x_iaddN C i 3 rfl rfl dL_law_1190 ?_
    refine x_sld C (i + 3) hX hbl hbA rfl (by omega) (by omega) dL_law_1191 ?_
    refine x_FV (w1 := (wOu g ao fo)) (wc := (wMo g am u fi t2 dm th sa ln pa le sk nu h)) (w2 := (wCl g ap ad r po pn pl tx rp rl rs rm rn rz sv mm)) [.int (xs (i + 1)), .int (xs (i + 2)), .int (xs (i + 3))] [] ((wOu g ao fo) ++ ((wMo g am (sp_X7_elevons_s u sa (xs (i + 1)) (xs (i + 2)) (xs (i + 3))) fi t2 dm (sp_X7_elevons_th u (xs (i + 1)) (xs (i + 2)) (xs (i + 3))) (sp_X7_elevons_sa u sa (xs (i + 1)) (xs (i + 2)) (xs (i + 3))) ln pa le sk nu h) ++ (wCl g ap ad r po pn pl tx rp rl rs rm rn rz sv mm))) C (k_X7_elevons l g am u fi t2 dm th sa ln pa le sk nu h (xs (i + 1)) (xs (i + 2)) (xs (i + 3)) H.hs H.hs6 H.hm) rfl yV_X7_elevons wML_L_213 rfl 1 rfl rfl rfl rfl (nle rfl) (nle rfl) (nle rfl) (rmc hcC (by omega)) (rmc hsC (by omega)) dL_law_1192 ?_
    refine x_istore C [(6, .int (sp_X7_elevons u sa (xs (i + 1)) (xs (i + 2)) (xs (i + 3)))), (5, .int cd), (4, .int (nI i)), (3, .ref ao), (2, .ref (am 0)), (1, .ref (ap 0)), (0, .ref b)] rfl (by decide) dL_law_1195 ?_
    refine x_aload_n C 4 rfl rfl dL_law_1197 ?_
    refine x_FV (w1 := (wOu g ao fo)) (wc := (wMo g am (sp_X7_elevons_s u sa (xs (i + 1)) (xs (i + 2)) (xs (i + 3))) fi t2 dm (sp_X7_elevons_th u (xs (i + 1)) (xs (i + 2)) (xs (i + 3))) (sp_X7_elevons_sa u sa (xs (i + 1)) (xs (i + 2)) (xs (i + 3))) ln pa le sk nu h)) (w2 := (wCl g ap ad r po pn pl tx rp rl rs rm rn rz sv mm)) [] [] ((wOu g ao fo) ++ ((wMo g am (sp_X7_elevons_s u sa (xs (i + 1)) (xs (i + 2)) (xs (i + 3))) fi t2 dm (sp_X7_elevons_th u (xs (i + 1)) (xs (i + 2)) (xs (i + 3))) (sp_X7_elevons_sa u sa (xs (i + 1)) (xs (i + 2)) (xs (i + 3))) ln pa le sk nu h) ++ (wCl g ap ad r po pn pl tx rp rl rs rm rn rz sv mm))) C (k_X7_thrown l g am (sp_X7_elevons_s u sa (xs (i + 1)) (xs (i + 2)) (xs (i + 3))) fi t2 dm (sp_X7_elevons_th u (xs (i + 1)) (xs (i + 2)) (xs (i + 3))) (sp_X7_elevons_sa u sa (xs (i + 1)) (xs (i + 2)) (xs (i + 3))) ln pa le sk nu h) rfl yV_X7_thrown wML_L_154 rfl 1 rfl rfl rfl rfl (nle rfl) (nle rfl) (nle rfl) (rmc hcC (by omega)) (rmc hsC (by omega)) dL_law_1198 ?_
    refine x_iload C 1 rfl dL_law_1201 ?_
    refine x_icmp_eq C 1208 (by decide) dL_law_1203 (fun _ => ?_) (fun hz => absurd e1 hz)
    refine x_iload C 1 rfl dL_law_1208 ?_
    refine x_if_ne C 1225 (by decide) dL_law_1210 (fun _ => ?_) (fun hz => absurd hz (by rcases hcd with ⟨-, rfl⟩ | ⟨-, rfl⟩ | ⟨-, rfl⟩ <;> decide))
    refine x_goto C 3131 (by decide) dL_law_1225 ?_
    refine x_lv [(4, .int (nI i)), (3, .ref ao), (2, .ref (am 0)), (1, .ref (ap 0)), (0, .ref b)] [2, 3, 4, 5, 6] rfl ?_
    refine x_wid (k := cells + 40) (n := slots + 300) (by omega) (by omega) ?_
    exact K r po pn pl tx rp rl rs rm rn rz sv mm (sp_X7_elevons_s u sa (xs (i + 1)) (xs (i + 2)) (xs (i + 3))) fi t2 dm (sp_X7_elevons_th u (xs (i + 1)) (xs (i + 2)) (xs (i + 3))) (sp_X7_elevons_sa u sa (xs (i + 1)) (xs (i + 2)) (xs (i + 3))) ln pa le sk nu h fo e3
set_option maxRecDepth 100000 in
set_option maxHeartbeats 2000000 in
theorem c_17 {p : Program} {l : Launch} {e : Env} {s : State} {m : MethodId} {args : Array Value} {below : List Frame} {meth : Method} {c : Code} {cells slots : Nat} {Q : State → Prop} {nm : String} {g : xGt} {A : Nat → Prop} {b L i : Nat} {xs : Nat → Int32} {ap ad am : Nat → Nat} {ao : Nat} {r : xR} {po : Int32} {pn : Int32} {pl : Int32} {tx : Nat → Int32} {rp : Int32} {rl : Int32} {rs : Int32} {rm : Int32} {rn : Int32} {rz : Int32} {sv : xPl} {mm : xPl} {u : Nat → Int32} {fi : Nat → Int32} {t2 : Nat → Int32} {dm : Nat → Int32} {th : Int32} {sa : Int32} {ln : Int32} {pa : Int32} {le : Int32} {sk : Int32} {nu : Int32} {h : Int64} {fo : Nat → Int64} (C : xC p l s m args meth c cL_law 9 RL nm g.1 (xT g) A) (hX : va_X b L xs s s.heap) (hbl : b < s.heap.size) (hbA : ¬ A b) (hi : i + 6 ≤ L) (hL : L ≤ 3072) (hcC : cells + 40 ≤ room_1.cells) (hsC : slots + 300 ≤ room_1.slots) (H : RI r po pn pl tx sv mm u fi t2 sa ln) (K : LK p l e s m args below meth c g A ap ad am ao b i (cells + 40) (slots + 300) Q) : xW p l e room_1 s m args below meth c g.1 A 9 cells slots Q (wLaw g ap ad am ao r po pn pl tx rp rl rs rm rn rz sv mm u fi t2 dm th sa ln pa le sk nu h fo) [(4, .int (nI i)), (3, .ref ao), (2, .ref (am 0)), (1, .ref (ap 0)), (0, .ref b)] 1228 [] := by
  refine x_ws (ws' := ((wOu g ao fo) ++ ((wMo g am u fi t2 dm th sa ln pa le sk nu h) ++ (wCl g ap ad r po pn pl tx rp rl rs rm rn rz sv mm)))) rfl ?_
  refine x_aload_n C 3 rfl rfl dL_law_1228 ?_
  refine x_EV1 (w1 := (wOu g ao fo) ++ (wMo g am u fi t2 dm th sa ln pa le sk nu h)) (wc := (wCl g ap ad r po pn pl tx rp rl rs rm rn rz sv mm)) [] [] C (k_X6_mixes l g ap ad r po pn pl tx rp rl rs rm rn rz sv mm H.clo) (List.append_assoc _ _ _).symm yV_X6_mixes wML_L_214 6 rfl rfl rfl rfl (nle rfl) (nle rfl) (nle rfl) (rmc hcC (by omega)) (rmc hsC (by omega)) dL_law_1229 (fun E w h => h.elim) (fun r0 w0 h0 => ?_)
  have hP := P_mixes r po pn pl tx rp rl rs rm rn rz sv mm u fi t2 dm th sa ln pa le sk nu h  H
  obtain ⟨rfl, rfl⟩ := h0
  refine x_ws (ws' := ((wOu g ao fo) ++ ((wMo g am u fi t2 dm th sa ln pa le sk nu h) ++ (wCl g ap ad r po pn pl tx rp rl rs rm rn rz sv mm)))) (List.append_assoc _ _ _) ?_
  refine x_st (st' := [.int r.xn]) rfl ?_
  refine x_aload_n C 2 rfl rfl dL_law_1232 ?_
  refine x_FV (w1 := (wOu g ao fo)) (wc := (wMo g am u fi t2 dm th sa ln pa le sk nu h)) (w2 := (wCl g ap ad r po pn pl tx rp rl rs rm rn rz sv mm)) [] [.int r.xn] ((wOu g ao fo) ++ ((wMo g am u fi t2 dm 0 sa ln pa le sk nu h) ++ (wCl g ap ad r po pn pl tx rp rl rs rm rn rz sv mm))) C (k_X7_mixes l g am u fi t2 dm th sa ln pa le sk nu h H.hs H.hs6 H.hm) rfl yV_X7_mixes wML_L_217 rfl 1 rfl rfl rfl rfl (nle rfl) (nle rfl) (nle rfl) (rmc hcC (by omega)) (rmc hsC (by omega)) dL_law_1233 ?_
  refine x_icmp_eq C 3131 (by decide) dL_law_1236 (fun _ => ?_) (fun hz => absurd hP.1 hz)
  refine x_wid (k := cells + 40) (n := slots + 300) (by omega) (by omega) ?_
  exact K r po pn pl tx rp rl rs rm rn rz sv mm u fi t2 dm 0 sa ln pa le sk nu h fo hP.2
set_option maxRecDepth 100000 in
set_option maxHeartbeats 2000000 in
theorem c_18 {p : Program} {l : Launch} {e : Env} {s : State} {m : MethodId} {args : Array Value} {below : List Frame} {meth : Method} {c : Code} {cells slots : Nat} {Q : State → Prop} {nm : String} {g : xGt} {A : Nat → Prop} {b L i : Nat} {xs : Nat → Int32} {ap ad am : Nat → Nat} {ao : Nat} {r : xR} {po : Int32} {pn : Int32} {pl : Int32} {tx : Nat → Int32} {rp : Int32} {rl : Int32} {rs : Int32} {rm : Int32} {rn : Int32} {rz : Int32} {sv : xPl} {mm : xPl} {u : Nat → Int32} {fi : Nat → Int32} {t2 : Nat → Int32} {dm : Nat → Int32} {th : Int32} {sa : Int32} {ln : Int32} {pa : Int32} {le : Int32} {sk : Int32} {nu : Int32} {h : Int64} {fo : Nat → Int64} (C : xC p l s m args meth c cL_law 9 RL nm g.1 (xT g) A) (hX : va_X b L xs s s.heap) (hbl : b < s.heap.size) (hbA : ¬ A b) (hi : i + 6 ≤ L) (hL : L ≤ 3072) (hcC : cells + 40 ≤ room_1.cells) (hsC : slots + 300 ≤ room_1.slots) (H : RI r po pn pl tx sv mm u fi t2 sa ln) (K : LK p l e s m args below meth c g A ap ad am ao b i (cells + 40) (slots + 300) Q) : xW p l e room_1 s m args below meth c g.1 A 9 cells slots Q (wLaw g ap ad am ao r po pn pl tx rp rl rs rm rn rz sv mm u fi t2 dm th sa ln pa le sk nu h fo) [(4, .int (nI i)), (3, .ref ao), (2, .ref (am 0)), (1, .ref (ap 0)), (0, .ref b)] 1241 [] := by
  refine x_ws (ws' := ((wOu g ao fo) ++ ((wMo g am u fi t2 dm th sa ln pa le sk nu h) ++ (wCl g ap ad r po pn pl tx rp rl rs rm rn rz sv mm)))) rfl ?_
  refine x_aload_n C 3 rfl rfl dL_law_1241 ?_
  refine x_aload_n C 4 rfl rfl dL_law_1242 ?_
  refine x_iload C 0 rfl dL_law_1243 ?_
  refine x_iconst C 1 (by decide) dL_law_1245 ?_
  refine x_iaddN C i 1 rfl rfl dL_law_1246 ?_
  refine x_sld C (i + 1) hX hbl hbA rfl (by omega) (by omega) dL_law_1247 ?_
  refine x_aload_n C 1 rfl rfl dL_law_1248 ?_
  refine x_callL (X := (wOu g ao fo)) (Y := (wMo g am u fi t2 dm th sa ln pa le sk nu h)) (Z := (wCl g ap ad r po pn pl tx rp rl rs rm rn rz sv mm)) [.ref (ap 0), .int (xs (i + 1)), .ref ao] [] C (k_L_mixSource l g ao fo ap ad r po pn pl tx rp rl rs rm rn rz sv mm (xs (i + 1)) H.clo) yH_L_mixSource wML_L_218 rfl rfl rfl (nle rfl) (nle rfl) (nle rfl) (rmc hcC (by omega)) (rmc hsC (by omega)) dL_law_1249 (fun r0 w0 h0 => ?_)
  have hP := P_mixSource r po pn pl tx rp rl rs rm rn rz sv mm u fi t2 dm th sa ln pa le sk nu h (xs (i + 1)) H
  rcases h0 with ⟨h1, rfl, w8, hw, rfl⟩ | ⟨E, cd, h1, hcd, rfl, rfl⟩
  · obtain rfl := hw
    obtain ⟨e1, e2, e3⟩ := hP.1 h1
    refine x_perm (ws' := ((wOu g ao (vp_updL fo 0 (Int32.toInt64 (r.xs (Int32.toNatClampNeg (xs (i + 1))))))) ++ ((wMo g am u fi t2 dm th sa ln pa le sk nu h) ++ (wCl g ap ad r po pn pl tx rp rl rs rm rn rz sv mm)))) (List.perm_append_comm_assoc (wMo g am u fi t2 dm th sa ln pa le sk nu h) (wOu g ao (vp_updL fo 0 (Int32.toInt64 (r.xs (Int32.toNatClampNeg (xs (i + 1))))))) (wCl g ap ad r po pn pl tx rp rl rs rm rn rz sv mm)) ?_
    refine x_st (st' := [.int 0]) rfl ?_
    refine x_istore C [(5, .int 0), (4, .int (nI i)), (3, .ref ao), (2, .ref (am 0)), (1, .ref (ap 0)), (0, .ref b)] rfl (by decide) dL_law_1252 ?_
    refine x_aload_n C 3 rfl rfl dL_law_1254 ?_
    refine x_aload_n C 5 rfl rfl dL_law_1255 ?_
    refine x_iload C 1 rfl dL_law_1256 ?_
    refine x_iconst C 1 (by decide) dL_law_1258 ?_
    refine x_iaddN C i 1 rfl rfl dL_law_1259 ?_
    refine x_sld C (i + 1) hX hbl hbA rfl (by omega) (by omega) dL_law_1260 ?_
    refine x_FV (w1 := (wOu g ao (vp_updL fo 0 (Int32.toInt64 (r.xs (Int32.toNatClampNeg (xs (i + 1)))))))) (wc := (wMo g am u fi t2 dm th sa ln pa le sk nu h)) (w2 := (wCl g ap ad r po pn pl tx rp rl rs rm rn rz sv mm)) [.int (xs (i + 1))] [] ((wOu g ao (vp_updL fo 0 (Int32.toInt64 (r.xs (Int32.toNatClampNeg (xs (i + 1))))))) ++ ((wMo g am u fi t2 dm (sp_X7_mixSource_th u (xs (i + 1))) sa ln pa le sk nu h) ++ (wCl g ap ad r po pn pl tx rp rl rs rm rn rz sv mm))) C (k_X7_mixSource l g am u fi t2 dm th sa ln pa le sk nu h (xs (i + 1)) H.hs H.hs6 H.hm) rfl yV_X7_mixSource wML_L_220 rfl 1 rfl rfl rfl rfl (nle rfl) (nle rfl) (nle rfl) (rmc hcC (by omega)) (rmc hsC (by omega)) dL_law_1261 ?_
    refine x_istore C [(6, .int (sp_X7_mixSource u (xs (i + 1)))), (5, .int 0), (4, .int (nI i)), (3, .ref ao), (2, .ref (am 0)), (1, .ref (ap 0)), (0, .ref b)] rfl (by decide) dL_law_1264 ?_
    refine x_aload_n C 4 rfl rfl dL_law_1266 ?_
    refine x_FV (w1 := (wOu g ao (vp_updL fo 0 (Int32.toInt64 (r.xs (Int32.toNatClampNeg (xs (i + 1)))))))) (wc := (wMo g am u fi t2 dm (sp_X7_mixSource_th u (xs (i + 1))) sa ln pa le sk nu h)) (w2 := (wCl g ap ad r po pn pl tx rp rl rs rm rn rz sv mm)) [] [] ((wOu g ao (vp_updL fo 0 (Int32.toInt64 (r.xs (Int32.toNatClampNeg (xs (i + 1))))))) ++ ((wMo g am u fi t2 dm (sp_X7_mixSource_th u (xs (i + 1))) sa ln pa le sk nu h) ++ (wCl g ap ad r po pn pl tx rp rl rs rm rn rz sv mm))) C (k_X7_thrown l g am u fi t2 dm (sp_X7_mixSource_th u (xs (i + 1))) sa ln pa le sk nu h) rfl yV_X7_thrown wML_L_154 rfl 1 rfl rfl rfl rfl (nle rfl) (nle rfl) (nle rfl) (rmc hcC (by omega)) (rmc hsC (by omega)) dL_law_1267 ?_
    refine x_iload C 1 rfl dL_law_1270 ?_
    refine x_icmp_eq C 1277 (by decide) dL_law_1272 (fun _ => ?_) (fun hz => absurd e1 hz)
    refine x_iload C 1 rfl dL_law_1277 ?_
    refine x_if_ne C 1294 (by decide) dL_law_1279 (fun hz => absurd (by decide) hz) (fun _ => ?_)
    refine x_aload_n C 3 rfl rfl dL_law_1282 ?_
    refine x_iconst C 0 (by decide) dL_law_1283 ?_
    refine x_lald (f := (vp_updL fo 0 (Int32.toInt64 (r.xs (Int32.toNatClampNeg (xs (i + 1))))))) C 0 3 rfl rfl in1 dL_law_1284 ?_
    refine x_st (st' := [.long (Int32.toInt64 (r.xs (Int32.toNatClampNeg (xs (i + 1)))))]) rfl ?_
    refine x_iload C 0 rfl dL_law_1285 ?_
    refine x_i2l C dL_law_1287 ?_
    refine x_lcmp C dL_law_1288 ?_
    refine x_if_eq C 1294 (by decide) dL_law_1289 (fun _ => ?_) (fun hz => absurd (lgz (congrArg Int32.toInt64 e2)) hz)
    refine x_goto C 3131 (by decide) dL_law_1294 ?_
    refine x_lv [(4, .int (nI i)), (3, .ref ao), (2, .ref (am 0)), (1, .ref (ap 0)), (0, .ref b)] [2, 3, 4, 5, 6] rfl ?_
    refine x_wid (k := cells + 40) (n := slots + 300) (by omega) (by omega) ?_
    exact K r po pn pl tx rp rl rs rm rn rz sv mm u fi t2 dm (sp_X7_mixSource_th u (xs (i + 1))) sa ln pa le sk nu h (vp_updL fo 0 (Int32.toInt64 (r.xs (Int32.toNatClampNeg (xs (i + 1)))))) e3
  · obtain ⟨e1, e3⟩ := hP.2 E cd h1 hcd
    refine x_perm (ws' := ((wOu g ao fo) ++ ((wMo g am u fi t2 dm th sa ln pa le sk nu h) ++ (wCl g ap ad r po pn pl tx rp rl rs rm rn rz sv mm)))) (List.perm_append_comm_assoc (wMo g am u fi t2 dm th sa ln pa le sk nu h) (wOu g ao fo) (wCl g ap ad r po pn pl tx rp rl rs rm rn rz sv mm)) ?_
    refine x_st (st' := [.int cd]) rfl ?_
    refine x_istore C [(5, .int cd), (4, .int (nI i)), (3, .ref ao), (2, .ref (am 0)), (1, .ref (ap 0)), (0, .ref b)] rfl (by decide) dL_law_1252 ?_
    refine x_aload_n C 3 rfl rfl dL_law_1254 ?_
    refine x_aload_n C 5 rfl rfl dL_law_1255 ?_
    refine x_iload C 1 rfl dL_law_1256 ?_
    refine x_iconst C 1 (by decide) dL_law_1258 ?_
    refine x_iaddN C i 1 rfl rfl dL_law_1259 ?_
    refine x_sld C (i + 1) hX hbl hbA rfl (by omega) (by omega) dL_law_1260 ?_
    refine x_FV (w1 := (wOu g ao fo)) (wc := (wMo g am u fi t2 dm th sa ln pa le sk nu h)) (w2 := (wCl g ap ad r po pn pl tx rp rl rs rm rn rz sv mm)) [.int (xs (i + 1))] [] ((wOu g ao fo) ++ ((wMo g am u fi t2 dm (sp_X7_mixSource_th u (xs (i + 1))) sa ln pa le sk nu h) ++ (wCl g ap ad r po pn pl tx rp rl rs rm rn rz sv mm))) C (k_X7_mixSource l g am u fi t2 dm th sa ln pa le sk nu h (xs (i + 1)) H.hs H.hs6 H.hm) rfl yV_X7_mixSource wML_L_220 rfl 1 rfl rfl rfl rfl (nle rfl) (nle rfl) (nle rfl) (rmc hcC (by omega)) (rmc hsC (by omega)) dL_law_1261 ?_
    refine x_istore C [(6, .int (sp_X7_mixSource u (xs (i + 1)))), (5, .int cd), (4, .int (nI i)), (3, .ref ao), (2, .ref (am 0)), (1, .ref (ap 0)), (0, .ref b)] rfl (by decide) dL_law_1264 ?_
    refine x_aload_n C 4 rfl rfl dL_law_1266 ?_
    refine x_FV (w1 := (wOu g ao fo)) (wc := (wMo g am u fi t2 dm (sp_X7_mixSource_th u (xs (i + 1))) sa ln pa le sk nu h)) (w2 := (wCl g ap ad r po pn pl tx rp rl rs rm rn rz sv mm)) [] [] ((wOu g ao fo) ++ ((wMo g am u fi t2 dm (sp_X7_mixSource_th u (xs (i + 1))) sa ln pa le sk nu h) ++ (wCl g ap ad r po pn pl tx rp rl rs rm rn rz sv mm))) C (k_X7_thrown l g am u fi t2 dm (sp_X7_mixSource_th u (xs (i + 1))) sa ln pa le sk nu h) rfl yV_X7_thrown wML_L_154 rfl 1 rfl rfl rfl rfl (nle rfl) (nle rfl) (nle rfl) (rmc hcC (by omega)) (rmc hsC (by omega)) dL_law_1267 ?_
    refine x_iload C 1 rfl dL_law_1270 ?_
    refine x_icmp_eq C 1277 (by decide) dL_law_1272 (fun _ => ?_) (fun hz => absurd e1 hz)
    refine x_iload C 1 rfl dL_law_1277 ?_
    refine x_if_ne C 1294 (by decide) dL_law_1279 (fun _ => ?_) (fun hz => absurd hz (cd0 hcd))
    refine x_goto C 3131 (by decide) dL_law_1294 ?_
    refine x_lv [(4, .int (nI i)), (3, .ref ao), (2, .ref (am 0)), (1, .ref (ap 0)), (0, .ref b)] [2, 3, 4, 5, 6] rfl ?_
    refine x_wid (k := cells + 40) (n := slots + 300) (by omega) (by omega) ?_
    exact K r po pn pl tx rp rl rs rm rn rz sv mm u fi t2 dm (sp_X7_mixSource_th u (xs (i + 1))) sa ln pa le sk nu h fo e3
set_option maxRecDepth 100000 in
set_option maxHeartbeats 2000000 in
theorem c_19 {p : Program} {l : Launch} {e : Env} {s : State} {m : MethodId} {args : Array Value} {below : List Frame} {meth : Method} {c : Code} {cells slots : Nat} {Q : State → Prop} {nm : String} {g : xGt} {A : Nat → Prop} {b L i : Nat} {xs : Nat → Int32} {ap ad am : Nat → Nat} {ao : Nat} {r : xR} {po : Int32} {pn : Int32} {pl : Int32} {tx : Nat → Int32} {rp : Int32} {rl : Int32} {rs : Int32} {rm : Int32} {rn : Int32} {rz : Int32} {sv : xPl} {mm : xPl} {u : Nat → Int32} {fi : Nat → Int32} {t2 : Nat → Int32} {dm : Nat → Int32} {th : Int32} {sa : Int32} {ln : Int32} {pa : Int32} {le : Int32} {sk : Int32} {nu : Int32} {h : Int64} {fo : Nat → Int64} (C : xC p l s m args meth c cL_law 9 RL nm g.1 (xT g) A) (hX : va_X b L xs s s.heap) (hbl : b < s.heap.size) (hbA : ¬ A b) (hi : i + 6 ≤ L) (hL : L ≤ 3072) (hcC : cells + 40 ≤ room_1.cells) (hsC : slots + 300 ≤ room_1.slots) (H : RI r po pn pl tx sv mm u fi t2 sa ln) (K : LK p l e s m args below meth c g A ap ad am ao b i (cells + 40) (slots + 300) Q) : xW p l e room_1 s m args below meth c g.1 A 9 cells slots Q (wLaw g ap ad am ao r po pn pl tx rp rl rs rm rn rz sv mm u fi t2 dm th sa ln pa le sk nu h fo) [(4, .int (nI i)), (3, .ref ao), (2, .ref (am 0)), (1, .ref (ap 0)), (0, .ref b)] 1297 [] := by
  refine x_ws (ws' := ((wOu g ao fo) ++ ((wMo g am u fi t2 dm th sa ln pa le sk nu h) ++ (wCl g ap ad r po pn pl tx rp rl rs rm rn rz sv mm)))) rfl ?_
  refine x_aload_n C 3 rfl rfl dL_law_1297 ?_
  refine x_aload_n C 4 rfl rfl dL_law_1298 ?_
  refine x_iload C 0 rfl dL_law_1299 ?_
  refine x_iconst C 1 (by decide) dL_law_1301 ?_
  refine x_iaddN C i 1 rfl rfl dL_law_1302 ?_
  refine x_sld C (i + 1) hX hbl hbA rfl (by omega) (by omega) dL_law_1303 ?_
  refine x_aload_n C 1 rfl rfl dL_law_1304 ?_
  refine x_callL (X := (wOu g ao fo)) (Y := (wMo g am u fi t2 dm th sa ln pa le sk nu h)) (Z := (wCl g ap ad r po pn pl tx rp rl rs rm rn rz sv mm)) [.ref (ap 0), .int (xs (i + 1)), .ref ao] [] C (k_L_mixServo l g ao fo ap ad r po pn pl tx rp rl rs rm rn rz sv mm (xs (i + 1)) H.clo) yH_L_mixServo wML_L_221 rfl rfl rfl (nle rfl) (nle rfl) (nle rfl) (rmc hcC (by omega)) (rmc hsC (by omega)) dL_law_1305 (fun r0 w0 h0 => ?_)
  have hP := P_mixServo r po pn pl tx rp rl rs rm rn rz sv mm u fi t2 dm th sa ln pa le sk nu h (xs (i + 1)) H
  rcases h0 with ⟨h1, rfl, w8, hw, rfl⟩ | ⟨E, cd, h1, hcd, rfl, rfl⟩
  · obtain rfl := hw
    obtain ⟨e1, e2, e3⟩ := hP.1 h1
    refine x_perm (ws' := ((wOu g ao (vp_updL fo 0 (Int32.toInt64 (r.xv (Int32.toNatClampNeg (xs (i + 1))))))) ++ ((wMo g am u fi t2 dm th sa ln pa le sk nu h) ++ (wCl g ap ad r po pn pl tx rp rl rs rm rn rz sv mm)))) (List.perm_append_comm_assoc (wMo g am u fi t2 dm th sa ln pa le sk nu h) (wOu g ao (vp_updL fo 0 (Int32.toInt64 (r.xv (Int32.toNatClampNeg (xs (i + 1))))))) (wCl g ap ad r po pn pl tx rp rl rs rm rn rz sv mm)) ?_
    refine x_st (st' := [.int 0]) rfl ?_
    refine x_istore C [(5, .int 0), (4, .int (nI i)), (3, .ref ao), (2, .ref (am 0)), (1, .ref (ap 0)), (0, .ref b)] rfl (by decide) dL_law_1308 ?_
    refine x_aload_n C 3 rfl rfl dL_law_1310 ?_
    refine x_aload_n C 5 rfl rfl dL_law_1311 ?_
    refine x_iload C 1 rfl dL_law_1312 ?_
    refine x_iconst C 1 (by decide) dL_law_1314 ?_
    refine x_iaddN C i 1 rfl rfl dL_law_1315 ?_
    refine x_sld C (i + 1) hX hbl hbA rfl (by omega) (by omega) dL_law_1316 ?_
    refine x_FV (w1 := (wOu g ao (vp_updL fo 0 (Int32.toInt64 (r.xv (Int32.toNatClampNeg (xs (i + 1)))))))) (wc := (wMo g am u fi t2 dm th sa ln pa le sk nu h)) (w2 := (wCl g ap ad r po pn pl tx rp rl rs rm rn rz sv mm)) [.int (xs (i + 1))] [] ((wOu g ao (vp_updL fo 0 (Int32.toInt64 (r.xv (Int32.toNatClampNeg (xs (i + 1))))))) ++ ((wMo g am u fi t2 dm (sp_X7_mixServo_th u (xs (i + 1))) sa ln pa le sk nu h) ++ (wCl g ap ad r po pn pl tx rp rl rs rm rn rz sv mm))) C (k_X7_mixServo l g am u fi t2 dm th sa ln pa le sk nu h (xs (i + 1)) H.hs H.hs6 H.hm) rfl yV_X7_mixServo wML_L_223 rfl 1 rfl rfl rfl rfl (nle rfl) (nle rfl) (nle rfl) (rmc hcC (by omega)) (rmc hsC (by omega)) dL_law_1317 ?_
    refine x_istore C [(6, .int (sp_X7_mixServo u (xs (i + 1)))), (5, .int 0), (4, .int (nI i)), (3, .ref ao), (2, .ref (am 0)), (1, .ref (ap 0)), (0, .ref b)] rfl (by decide) dL_law_1320 ?_
    refine x_aload_n C 4 rfl rfl dL_law_1322 ?_
    refine x_FV (w1 := (wOu g ao (vp_updL fo 0 (Int32.toInt64 (r.xv (Int32.toNatClampNeg (xs (i + 1)))))))) (wc := (wMo g am u fi t2 dm (sp_X7_mixServo_th u (xs (i + 1))) sa ln pa le sk nu h)) (w2 := (wCl g ap ad r po pn pl tx rp rl rs rm rn rz sv mm)) [] [] ((wOu g ao (vp_updL fo 0 (Int32.toInt64 (r.xv (Int32.toNatClampNeg (xs (i + 1))))))) ++ ((wMo g am u fi t2 dm (sp_X7_mixServo_th u (xs (i + 1))) sa ln pa le sk nu h) ++ (wCl g ap ad r po pn pl tx rp rl rs rm rn rz sv mm))) C (k_X7_thrown l g am u fi t2 dm (sp_X7_mixServo_th u (xs (i + 1))) sa ln pa le sk nu h) rfl yV_X7_thrown wML_L_154 rfl 1 rfl rfl rfl rfl (nle rfl) (nle rfl) (nle rfl) (rmc hcC (by omega)) (rmc hsC (by omega)) dL_law_1323 ?_
    refine x_iload C 1 rfl dL_law_1326 ?_
    refine x_icmp_eq C 1333 (by decide) dL_law_1328 (fun _ => ?_) (fun hz => absurd e1 hz)
    refine x_iload C 1 rfl dL_law_1333 ?_
    refine x_if_ne C 1350 (by decide) dL_law_1335 (fun hz => absurd (by decide) hz) (fun _ => ?_)
    refine x_aload_n C 3 rfl rfl dL_law_1338 ?_
    refine x_iconst C 0 (by decide) dL_law_1339 ?_
    refine x_lald (f := (vp_updL fo 0 (Int32.toInt64 (r.xv (Int32.toNatClampNeg (xs (i + 1))))))) C 0 3 rfl rfl in1 dL_law_1340 ?_
    refine x_st (st' := [.long (Int32.toInt64 (r.xv (Int32.toNatClampNeg (xs (i + 1)))))]) rfl ?_
    refine x_iload C 0 rfl dL_law_1341 ?_
    refine x_i2l C dL_law_1343 ?_
    refine x_lcmp C dL_law_1344 ?_
    refine x_if_eq C 1350 (by decide) dL_law_1345 (fun _ => ?_) (fun hz => absurd (lgz (congrArg Int32.toInt64 e2)) hz)
    refine x_goto C 3131 (by decide) dL_law_1350 ?_
    refine x_lv [(4, .int (nI i)), (3, .ref ao), (2, .ref (am 0)), (1, .ref (ap 0)), (0, .ref b)] [2, 3, 4, 5, 6] rfl ?_
    refine x_wid (k := cells + 40) (n := slots + 300) (by omega) (by omega) ?_
    exact K r po pn pl tx rp rl rs rm rn rz sv mm u fi t2 dm (sp_X7_mixServo_th u (xs (i + 1))) sa ln pa le sk nu h (vp_updL fo 0 (Int32.toInt64 (r.xv (Int32.toNatClampNeg (xs (i + 1)))))) e3
  · obtain ⟨e1, e3⟩ := hP.2 E cd h1 hcd
    refine x_perm (ws' := ((wOu g ao fo) ++ ((wMo g am u fi t2 dm th sa ln pa le sk nu h) ++ (wCl g ap ad r po pn pl tx rp rl rs rm rn rz sv mm)))) (List.perm_append_comm_assoc (wMo g am u fi t2 dm th sa ln pa le sk nu h) (wOu g ao fo) (wCl g ap ad r po pn pl tx rp rl rs rm rn rz sv mm)) ?_
    refine x_st (st' := [.int cd]) rfl ?_
    refine x_istore C [(5, .int cd), (4, .int (nI i)), (3, .ref ao), (2, .ref (am 0)), (1, .ref (ap 0)), (0, .ref b)] rfl (by decide) dL_law_1308 ?_
    refine x_aload_n C 3 rfl rfl dL_law_1310 ?_
    refine x_aload_n C 5 rfl rfl dL_law_1311 ?_
    refine x_iload C 1 rfl dL_law_1312 ?_
    refine x_iconst C 1 (by decide) dL_law_1314 ?_
    refine x_iaddN C i 1 rfl rfl dL_law_1315 ?_
    refine x_sld C (i + 1) hX hbl hbA rfl (by omega) (by omega) dL_law_1316 ?_
    refine x_FV (w1 := (wOu g ao fo)) (wc := (wMo g am u fi t2 dm th sa ln pa le sk nu h)) (w2 := (wCl g ap ad r po pn pl tx rp rl rs rm rn rz sv mm)) [.int (xs (i + 1))] [] ((wOu g ao fo) ++ ((wMo g am u fi t2 dm (sp_X7_mixServo_th u (xs (i + 1))) sa ln pa le sk nu h) ++ (wCl g ap ad r po pn pl tx rp rl rs rm rn rz sv mm))) C (k_X7_mixServo l g am u fi t2 dm th sa ln pa le sk nu h (xs (i + 1)) H.hs H.hs6 H.hm) rfl yV_X7_mixServo wML_L_223 rfl 1 rfl rfl rfl rfl (nle rfl) (nle rfl) (nle rfl) (rmc hcC (by omega)) (rmc hsC (by omega)) dL_law_1317 ?_
    refine x_istore C [(6, .int (sp_X7_mixServo u (xs (i + 1)))), (5, .int cd), (4, .int (nI i)), (3, .ref ao), (2, .ref (am 0)), (1, .ref (ap 0)), (0, .ref b)] rfl (by decide) dL_law_1320 ?_
    refine x_aload_n C 4 rfl rfl dL_law_1322 ?_
    refine x_FV (w1 := (wOu g ao fo)) (wc := (wMo g am u fi t2 dm (sp_X7_mixServo_th u (xs (i + 1))) sa ln pa le sk nu h)) (w2 := (wCl g ap ad r po pn pl tx rp rl rs rm rn rz sv mm)) [] [] ((wOu g ao fo) ++ ((wMo g am u fi t2 dm (sp_X7_mixServo_th u (xs (i + 1))) sa ln pa le sk nu h) ++ (wCl g ap ad r po pn pl tx rp rl rs rm rn rz sv mm))) C (k_X7_thrown l g am u fi t2 dm (sp_X7_mixServo_th u (xs (i + 1))) sa ln pa le sk nu h) rfl yV_X7_thrown wML_L_154 rfl 1 rfl rfl rfl rfl (nle rfl) (nle rfl) (nle rfl) (rmc hcC (by omega)) (rmc hsC (by omega)) dL_law_1323 ?_
    refine x_iload C 1 rfl dL_law_1326 ?_
    refine x_icmp_eq C 1333 (by decide) dL_law_1328 (fun _ => ?_) (fun hz => absurd e1 hz)
    refine x_iload C 1 rfl dL_law_1333 ?_
    refine x_if_ne C 1350 (by decide) dL_law_1335 (fun _ => ?_) (fun hz => absurd hz (cd0 hcd))
    refine x_goto C 3131 (by decide) dL_law_1350 ?_
    refine x_lv [(4, .int (nI i)), (3, .ref ao), (2, .ref (am 0)), (1, .ref (ap 0)), (0, .ref b)] [2, 3, 4, 5, 6] rfl ?_
    refine x_wid (k := cells + 40) (n := slots + 300) (by omega) (by omega) ?_
    exact K r po pn pl tx rp rl rs rm rn rz sv mm u fi t2 dm (sp_X7_mixServo_th u (xs (i + 1))) sa ln pa le sk nu h fo e3
set_option maxRecDepth 100000 in
set_option maxHeartbeats 2000000 in
theorem c_20 {p : Program} {l : Launch} {e : Env} {s : State} {m : MethodId} {args : Array Value} {below : List Frame} {meth : Method} {c : Code} {cells slots : Nat} {Q : State → Prop} {nm : String} {g : xGt} {A : Nat → Prop} {b L i : Nat} {xs : Nat → Int32} {ap ad am : Nat → Nat} {ao : Nat} {r : xR} {po : Int32} {pn : Int32} {pl : Int32} {tx : Nat → Int32} {rp : Int32} {rl : Int32} {rs : Int32} {rm : Int32} {rn : Int32} {rz : Int32} {sv : xPl} {mm : xPl} {u : Nat → Int32} {fi : Nat → Int32} {t2 : Nat → Int32} {dm : Nat → Int32} {th : Int32} {sa : Int32} {ln : Int32} {pa : Int32} {le : Int32} {sk : Int32} {nu : Int32} {h : Int64} {fo : Nat → Int64} (C : xC p l s m args meth c cL_law 9 RL nm g.1 (xT g) A) (hX : va_X b L xs s s.heap) (hbl : b < s.heap.size) (hbA : ¬ A b) (hi : i + 6 ≤ L) (hL : L ≤ 3072) (hcC : cells + 40 ≤ room_1.cells) (hsC : slots + 300 ≤ room_1.slots) (H : RI r po pn pl tx sv mm u fi t2 sa ln) (K : LK p l e s m args below meth c g A ap ad am ao b i (cells + 40) (slots + 300) Q) : xW p l e room_1 s m args below meth c g.1 A 9 cells slots Q (wLaw g ap ad am ao r po pn pl tx rp rl rs rm rn rz sv mm u fi t2 dm th sa ln pa le sk nu h fo) [(4, .int (nI i)), (3, .ref ao), (2, .ref (am 0)), (1, .ref (ap 0)), (0, .ref b)] 1353 [] := by
  refine x_ws (ws' := ((wOu g ao fo) ++ ((wMo g am u fi t2 dm th sa ln pa le sk nu h) ++ (wCl g ap ad r po pn pl tx rp rl rs rm rn rz sv mm)))) rfl ?_
  refine x_aload_n C 3 rfl rfl dL_law_1353 ?_
  refine x_aload_n C 4 rfl rfl dL_law_1354 ?_
  refine x_iload C 0 rfl dL_law_1355 ?_
  refine x_iconst C 1 (by decide) dL_law_1357 ?_
  refine x_iaddN C i 1 rfl rfl dL_law_1358 ?_
  refine x_sld C (i + 1) hX hbl hbA rfl (by omega) (by omega) dL_law_1359 ?_
  refine x_aload_n C 1 rfl rfl dL_law_1360 ?_
  refine x_callL (X := (wOu g ao fo)) (Y := (wMo g am u fi t2 dm th sa ln pa le sk nu h)) (Z := (wCl g ap ad r po pn pl tx rp rl rs rm rn rz sv mm)) [.ref (ap 0), .int (xs (i + 1)), .ref ao] [] C (k_L_mixValue l g ao fo ap ad r po pn pl tx rp rl rs rm rn rz sv mm (xs (i + 1)) H.clo) yH_L_mixValue wML_L_224 rfl rfl rfl (nle rfl) (nle rfl) (nle rfl) (rmc hcC (by omega)) (rmc hsC (by omega)) dL_law_1361 (fun r0 w0 h0 => ?_)
  have hP := P_mixValue r po pn pl tx rp rl rs rm rn rz sv mm u fi t2 dm th sa ln pa le sk nu h (xs (i + 1)) H
  rcases h0 with ⟨h1, rfl, w8, hw, rfl⟩ | ⟨E, cd, h1, hcd, rfl, rfl⟩
  · obtain rfl := hw
    obtain ⟨e1, e2, e3⟩ := hP.1 h1
    refine x_perm (ws' := ((wOu g ao (vp_updL fo 0 (Int32.toInt64 (sp_X6_mixValue r (xs (i + 1)))))) ++ ((wMo g am u fi t2 dm th sa ln pa le sk nu h) ++ (wCl g ap ad (r.set_dq (sp_cdm r.kp r.ke r.kr r.kt r.kh r.kc r.xn r.xs r.xv r.xh r.xo r.xc r.dq 6)) po pn pl tx rp rl rs rm rn rz sv mm)))) (List.perm_append_comm_assoc (wMo g am u fi t2 dm th sa ln pa le sk nu h) (wOu g ao (vp_updL fo 0 (Int32.toInt64 (sp_X6_mixValue r (xs (i + 1)))))) (wCl g ap ad (r.set_dq (sp_cdm r.kp r.ke r.kr r.kt r.kh r.kc r.xn r.xs r.xv r.xh r.xo r.xc r.dq 6)) po pn pl tx rp rl rs rm rn rz sv mm)) ?_
    refine x_st (st' := [.int 0]) rfl ?_
    refine x_istore C [(5, .int 0), (4, .int (nI i)), (3, .ref ao), (2, .ref (am 0)), (1, .ref (ap 0)), (0, .ref b)] rfl (by decide) dL_law_1364 ?_
    refine x_aload_n C 3 rfl rfl dL_law_1366 ?_
    refine x_aload_n C 5 rfl rfl dL_law_1367 ?_
    refine x_iload C 1 rfl dL_law_1368 ?_
    refine x_iconst C 1 (by decide) dL_law_1370 ?_
    refine x_iaddN C i 1 rfl rfl dL_law_1371 ?_
    refine x_sld C (i + 1) hX hbl hbA rfl (by omega) (by omega) dL_law_1372 ?_
    refine x_FV (w1 := (wOu g ao (vp_updL fo 0 (Int32.toInt64 (sp_X6_mixValue r (xs (i + 1))))))) (wc := (wMo g am u fi t2 dm th sa ln pa le sk nu h)) (w2 := (wCl g ap ad (r.set_dq (sp_cdm r.kp r.ke r.kr r.kt r.kh r.kc r.xn r.xs r.xv r.xh r.xo r.xc r.dq 6)) po pn pl tx rp rl rs rm rn rz sv mm)) [.int (xs (i + 1))] [] ((wOu g ao (vp_updL fo 0 (Int32.toInt64 (sp_X6_mixValue r (xs (i + 1)))))) ++ ((wMo g am u fi t2 (sp_X7_mixValue_dm u dm (xs (i + 1))) (sp_X7_mixValue_th u (xs (i + 1))) sa ln pa le sk nu h) ++ (wCl g ap ad (r.set_dq (sp_cdm r.kp r.ke r.kr r.kt r.kh r.kc r.xn r.xs r.xv r.xh r.xo r.xc r.dq 6)) po pn pl tx rp rl rs rm rn rz sv mm))) C (k_X7_mixValue l g am u fi t2 dm th sa ln pa le sk nu h (xs (i + 1)) H.hs H.hs6 H.hm) rfl yV_X7_mixValue wML_L_226 rfl 1 rfl rfl rfl rfl (nle rfl) (nle rfl) (nle rfl) (rmc hcC (by omega)) (rmc hsC (by omega)) dL_law_1373 ?_
    refine x_istore C [(6, .int (sp_X7_mixValue u dm (xs (i + 1)))), (5, .int 0), (4, .int (nI i)), (3, .ref ao), (2, .ref (am 0)), (1, .ref (ap 0)), (0, .ref b)] rfl (by decide) dL_law_1376 ?_
    refine x_aload_n C 4 rfl rfl dL_law_1378 ?_
    refine x_FV (w1 := (wOu g ao (vp_updL fo 0 (Int32.toInt64 (sp_X6_mixValue r (xs (i + 1))))))) (wc := (wMo g am u fi t2 (sp_X7_mixValue_dm u dm (xs (i + 1))) (sp_X7_mixValue_th u (xs (i + 1))) sa ln pa le sk nu h)) (w2 := (wCl g ap ad (r.set_dq (sp_cdm r.kp r.ke r.kr r.kt r.kh r.kc r.xn r.xs r.xv r.xh r.xo r.xc r.dq 6)) po pn pl tx rp rl rs rm rn rz sv mm)) [] [] ((wOu g ao (vp_updL fo 0 (Int32.toInt64 (sp_X6_mixValue r (xs (i + 1)))))) ++ ((wMo g am u fi t2 (sp_X7_mixValue_dm u dm (xs (i + 1))) (sp_X7_mixValue_th u (xs (i + 1))) sa ln pa le sk nu h) ++ (wCl g ap ad (r.set_dq (sp_cdm r.kp r.ke r.kr r.kt r.kh r.kc r.xn r.xs r.xv r.xh r.xo r.xc r.dq 6)) po pn pl tx rp rl rs rm rn rz sv mm))) C (k_X7_thrown l g am u fi t2 (sp_X7_mixValue_dm u dm (xs (i + 1))) (sp_X7_mixValue_th u (xs (i + 1))) sa ln pa le sk nu h) rfl yV_X7_thrown wML_L_154 rfl 1 rfl rfl rfl rfl (nle rfl) (nle rfl) (nle rfl) (rmc hcC (by omega)) (rmc hsC (by omega)) dL_law_1379 ?_
    refine x_iload C 1 rfl dL_law_1382 ?_
    refine x_icmp_eq C 1389 (by decide) dL_law_1384 (fun _ => ?_) (fun hz => absurd e1 hz)
    refine x_iload C 1 rfl dL_law_1389 ?_
    refine x_if_ne C 1406 (by decide) dL_law_1391 (fun hz => absurd (by decide) hz) (fun _ => ?_)
    refine x_aload_n C 3 rfl rfl dL_law_1394 ?_
    refine x_iconst C 0 (by decide) dL_law_1395 ?_
    refine x_lald (f := (vp_updL fo 0 (Int32.toInt64 (sp_X6_mixValue r (xs (i + 1)))))) C 0 3 rfl rfl in1 dL_law_1396 ?_
    refine x_st (st' := [.long (Int32.toInt64 (sp_X6_mixValue r (xs (i + 1))))]) rfl ?_
    refine x_iload C 0 rfl dL_law_1397 ?_
    refine x_i2l C dL_law_1399 ?_
    refine x_lcmp C dL_law_1400 ?_
    refine x_if_eq C 1406 (by decide) dL_law_1401 (fun _ => ?_) (fun hz => absurd (lgz (congrArg Int32.toInt64 e2)) hz)
    refine x_goto C 3131 (by decide) dL_law_1406 ?_
    refine x_lv [(4, .int (nI i)), (3, .ref ao), (2, .ref (am 0)), (1, .ref (ap 0)), (0, .ref b)] [2, 3, 4, 5, 6] rfl ?_
    refine x_wid (k := cells + 40) (n := slots + 300) (by omega) (by omega) ?_
    exact K (r.set_dq (sp_cdm r.kp r.ke r.kr r.kt r.kh r.kc r.xn r.xs r.xv r.xh r.xo r.xc r.dq 6)) po pn pl tx rp rl rs rm rn rz sv mm u fi t2 (sp_X7_mixValue_dm u dm (xs (i + 1))) (sp_X7_mixValue_th u (xs (i + 1))) sa ln pa le sk nu h (vp_updL fo 0 (Int32.toInt64 (sp_X6_mixValue r (xs (i + 1))))) e3
  · obtain ⟨e1, e3⟩ := hP.2 E cd h1 hcd
    refine x_perm (ws' := ((wOu g ao fo) ++ ((wMo g am u fi t2 dm th sa ln pa le sk nu h) ++ (wCl g ap ad r po pn pl tx rp rl rs rm rn rz sv mm)))) (List.perm_append_comm_assoc (wMo g am u fi t2 dm th sa ln pa le sk nu h) (wOu g ao fo) (wCl g ap ad r po pn pl tx rp rl rs rm rn rz sv mm)) ?_
    refine x_st (st' := [.int cd]) rfl ?_
    refine x_istore C [(5, .int cd), (4, .int (nI i)), (3, .ref ao), (2, .ref (am 0)), (1, .ref (ap 0)), (0, .ref b)] rfl (by decide) dL_law_1364 ?_
    refine x_aload_n C 3 rfl rfl dL_law_1366 ?_
    refine x_aload_n C 5 rfl rfl dL_law_1367 ?_
    refine x_iload C 1 rfl dL_law_1368 ?_
    refine x_iconst C 1 (by decide) dL_law_1370 ?_
    refine x_iaddN C i 1 rfl rfl dL_law_1371 ?_
    refine x_sld C (i + 1) hX hbl hbA rfl (by omega) (by omega) dL_law_1372 ?_
    refine x_FV (w1 := (wOu g ao fo)) (wc := (wMo g am u fi t2 dm th sa ln pa le sk nu h)) (w2 := (wCl g ap ad r po pn pl tx rp rl rs rm rn rz sv mm)) [.int (xs (i + 1))] [] ((wOu g ao fo) ++ ((wMo g am u fi t2 (sp_X7_mixValue_dm u dm (xs (i + 1))) (sp_X7_mixValue_th u (xs (i + 1))) sa ln pa le sk nu h) ++ (wCl g ap ad r po pn pl tx rp rl rs rm rn rz sv mm))) C (k_X7_mixValue l g am u fi t2 dm th sa ln pa le sk nu h (xs (i + 1)) H.hs H.hs6 H.hm) rfl yV_X7_mixValue wML_L_226 rfl 1 rfl rfl rfl rfl (nle rfl) (nle rfl) (nle rfl) (rmc hcC (by omega)) (rmc hsC (by omega)) dL_law_1373 ?_
    refine x_istore C [(6, .int (sp_X7_mixValue u dm (xs (i + 1)))), (5, .int cd), (4, .int (nI i)), (3, .ref ao), (2, .ref (am 0)), (1, .ref (ap 0)), (0, .ref b)] rfl (by decide) dL_law_1376 ?_
    refine x_aload_n C 4 rfl rfl dL_law_1378 ?_
    refine x_FV (w1 := (wOu g ao fo)) (wc := (wMo g am u fi t2 (sp_X7_mixValue_dm u dm (xs (i + 1))) (sp_X7_mixValue_th u (xs (i + 1))) sa ln pa le sk nu h)) (w2 := (wCl g ap ad r po pn pl tx rp rl rs rm rn rz sv mm)) [] [] ((wOu g ao fo) ++ ((wMo g am u fi t2 (sp_X7_mixValue_dm u dm (xs (i + 1))) (sp_X7_mixValue_th u (xs (i + 1))) sa ln pa le sk nu h) ++ (wCl g ap ad r po pn pl tx rp rl rs rm rn rz sv mm))) C (k_X7_thrown l g am u fi t2 (sp_X7_mixValue_dm u dm (xs (i + 1))) (sp_X7_mixValue_th u (xs (i + 1))) sa ln pa le sk nu h) rfl yV_X7_thrown wML_L_154 rfl 1 rfl rfl rfl rfl (nle rfl) (nle rfl) (nle rfl) (rmc hcC (by omega)) (rmc hsC (by omega)) dL_law_1379 ?_
    refine x_iload C 1 rfl dL_law_1382 ?_
    refine x_icmp_eq C 1389 (by decide) dL_law_1384 (fun _ => ?_) (fun hz => absurd e1 hz)
    refine x_iload C 1 rfl dL_law_1389 ?_
    refine x_if_ne C 1406 (by decide) dL_law_1391 (fun _ => ?_) (fun hz => absurd hz (cd0 hcd))
    refine x_goto C 3131 (by decide) dL_law_1406 ?_
    refine x_lv [(4, .int (nI i)), (3, .ref ao), (2, .ref (am 0)), (1, .ref (ap 0)), (0, .ref b)] [2, 3, 4, 5, 6] rfl ?_
    refine x_wid (k := cells + 40) (n := slots + 300) (by omega) (by omega) ?_
    exact K r po pn pl tx rp rl rs rm rn rz sv mm u fi t2 (sp_X7_mixValue_dm u dm (xs (i + 1))) (sp_X7_mixValue_th u (xs (i + 1))) sa ln pa le sk nu h fo e3
