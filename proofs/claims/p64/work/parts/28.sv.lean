section Y8
variable {p : Program} {l : Launch} {e : Env} {R : Room} {s : State} {m : MethodId} {args : Array Value} {below : List Frame} {meth : Method} {c : Code} {cells slots : Nat} {Q : State → Prop} {cc : ByteArray} {pc nL : Nat} {own nm : String} {D : va_G} {tys : List (ClassId × FieldType)} {A : Nat → Prop} {ws : va_W} {lv : List (Nat × Value)} {st : List Value}
theorem hw0 (wc : va_W) (h : ws = wc) : ws = [] ++ (wc ++ []) := by rw [List.append_nil]; exact h
theorem x_EV0 {y : MethodName} {bytes : ByteArray} {maxL n idx fr lo mc ms : Nat} {b ci N : Nat} {T : u_T} {fs : List Value} {ret : Option FieldType} {wc : va_W} {post : Option Value → va_W → Prop} {px : String → va_W → Prop} (As rest : List Value) (C : xC p l s m args meth c cc nL own nm D tys A) (hM : xM l D tys y (ws_ y bytes maxL ret) (xRm fr lo mc ms) mc ms (.ref b :: As) wc post px) (hws : ws = wc) (hy : xYV y bytes maxL ret n) (hl : Cond.methodLink own idx y ∈ xAll) (q0 : Nat) (hq : ws[q0]? = some (b, .inr (ci, fs))) (hcl : vwCl[ci]? = some (y.cls, T, N)) (hn : As.length = n) (hst : st = As.reverse ++ (.ref b :: rest)) (hW : (rest.map fun v => v.category).sum ≤ 8) (hf1 : fr + 1 ≤ R.frames) (hf2 : 8 + (maxL + 11) + lo ≤ R.locals) (hc : cells + mc ≤ R.cells) (hs : slots + ms ≤ R.slots) (hd : decode cc pc = .ok (.invokevirtual idx, 3)) (Kx : ∀ (E : String) (w : va_W), px E w → xX p l e R s m args below meth c D A nL (cells + mc) (slots + ms) Q w lv pc E) (Kr : ∀ (r : Option Value) (w : va_W), post r w → xW p l e R s m args below meth c D A nL (cells + mc) (slots + ms) Q w lv (pc + 3) (r.toList ++ rest)) : xW p l e R s m args below meth c D A nL cells slots Q ws lv pc st :=
  x_callV (w1 := []) (w2 := []) As rest C hM hy hl (hw0 wc hws) q0 hq hcl hn hst hW hf1 hf2 hc hs hd (fun E w h => by rw [List.append_nil]; exact Kx E w h) (fun r w h => by rw [List.append_nil]; exact Kr r w h)
theorem x_FV0 {y : MethodName} {bytes : ByteArray} {maxL n idx fr lo mc ms : Nat} {b ci N : Nat} {T : u_T} {fs : List Value} {ret : Option FieldType} {v : Value} {wc wc' : va_W} (As rest : List Value) (ws' : va_W) (C : xC p l s m args meth c cc nL own nm D tys A) (hM : xM l D tys y (ws_ y bytes maxL ret) (xRm fr lo mc ms) mc ms (.ref b :: As) wc (fun r w => r = some v ∧ w = wc') (fun _ _ => False)) (hws : ws = wc) (hy : xYV y bytes maxL ret n) (hl : Cond.methodLink own idx y ∈ xAll) (hws' : wc' = ws') (q0 : Nat) (hq : ws[q0]? = some (b, .inr (ci, fs))) (hcl : vwCl[ci]? = some (y.cls, T, N)) (hn : As.length = n) (hst : st = As.reverse ++ (.ref b :: rest)) (hW : (rest.map fun v => v.category).sum ≤ 8) (hf1 : fr + 1 ≤ R.frames) (hf2 : 8 + (maxL + 11) + lo ≤ R.locals) (hc : cells + mc ≤ R.cells) (hs : slots + ms ≤ R.slots) (hd : decode cc pc = .ok (.invokevirtual idx, 3)) (K : xW p l e R s m args below meth c D A nL (cells + mc) (slots + ms) Q ws' lv (pc + 3) (v :: rest)) : xW p l e R s m args below meth c D A nL cells slots Q ws lv pc st := by
  refine x_EV0 As rest C hM hws hy hl q0 hq hcl hn hst hW hf1 hf2 hc hs hd (fun E w h => h.elim) (fun r w h => ?_)
  obtain ⟨rfl, rfl⟩ := h
  rw [hws']
  exact K
theorem x_GV0 {y : MethodName} {bytes : ByteArray} {maxL n idx fr lo mc ms : Nat} {b ci N : Nat} {T : u_T} {fs : List Value} {ret : Option FieldType} {wc wc' : va_W} (As rest : List Value) (ws' : va_W) (C : xC p l s m args meth c cc nL own nm D tys A) (hM : xM l D tys y (ws_ y bytes maxL ret) (xRm fr lo mc ms) mc ms (.ref b :: As) wc (fun r w => r = none ∧ w = wc') (fun _ _ => False)) (hws : ws = wc) (hy : xYV y bytes maxL ret n) (hl : Cond.methodLink own idx y ∈ xAll) (hws' : wc' = ws') (q0 : Nat) (hq : ws[q0]? = some (b, .inr (ci, fs))) (hcl : vwCl[ci]? = some (y.cls, T, N)) (hn : As.length = n) (hst : st = As.reverse ++ (.ref b :: rest)) (hW : (rest.map fun v => v.category).sum ≤ 8) (hf1 : fr + 1 ≤ R.frames) (hf2 : 8 + (maxL + 11) + lo ≤ R.locals) (hc : cells + mc ≤ R.cells) (hs : slots + ms ≤ R.slots) (hd : decode cc pc = .ok (.invokevirtual idx, 3)) (K : xW p l e R s m args below meth c D A nL (cells + mc) (slots + ms) Q ws' lv (pc + 3) rest) : xW p l e R s m args below meth c D A nL cells slots Q ws lv pc st := by
  refine x_EV0 As rest C hM hws hy hl q0 hq hcl hn hst hW hf1 hf2 hc hs hd (fun E w h => h.elim) (fun r w h => ?_)
  obtain ⟨rfl, rfl⟩ := h
  rw [hws']
  exact K
theorem x_RV0 {y : MethodName} {bytes : ByteArray} {maxL n idx fr lo mc ms : Nat} {b ci N : Nat} {T : u_T} {fs : List Value} {ret : Option FieldType} {wc : va_W} {OK : Prop} {X : String} (As rest : List Value) (C : xC p l s m args meth c cc nL own nm D tys A) (hM : xM l D tys y (ws_ y bytes maxL ret) (xRm fr lo mc ms) mc ms (.ref b :: As) wc (fun r w => (r = none ∧ w = wc) ∧ OK) (fun E w => (E = X ∧ w = wc) ∧ ¬ OK)) (hws : ws = wc) (hy : xYV y bytes maxL ret n) (hl : Cond.methodLink own idx y ∈ xAll) (q0 : Nat) (hq : ws[q0]? = some (b, .inr (ci, fs))) (hcl : vwCl[ci]? = some (y.cls, T, N)) (hn : As.length = n) (hst : st = As.reverse ++ (.ref b :: rest)) (hW : (rest.map fun v => v.category).sum ≤ 8) (hf1 : fr + 1 ≤ R.frames) (hf2 : 8 + (maxL + 11) + lo ≤ R.locals) (hc : cells + mc ≤ R.cells) (hs : slots + ms ≤ R.slots) (hd : decode cc pc = .ok (.invokevirtual idx, 3)) (Kx : ¬ OK → xX p l e R s m args below meth c D A nL (cells + mc) (slots + ms) Q ws lv pc X) (K : OK → xW p l e R s m args below meth c D A nL (cells + mc) (slots + ms) Q ws lv (pc + 3) rest) : xW p l e R s m args below meth c D A nL cells slots Q ws lv pc st := by
  refine x_EV0 As rest C hM hws hy hl q0 hq hcl hn hst hW hf1 hf2 hc hs hd (fun E w h => ?_) (fun r w h => ?_)
  · obtain ⟨⟨rfl, rfl⟩, h⟩ := h
    rw [← hws]
    exact Kx h
  · obtain ⟨⟨rfl, rfl⟩, h⟩ := h
    rw [← hws]
    exact K h
theorem x_GV2s {y : MethodName} {bytes : ByteArray} {maxL n idx fr lo mc ms : Nat} {b ci N : Nat} {T : u_T} {fs : List Value} {ret : Option FieldType} {w0 w1 w2 X Y X' Y' : va_W} (As rest : List Value) (ws' : va_W) (C : xC p l s m args meth c cc nL own nm D tys A) (hM : xM l D tys y (ws_ y bytes maxL ret) (xRm fr lo mc ms) mc ms (.ref b :: As) (X ++ Y) (fun r w => r = none ∧ w = X' ++ Y') (fun _ _ => False)) (hws : ws = w0 ++ (Y ++ (w1 ++ (X ++ w2)))) (hy : xYV y bytes maxL ret n) (hl : Cond.methodLink own idx y ∈ xAll) (hws' : w0 ++ (Y' ++ (w1 ++ (X' ++ w2))) = ws') (hq : X[0]? = some (b, .inr (ci, fs))) (hcl : vwCl[ci]? = some (y.cls, T, N)) (hn : As.length = n) (hst : st = As.reverse ++ (.ref b :: rest)) (hW : (rest.map fun v => v.category).sum ≤ 8) (hf1 : fr + 1 ≤ R.frames) (hf2 : 8 + (maxL + 11) + lo ≤ R.locals) (hc : cells + mc ≤ R.cells) (hs : slots + ms ≤ R.slots) (hd : decode cc pc = .ok (.invokevirtual idx, 3)) (K : xW p l e R s m args below meth c D A nL (cells + mc) (slots + ms) Q ws' lv (pc + 3) rest) : xW p l e R s m args below meth c D A nL cells slots Q ws lv pc st := by
  subst hws
  have pm : ∀ X Y : va_W, (w0 ++ (Y ++ (w1 ++ (X ++ w2)))).Perm (X ++ (Y ++ (w0 ++ (w1 ++ w2)))) := fun X Y => (pm_two w0 Y w1 X w2).trans (List.perm_append_comm_assoc Y X _)
  refine x_perm (pm X Y) ?_
  have hq2 : (X ++ (Y ++ (w0 ++ (w1 ++ w2))))[0]? = some (b, .inr (ci, fs)) := by
    cases X with
    | nil => cases hq
    | cons a as => exact hq
  refine x_GV (w1 := []) (wc := X ++ Y) (w2 := w0 ++ (w1 ++ w2)) As rest (X' ++ (Y' ++ (w0 ++ (w1 ++ w2)))) C hM (List.append_assoc X Y _).symm hy hl (List.append_assoc X' Y' _) 0 hq2 hcl hn hst hW hf1 hf2 hc hs hd ?_
  refine x_perm (pm X' Y').symm ?_
  rw [hws']
  exact K
end Y8
theorem rq_nat {v lo : Int32} {P : Prop} (h : ¬ v < lo ∧ P) (hl : 0 ≤ lo) : v = nI v.toNatClampNeg := by
  have h0 : ¬ v < 0 := fun q => h.1 (Int32.lt_of_lt_of_le q hl)
  obtain ⟨j, hj, e⟩ := nI_of h0
  rw [e, nI_clamp hj]
theorem rq_lt {v b : Int32} {n : Nat} (h : ¬ v < 0 ∧ v < b) (hb : b = nI n) (hn : n < 2 ^ 31) : v.toNatClampNeg < n := by
  have e := rq_nat h (by decide)
  exact xlt_of hb e hn (Int32.toNatClampNeg_lt _) (Int32.not_le.mpr h.2)
theorem rq_le {v lo b : Int32} {n : Nat} (h : ¬ v < lo ∧ v ≤ b) (hl : 0 ≤ lo) (hb : b = nI n) (hn : n < 2 ^ 31) : v.toNatClampNeg ≤ n := by
  have e := rq_nat h hl
  exact xle_of e hb (Int32.toNatClampNeg_lt _) hn h.2
/-- what an object of ours keeps -/
def clO (r : xR) (po pn : Int32) : Prop := cOk r.kh r.xn r.xs ∧ (r.kc = 0 ∨ r.kc = 1) ∧ (r.jf = 0 ∨ r.jf = 1) ∧ (po = nI po.toNatClampNeg ∧ po.toNatClampNeg < 6) ∧ (pn = nI pn.toNatClampNeg ∧ pn.toNatClampNeg ≤ 6)
theorem rem6 : ∀ a : Nat, a < 13 → nI a - nI a / 6 * 6 = nI (a % 6) := by decide
set_option maxRecDepth 100000 in
set_option maxHeartbeats 1000000 in
theorem k_X6_savedSlot (l : Launch) (g : xGt) (ap ad : Nat → Nat) (r : xR) (po : Int32) (pn : Int32) (pl : Int32) (tx : Nat → Int32) (rp : Int32) (rl : Int32) (rs : Int32) (rm : Int32) (rn : Int32) (rz : Int32) (sv : xPl) (mm : xPl) (x_k : Int32) (k : Nat) (e_k : x_k = nI k) (hpo : po = nI (Int32.toNatClampNeg po) ∧ Int32.toNatClampNeg po < 6) (hk : k ≤ 6) : xM l g.1 (xT g) yX6_savedSlot (ws_ yX6_savedSlot cX6_savedSlot 2 (some .int)) (xRm 0 0 0 0) 0 0 [.ref (ap 0), .int x_k] (wCl g ap ad r po pn pl tx rp rl rs rm rn rz sv mm) (fun r9 w9 => r9 = some (.int (nI ((Int32.toNatClampNeg po + k) % 6))) ∧ w9 = (wCl g ap ad r po pn pl tx rp rl rs rm rn rz sv mm)) (fun _ _ => False) := by
  subst e_k
  have hpo2 := hpo.2
  refine x_start (own := RX6) (nm := "savedSlot") rfl rfl (by decide +kernel) rfl (nle rfl) (fun p e σ m args below meth c A C hno hr => ?_)
  refine x_lve (lv' := [(0, .ref (ap 0)), (1, .int (nI k))]) rfl ?_
  refine x_ws (ws' := (wPo g ap ad po pn pl ++ (wS0 g ad ++ (wSk g ad r.kp r.ke r.kr r.kt r.kh r.kc ++ (wMx g ad r.xn r.xs r.xv r.xh r.xo r.xc ++ (wSv g ad r.vd r.vn r.vl r.vu r.vs r.vm r.vp r.vt r.va r.vw ++ (wLk g ad r.jd r.jb r.jc r.js r.jl r.jx r.ji r.jf r.jn ++ (wDm g ad r.dq ++ (wPq g ap (adr sv) (adr mm) tx ++ (wRd g (ap 4) rp rl rs rm rn rz ++ (wPl g sv 6 ++ wPl g mm 2))))))))))) rfl ?_
  refine x_aload_n C 0 rfl rfl dX6_savedSlot_0 ?_
  refine x_get C 0 6 2 rfl rfl wLy_X6 wFL_X6_301 rfl (by decide) rfl dX6_savedSlot_1 ?_
  refine x_iload_n C 1 rfl rfl dX6_savedSlot_4 ?_
  refine x_iaddN C (Int32.toNatClampNeg po) k hpo.1 rfl dX6_savedSlot_5 ?_
  refine x_bipush C 6 (by decide) dX6_savedSlot_6 ?_
  refine x_irem C (by decide) dX6_savedSlot_8 ?_
  refine x_st (st' := [.int (nI ((Int32.toNatClampNeg po + k) % 6))]) (by rw [rem6 _ (by omega)]) ?_
  exact x_iret C hr (nle rfl) (nle rfl) dX6_savedSlot_9 ⟨rfl, rfl⟩
/-- the rows of a fresh state -/
def r00 : xR := xRk (fun _ => (0 : Int32)) (fun _ => (0 : Int32)) (sp_fil 100 (fun _ => (0 : Int32)) (8 + 0)) (fun _ => (0 : Int32)) 1 0 4 (upd (upd (upd (upd (fun _ => (0 : Int32)) 0 0) 1 1) 2 2) 3 3) (upd (upd (upd (upd (fun _ => (0 : Int32)) 0 0) 1 1) 2 2) 3 3) (upd (upd (upd (upd (fun _ => (0 : Int32)) 0 100) 1 100) 2 100) 3 100) (upd (upd (upd (upd (fun _ => (0 : Int32)) 0 0) 1 0) 2 0) 3 0) (upd (upd (upd (upd (fun _ => (0 : Int32)) 0 0) 1 0) 2 0) 3 0) (sp_fil 1 (fun _ => (0 : Int32)) (6 + 0)) (fun _ => (0 : Int32)) (sp_fil (-100) (fun _ => (0 : Int32)) (6 + 0)) (sp_fil 100 (fun _ => (0 : Int32)) (6 + 0)) (sp_fil 300 (fun _ => (0 : Int32)) (6 + 0)) (fun _ => (0 : Int32)) (fun _ => (0 : Int32)) (fun _ => (0 : Int32)) (fun _ => (0 : Int32)) (fun _ => (0 : Int32)) 5 20000 0 0 0 0 0 0 0 (fun _ => (0 : Int32))
/-- o with the rows of r copied over it -/
def cpR (r o : xR) : xR := xRk (sp_cpr r.kp o.kp (4 + 0)) (sp_cpr r.ke o.ke (4 + 0)) (sp_cpr r.kr o.kr (8 + 0)) (sp_cpr r.kt o.kt (8 + 0)) r.kh r.kc r.xn (sp_cpr r.xs o.xs (12 + 0)) (sp_cpr r.xv o.xv (12 + 0)) (sp_cpr r.xh o.xh (12 + 0)) (sp_cpr r.xo o.xo (12 + 0)) (sp_cpr r.xc o.xc (12 + 0)) (sp_cpr r.vd o.vd (6 + 0)) (sp_cpr r.vn o.vn (6 + 0)) (sp_cpr r.vl o.vl (6 + 0)) (sp_cpr r.vu o.vu (6 + 0)) (sp_cpr r.vs o.vs (6 + 0)) (sp_cpr r.vm o.vm (6 + 0)) (sp_cpr r.vp o.vp (6 + 0)) (sp_cpr r.vt o.vt (6 + 0)) (sp_cpr r.va o.va (6 + 0)) (sp_cpr r.vw o.vw (6 + 0)) r.jd r.jb r.jc r.js r.jl r.jx r.ji r.jf r.jn o.dq
theorem k_X4_copyR (l : Launch) (g : xGt) (a1 ad : Nat → Nat) (r r1 : xR) (z1 : r.kh = 0 ∨ r.kh = 1) (z2 : r.kc = 0 ∨ r.kc = 1) (z3 : r.jf = 0 ∨ r.jf = 1) : xM l g.1 (xT g) yX4_copyFrom (ws_ yX4_copyFrom cX4_copyFrom 2 none) (xRm 2 43 0 0) 0 0 [.ref (a1 0), .ref (ad 0)] (wSt g a1 r1 ++ wSt g ad r) (fun r9 w9 => r9 = none ∧ w9 = wSt g a1 (cpR r r1) ++ wSt g ad r) (fun _ _ => False) :=
  k_X4_copyFrom l g a1 ad r1.kp r1.ke r1.kr r1.kt r1.kh r1.kc r1.xn r1.xs r1.xv r1.xh r1.xo r1.xc r1.vd r1.vn r1.vl r1.vu r1.vs r1.vm r1.vp r1.vt r1.va r1.vw r1.jd r1.jb r1.jc r1.js r1.jl r1.jx r1.ji r1.jf r1.jn r1.dq r.kp r.ke r.kr r.kt r.kh r.kc r.xn r.xs r.xv r.xh r.xo r.xc r.vd r.vn r.vl r.vu r.vs r.vm r.vp r.vt r.va r.vw r.jd r.jb r.jc r.js r.jl r.jx r.ji r.jf r.jn r.dq z1 z2 z3
def slK (po pn : Int32) : Nat := ((if pn = 6 then nI ((Int32.toNatClampNeg po + 1) % 6) else po : Int32).toNatClampNeg + (if pn = 6 then pn - 1 else pn : Int32).toNatClampNeg) % 6
def svS (sv : xPl) (adn : Nat → Nat) (r : xR) (po pn : Int32) : xPl := upP sv (slK po pn) (some (match sv (slK po pn) with | some x => (x.1, cpR r x.2) | none => (adn, cpR r r00)))
theorem in6 {k : Nat} (h : k < 6) : vp_in (nI k) 6 := vp_in_nI h (by decide)
theorem adr_put {sv : xPl} {k : Nat} {a : Nat → Nat} {r1 v : xR} (h : sv k = some (a, r1)) : adr sv = adr (upP sv k (some (a, v))) := by
  rw [adr_upP]
  funext j
  by_cases c : j = k
  · rw [if_pos c, c]
    unfold adr
    rw [h]
    rfl
  · rw [if_neg c]
theorem pm_in (B T S : va_W) : ((B ++ T) ++ (S ++ [])).Perm (B ++ (S ++ T)) := by
  rw [List.append_nil, List.append_assoc]
  exact List.Perm.append_left B List.perm_append_comm
theorem pm_pl (B : va_W) {P P1 P2 M : va_W} (h : P.Perm (P1 ++ P2)) : (B ++ (P ++ M)).Perm (B ++ (P1 ++ (P2 ++ M))) := by
  refine List.Perm.append_left B ?_
  rw [← List.append_assoc]
  exact List.Perm.append_right M h
def sp_spo2 (po : Int32) (pn : Int32) : Int32 := (if pn = 6 then (nI ((Int32.toNatClampNeg po + 1) % 6)) else po)
def sp_spn1 (pn : Int32) : Int32 := (if pn = 6 then (pn - 1) else pn)
theorem sp_spo_ok {po : Int32} (pn : Int32) (h : po = nI po.toNatClampNeg ∧ po.toNatClampNeg < 6) : sp_spo2 po pn = nI (sp_spo2 po pn).toNatClampNeg ∧ (sp_spo2 po pn).toNatClampNeg < 6 := by
  unfold sp_spo2
  split
  · have h6 : (po.toNatClampNeg + 1) % 6 < 6 := Nat.mod_lt _ (by decide)
    rw [nI_clamp (Nat.lt_trans h6 (by decide))]
    exact ⟨rfl, h6⟩
  · exact h
theorem sp_spn_ok {pn : Int32} (h : pn = nI pn.toNatClampNeg ∧ pn.toNatClampNeg ≤ 6) : sp_spn1 pn = nI (sp_spn1 pn).toNatClampNeg ∧ (sp_spn1 pn).toNatClampNeg ≤ 5 := by
  unfold sp_spn1
  split
  · rename_i c
    subst c
    decide
  · rename_i c
    refine ⟨h.1, ?_⟩
    by_cases c6 : pn.toNatClampNeg = 6
    · exact absurd (by rw [h.1, c6]; rfl) c
    · have := h.2; omega
def sp_spn2 (pn : Int32) : Int32 := sp_spn1 pn + 1
set_option maxRecDepth 100000 in
set_option maxHeartbeats 1000000 in
theorem k_X6_saveState (l : Launch) (g : xGt) (ap ad : Nat → Nat) (r : xR) (po : Int32) (pn : Int32) (pl : Int32) (tx : Nat → Int32) (rp : Int32) (rl : Int32) (rs : Int32) (rm : Int32) (rn : Int32) (rz : Int32) (sv : xPl) (mm : xPl) (hc : clO r po pn) : xM l g.1 (xT g) yX6_saveState (ws_ yX6_saveState cX6_saveState 2 none) (xRm 3 66 25 186) 25 186 [.ref (ap 0)] (wCl g ap ad r po pn pl tx rp rl rs rm rn rz sv mm) (fun r9 w9 => r9 = none ∧ ∃ adn : Nat → Nat, w9 = (wCl g ap ad r (sp_spo2 po pn) (sp_spn2 pn) pl tx rp rl rs rm rn rz (svS sv adn r po pn) mm)) (fun _ _ => False) := by
  refine x_start (own := RX6) (nm := "saveState") rfl rfl (by decide +kernel) rfl (nle rfl) (fun p e σ m args below meth c A C hno hr => ?_)
  refine x_lve (lv' := [(0, .ref (ap 0))]) rfl ?_
  refine x_ws (ws' := (wPo g ap ad po pn pl ++ (wS0 g ad ++ (wSk g ad r.kp r.ke r.kr r.kt r.kh r.kc ++ (wMx g ad r.xn r.xs r.xv r.xh r.xo r.xc ++ (wSv g ad r.vd r.vn r.vl r.vu r.vs r.vm r.vp r.vt r.va r.vw ++ (wLk g ad r.jd r.jb r.jc r.js r.jl r.jx r.ji r.jf r.jn ++ (wDm g ad r.dq ++ (wPq g ap (adr sv) (adr mm) tx ++ (wRd g (ap 4) rp rl rs rm rn rz ++ (wPl g sv 6 ++ wPl g mm 2))))))))))) rfl ?_
  refine x_aload_n C 0 rfl rfl dX6_saveState_0 ?_
  refine x_get C 0 6 3 rfl rfl wLy_X6 wFL_X6_259 rfl (by decide) rfl dX6_saveState_1 ?_
  refine x_bipush C 6 (by decide) dX6_saveState_4 ?_
  suffices K2 : xW p l e _ σ m args below meth c g.1 A 2 0 0 _ (wPo g ap ad (if pn = 6 then (nI ((Int32.toNatClampNeg po + 1) % 6)) else po) (if pn = 6 then (pn - 1) else pn) pl ++ (wS0 g ad ++ (wSk g ad r.kp r.ke r.kr r.kt r.kh r.kc ++ (wMx g ad r.xn r.xs r.xv r.xh r.xo r.xc ++ (wSv g ad r.vd r.vn r.vl r.vu r.vs r.vm r.vp r.vt r.va r.vw ++ (wLk g ad r.jd r.jb r.jc r.js r.jl r.jx r.ji r.jf r.jn ++ (wDm g ad r.dq ++ (wPq g ap (adr sv) (adr mm) tx ++ (wRd g (ap 4) rp rl rs rm rn rz ++ (wPl g sv 6 ++ wPl g mm 2)))))))))) [(0, .ref (ap 0))] 28 [] by
    refine x_icmp_ne C 28 (by decide) dX6_saveState_6 (fun h1 => ?_) (fun h1 => ?_)
    · refine x_ws (ws' := (wPo g ap ad (if pn = 6 then (nI ((Int32.toNatClampNeg po + 1) % 6)) else po) (if pn = 6 then (pn - 1) else pn) pl ++ (wS0 g ad ++ (wSk g ad r.kp r.ke r.kr r.kt r.kh r.kc ++ (wMx g ad r.xn r.xs r.xv r.xh r.xo r.xc ++ (wSv g ad r.vd r.vn r.vl r.vu r.vs r.vm r.vp r.vt r.va r.vw ++ (wLk g ad r.jd r.jb r.jc r.js r.jl r.jx r.ji r.jf r.jn ++ (wDm g ad r.dq ++ (wPq g ap (adr sv) (adr mm) tx ++ (wRd g (ap 4) rp rl rs rm rn rz ++ (wPl g sv 6 ++ wPl g mm 2))))))))))) (by first | (simp only [if_neg h1]; done) | (simp only [if_neg h1]; rfl)) ?_
      exact K2
    · refine x_aload_n C 0 rfl rfl dX6_saveState_9 ?_
      refine x_aload_n C 0 rfl rfl dX6_saveState_10 ?_
      refine x_iconst C 1 (by decide) dX6_saveState_11 ?_
      refine x_FV0 [.int 1] [.ref (ap 0)] (wCl g ap ad r po pn pl tx rp rl rs rm rn rz sv mm) C (k_X6_savedSlot l g ap ad r po pn pl tx rp rl rs rm rn rz sv mm 1 1 rfl hc.2.2.2.1 (by omega)) rfl yV_X6_savedSlot wML_X6_262 rfl 0 rfl rfl rfl rfl (nle rfl) (nle rfl) (nle rfl) (nle rfl) (nle rfl) dX6_saveState_12 ?_
      refine x_ws (ws' := (wPo g ap ad po pn pl ++ (wS0 g ad ++ (wSk g ad r.kp r.ke r.kr r.kt r.kh r.kc ++ (wMx g ad r.xn r.xs r.xv r.xh r.xo r.xc ++ (wSv g ad r.vd r.vn r.vl r.vu r.vs r.vm r.vp r.vt r.va r.vw ++ (wLk g ad r.jd r.jb r.jc r.js r.jl r.jx r.ji r.jf r.jn ++ (wDm g ad r.dq ++ (wPq g ap (adr sv) (adr mm) tx ++ (wRd g (ap 4) rp rl rs rm rn rz ++ (wPl g sv 6 ++ wPl g mm 2))))))))))) rfl ?_
      refine x_put C 0 6 2 tyX6 (wPo g ap ad (nI ((Int32.toNatClampNeg po + 1) % 6)) pn pl ++ (wS0 g ad ++ (wSk g ad r.kp r.ke r.kr r.kt r.kh r.kc ++ (wMx g ad r.xn r.xs r.xv r.xh r.xo r.xc ++ (wSv g ad r.vd r.vn r.vl r.vu r.vs r.vm r.vp r.vt r.va r.vw ++ (wLk g ad r.jd r.jb r.jc r.js r.jl r.jx r.ji r.jf r.jn ++ (wDm g ad r.dq ++ (wPq g ap (adr sv) (adr mm) tx ++ (wRd g (ap 4) rp rl rs rm rn rz ++ (wPl g sv 6 ++ wPl g mm 2)))))))))) rfl rfl rfl wLy_X6 tyX6_ok nmX6 wFL_X6_301 rfl (by decide) rfl rfl rfl rfl (nlt rfl) dX6_saveState_15 ?_
      refine x_aload_n C 0 rfl rfl dX6_saveState_18 ?_
      refine x_dup C rfl dX6_saveState_19 ?_
      refine x_get C 0 6 3 rfl rfl wLy_X6 wFL_X6_259 rfl (by decide) rfl dX6_saveState_20 ?_
      refine x_iconst C 1 (by decide) dX6_saveState_23 ?_
      refine x_isub C dX6_saveState_24 ?_
      refine x_put C 0 6 3 tyX6 (wPo g ap ad (nI ((Int32.toNatClampNeg po + 1) % 6)) (pn - 1) pl ++ (wS0 g ad ++ (wSk g ad r.kp r.ke r.kr r.kt r.kh r.kc ++ (wMx g ad r.xn r.xs r.xv r.xh r.xo r.xc ++ (wSv g ad r.vd r.vn r.vl r.vu r.vs r.vm r.vp r.vt r.va r.vw ++ (wLk g ad r.jd r.jb r.jc r.js r.jl r.jx r.ji r.jf r.jn ++ (wDm g ad r.dq ++ (wPq g ap (adr sv) (adr mm) tx ++ (wRd g (ap 4) rp rl rs rm rn rz ++ (wPl g sv 6 ++ wPl g mm 2)))))))))) rfl rfl rfl wLy_X6 tyX6_ok nmX6 wFL_X6_259 rfl (by decide) rfl rfl rfl rfl (nlt rfl) dX6_saveState_25 ?_
      refine x_ws (ws' := (wPo g ap ad (if pn = 6 then (nI ((Int32.toNatClampNeg po + 1) % 6)) else po) (if pn = 6 then (pn - 1) else pn) pl ++ (wS0 g ad ++ (wSk g ad r.kp r.ke r.kr r.kt r.kh r.kc ++ (wMx g ad r.xn r.xs r.xv r.xh r.xo r.xc ++ (wSv g ad r.vd r.vn r.vl r.vu r.vs r.vm r.vp r.vt r.va r.vw ++ (wLk g ad r.jd r.jb r.jc r.js r.jl r.jx r.ji r.jf r.jn ++ (wDm g ad r.dq ++ (wPq g ap (adr sv) (adr mm) tx ++ (wRd g (ap 4) rp rl rs rm rn rz ++ (wPl g sv 6 ++ wPl g mm 2))))))))))) (by first | (simp only [if_pos h1]; done) | (simp only [if_pos h1]; rfl)) ?_
      exact K2
  refine x_ws (ws' := (wPo g ap ad (sp_spo2 po pn) (sp_spn1 pn) pl ++ (wS0 g ad ++ (wSk g ad r.kp r.ke r.kr r.kt r.kh r.kc ++ (wMx g ad r.xn r.xs r.xv r.xh r.xo r.xc ++ (wSv g ad r.vd r.vn r.vl r.vu r.vs r.vm r.vp r.vt r.va r.vw ++ (wLk g ad r.jd r.jb r.jc r.js r.jl r.jx r.ji r.jf r.jn ++ (wDm g ad r.dq ++ (wPq g ap (adr sv) (adr mm) tx ++ (wRd g (ap 4) rp rl rs rm rn rz ++ (wPl g sv 6 ++ wPl g mm 2))))))))))) rfl ?_
  have hpo2 := sp_spo_ok pn hc.2.2.2.1
  have hpn2 := sp_spn_ok hc.2.2.2.2
  have hpn3 := hpn2.2
  refine x_aload_n C 0 rfl rfl dX6_saveState_28 ?_
  refine x_aload_n C 0 rfl rfl dX6_saveState_29 ?_
  refine x_get C 0 6 3 rfl rfl wLy_X6 wFL_X6_259 rfl (by decide) rfl dX6_saveState_30 ?_
  refine x_FV0 [.int (sp_spn1 pn)] [] (wCl g ap ad r (sp_spo2 po pn) (sp_spn1 pn) pl tx rp rl rs rm rn rz sv mm) C (k_X6_savedSlot l g ap ad r (sp_spo2 po pn) (sp_spn1 pn) pl tx rp rl rs rm rn rz sv mm (sp_spn1 pn) (Int32.toNatClampNeg (sp_spn1 pn)) hpn2.1 hpo2 (by omega)) rfl yV_X6_savedSlot wML_X6_262 rfl 0 rfl rfl rfl rfl (nle rfl) (nle rfl) (nle rfl) (nle rfl) (nle rfl) dX6_saveState_33 ?_
  refine x_ws (ws' := (wPo g ap ad (sp_spo2 po pn) (sp_spn1 pn) pl ++ (wS0 g ad ++ (wSk g ad r.kp r.ke r.kr r.kt r.kh r.kc ++ (wMx g ad r.xn r.xs r.xv r.xh r.xo r.xc ++ (wSv g ad r.vd r.vn r.vl r.vu r.vs r.vm r.vp r.vt r.va r.vw ++ (wLk g ad r.jd r.jb r.jc r.js r.jl r.jx r.ji r.jf r.jn ++ (wDm g ad r.dq ++ (wPq g ap (adr sv) (adr mm) tx ++ (wRd g (ap 4) rp rl rs rm rn rz ++ (wPl g sv 6 ++ wPl g mm 2))))))))))) rfl ?_
  refine x_st (st' := [.int (nI (slK po pn))]) rfl ?_
  refine x_istore_n C [(1, .int (nI (slK po pn))), (0, .ref (ap 0))] rfl rfl (by decide) dX6_saveState_36 ?_
  have hK : slK po pn < 6 := Nat.mod_lt _ (by decide)
  suffices KT : ∀ (a1 : Nat → Nat) (r1 : xR) (qs : Nat → Option Nat), qs (slK po pn) = some (a1 0) → qs = adr (upP sv (slK po pn) (some (a1, cpR r r1))) → (∃ adn : Nat → Nat, (upP sv (slK po pn) (some (a1, cpR r r1))) = svS sv adn r po pn) → xW p l e _ σ m args below meth c g.1 A 2 25 186 _ (wPo g ap ad (sp_spo2 po pn) (sp_spn1 pn) pl ++ (wS0 g ad ++ (wSk g ad r.kp r.ke r.kr r.kt r.kh r.kc ++ (wMx g ad r.xn r.xs r.xv r.xh r.xo r.xc ++ (wSv g ad r.vd r.vn r.vl r.vu r.vs r.vm r.vp r.vt r.va r.vw ++ (wLk g ad r.jd r.jb r.jc r.js r.jl r.jx r.ji r.jf r.jn ++ (wDm g ad r.dq ++ (wPq g ap qs (adr mm) tx ++ (wRd g (ap 4) rp rl rs rm rn rz ++ (wSt g a1 r1 ++ (wPl g (upP sv (slK po pn) none) 6 ++ wPl g mm 2))))))))))) [(1, .int (nI (slK po pn))), (0, .ref (ap 0))] 59 [] by
    rcases hsv : sv (slK po pn) with _ | ⟨a1, r1⟩
    · refine x_aload_n C 1 rfl rfl dX6_saveState_37 ?_
      refine x_get C 0 6 1 rfl rfl wLy_X6 wFL_X6_16 rfl (by decide) rfl dX6_saveState_38 ?_
      refine x_iload_n C 0 rfl rfl dX6_saveState_41 ?_
      refine x_aldq (f := adr sv) C 26 2 rfl rfl (in6 hK) dX6_saveState_42 ?_
      refine x_st (st' := [va_rf none]) (by rw [nI_clamp (by omega)]; unfold adr; rw [hsv]; rfl) ?_
      refine x_ifnonnull C 59 (by decide) dX6_saveState_43 (fun _ h => nomatch h) (fun _ => ?_)
      refine x_aload_n C 1 rfl rfl dX6_saveState_46 ?_
      refine x_get C 0 6 1 rfl rfl wLy_X6 wFL_X6_16 rfl (by decide) rfl dX6_saveState_47 ?_
      refine x_iload_n C 0 rfl rfl dX6_saveState_50 ?_
      refine x_new (ci := 4) C tyX4 wLy_X4 tyX4_ok wCL_X6_7 wIs_X4 wIn_X4 rfl (fs := [.null, .null, .null, .null, .null]) (fun j hj => match j, hj with | 0, _ => rfl | 1, _ => rfl | 2, _ => rfl | 3, _ => rfl | 4, _ => rfl | j + 5, h => absurd h (by omega)) (nle rfl) (nle rfl) dX6_saveState_51 (fun q1 => ?_)
      refine x_dup C rfl dX6_saveState_54 ?_
      refine x_callIN (host := RX6) (w1 := _) (wc := _) (w2 := ([] : va_W)) [] [.ref q1, .int (nI (slK po pn)), .ref (ap 1)] C (k_X4_init l g q1) yI_X4_init (by decide +kernel) rfl rfl rfl (nle rfl) (nle rfl) (nle rfl) (nle rfl) (nle rfl) dX6_saveState_55 (fun E w h => h.elim) (fun r0 w h => ?_)
      obtain ⟨rfl, adn, hq, rfl⟩ := h
      subst hq
      refine x_perm (ws' := (wPo g ap ad (sp_spo2 po pn) (sp_spn1 pn) pl ++ (wS0 g ad ++ (wSk g ad r.kp r.ke r.kr r.kt r.kh r.kc ++ (wMx g ad r.xn r.xs r.xv r.xh r.xo r.xc ++ (wSv g ad r.vd r.vn r.vl r.vu r.vs r.vm r.vp r.vt r.va r.vw ++ (wLk g ad r.jd r.jb r.jc r.js r.jl r.jx r.ji r.jf r.jn ++ (wDm g ad r.dq ++ (wPq g ap (adr sv) (adr mm) tx ++ (wRd g (ap 4) rp rl rs rm rn rz ++ (wSt g adn r00 ++ (wPl g sv 6 ++ wPl g mm 2)))))))))))) (pm_in (wPo g ap ad (sp_spo2 po pn) (sp_spn1 pn) pl ++ (wS0 g ad ++ (wSk g ad r.kp r.ke r.kr r.kt r.kh r.kc ++ (wMx g ad r.xn r.xs r.xv r.xh r.xo r.xc ++ (wSv g ad r.vd r.vn r.vl r.vu r.vs r.vm r.vp r.vt r.va r.vw ++ (wLk g ad r.jd r.jb r.jc r.js r.jl r.jx r.ji r.jf r.jn ++ (wDm g ad r.dq ++ (wPq g ap (adr sv) (adr mm) tx ++ (wRd g (ap 4) rp rl rs rm rn rz))))))))) (wPl g sv 6 ++ wPl g mm 2) (wSt g adn r00)) ?_
      refine x_astq C 26 2 30 4 (f := adr sv) (r := (RX4, TX4, 5)) (wPo g ap ad (sp_spo2 po pn) (sp_spn1 pn) pl ++ (wS0 g ad ++ (wSk g ad r.kp r.ke r.kr r.kt r.kh r.kc ++ (wMx g ad r.xn r.xs r.xv r.xh r.xo r.xc ++ (wSv g ad r.vd r.vn r.vl r.vu r.vs r.vm r.vp r.vt r.va r.vw ++ (wLk g ad r.jd r.jb r.jc r.js r.jl r.jx r.ji r.jf r.jn ++ (wDm g ad r.dq ++ (wPq g ap (va_up (adr sv) (slK po pn) (some (adn 0))) (adr mm) tx ++ (wRd g (ap 4) rp rl rs rm rn rz ++ (wSt g adn r00 ++ (wPl g sv 6 ++ wPl g mm 2))))))))))) rfl (by rw [nI_clamp (by omega)]; rfl) rfl rfl rfl (in6 hK) dX6_saveState_58 ?_
      have hno2 : upP sv (slK po pn) none = sv := upP_self sv _ none hsv
      have hw := KT adn r00 (va_up (adr sv) (slK po pn) (some (adn 0))) (va_up_self _ _ _) (by rw [adr_upP]; rfl) ⟨adn, by unfold svS; rw [hsv]⟩
      rw [hno2] at hw
      exact hw
    · refine x_aload_n C 1 rfl rfl dX6_saveState_37 ?_
      refine x_get C 0 6 1 rfl rfl wLy_X6 wFL_X6_16 rfl (by decide) rfl dX6_saveState_38 ?_
      refine x_iload_n C 0 rfl rfl dX6_saveState_41 ?_
      refine x_aldq (f := adr sv) C 26 2 rfl rfl (in6 hK) dX6_saveState_42 ?_
      refine x_st (st' := [va_rf (some (a1 0))]) (by rw [nI_clamp (by omega)]; unfold adr; rw [hsv]; rfl) ?_
      refine x_ifnonnull C 59 (by decide) dX6_saveState_43 (fun _ _ => ?_) (fun h => nomatch h)
      refine x_wid (k := 25) (n := 186) (by decide) (by decide) ?_
      have hs1 : upP sv (slK po pn) (some (a1, r1)) = sv := upP_self sv _ _ hsv
      have hpm : (wPl g sv 6).Perm (wSt g a1 r1 ++ wPl g (upP sv (slK po pn) none) 6) := by
        have := wPl_perm g sv (slK po pn) a1 r1 6 hK
        rw [hs1] at this
        exact this
      refine x_perm (ws' := (wPo g ap ad (sp_spo2 po pn) (sp_spn1 pn) pl ++ (wS0 g ad ++ (wSk g ad r.kp r.ke r.kr r.kt r.kh r.kc ++ (wMx g ad r.xn r.xs r.xv r.xh r.xo r.xc ++ (wSv g ad r.vd r.vn r.vl r.vu r.vs r.vm r.vp r.vt r.va r.vw ++ (wLk g ad r.jd r.jb r.jc r.js r.jl r.jx r.ji r.jf r.jn ++ (wDm g ad r.dq ++ (wPq g ap (adr sv) (adr mm) tx ++ (wRd g (ap 4) rp rl rs rm rn rz ++ (wSt g a1 r1 ++ (wPl g (upP sv (slK po pn) none) 6 ++ wPl g mm 2)))))))))))) (pm_pl (wPo g ap ad (sp_spo2 po pn) (sp_spn1 pn) pl ++ (wS0 g ad ++ (wSk g ad r.kp r.ke r.kr r.kt r.kh r.kc ++ (wMx g ad r.xn r.xs r.xv r.xh r.xo r.xc ++ (wSv g ad r.vd r.vn r.vl r.vu r.vs r.vm r.vp r.vt r.va r.vw ++ (wLk g ad r.jd r.jb r.jc r.js r.jl r.jx r.ji r.jf r.jn ++ (wDm g ad r.dq ++ (wPq g ap (adr sv) (adr mm) tx ++ (wRd g (ap 4) rp rl rs rm rn rz))))))))) hpm) ?_
      exact KT a1 r1 (adr sv) (by unfold adr; rw [hsv]; rfl) (adr_put hsv) ⟨a1, by unfold svS; rw [hsv]⟩
  intro a1 r1 qs hq1 hq2 hq3
  obtain ⟨adn, hq3⟩ := hq3
  refine x_aload_n C 1 rfl rfl dX6_saveState_59 ?_
  refine x_get C 0 6 1 rfl rfl wLy_X6 wFL_X6_16 rfl (by decide) rfl dX6_saveState_60 ?_
  refine x_iload_n C 0 rfl rfl dX6_saveState_63 ?_
  refine x_aldq (f := qs) C 26 2 rfl rfl (in6 hK) dX6_saveState_64 ?_
  refine x_st (st' := [.ref (a1 0)]) (by rw [nI_clamp (by omega), hq1]; rfl) ?_
  refine x_aload_n C 1 rfl rfl dX6_saveState_65 ?_
  refine x_get C 0 6 0 rfl rfl wLy_X6 wFL_X6_10 rfl (by decide) rfl dX6_saveState_66 ?_
  refine x_GV2s (w0 := wPo g ap ad (sp_spo2 po pn) (sp_spn1 pn) pl) (w1 := wPq g ap qs (adr mm) tx ++ wRd g (ap 4) rp rl rs rm rn rz) (w2 := wPl g (upP sv (slK po pn) none) 6 ++ wPl g mm 2) (X := wSt g a1 r1) (Y := wSt g ad r) (X' := wSt g a1 (cpR r r1)) (Y' := wSt g ad r) [.ref (ad 0)] [] (wPo g ap ad (sp_spo2 po pn) (sp_spn1 pn) pl ++ (wS0 g ad ++ (wSk g ad r.kp r.ke r.kr r.kt r.kh r.kc ++ (wMx g ad r.xn r.xs r.xv r.xh r.xo r.xc ++ (wSv g ad r.vd r.vn r.vl r.vu r.vs r.vm r.vp r.vt r.va r.vw ++ (wLk g ad r.jd r.jb r.jc r.js r.jl r.jx r.ji r.jf r.jn ++ (wDm g ad r.dq ++ (wPq g ap qs (adr mm) tx ++ (wRd g (ap 4) rp rl rs rm rn rz ++ (wSt g a1 (cpR r r1) ++ (wPl g (upP sv (slK po pn) none) 6 ++ wPl g mm 2))))))))))) C (k_X4_copyR l g a1 ad r r1 hc.1.1 hc.2.1 hc.2.2.1) rfl yV_X4_copyFrom wML_X6_267 rfl rfl rfl rfl rfl (nle rfl) (nle rfl) (nle rfl) (nle rfl) (nle rfl) dX6_saveState_69 ?_
  refine x_aload_n C 1 rfl rfl dX6_saveState_72 ?_
  refine x_dup C rfl dX6_saveState_73 ?_
  refine x_get C 0 6 3 rfl rfl wLy_X6 wFL_X6_259 rfl (by decide) rfl dX6_saveState_74 ?_
  refine x_iconst C 1 (by decide) dX6_saveState_77 ?_
  refine x_iadd C dX6_saveState_78 ?_
  refine x_put C 0 6 3 tyX6 (wPo g ap ad (sp_spo2 po pn) ((sp_spn1 pn) + 1) pl ++ (wS0 g ad ++ (wSk g ad r.kp r.ke r.kr r.kt r.kh r.kc ++ (wMx g ad r.xn r.xs r.xv r.xh r.xo r.xc ++ (wSv g ad r.vd r.vn r.vl r.vu r.vs r.vm r.vp r.vt r.va r.vw ++ (wLk g ad r.jd r.jb r.jc r.js r.jl r.jx r.ji r.jf r.jn ++ (wDm g ad r.dq ++ (wPq g ap qs (adr mm) tx ++ (wRd g (ap 4) rp rl rs rm rn rz ++ (wSt g a1 (cpR r r1) ++ (wPl g (upP sv (slK po pn) none) 6 ++ wPl g mm 2))))))))))) rfl rfl rfl wLy_X6 tyX6_ok nmX6 wFL_X6_259 rfl (by decide) rfl rfl rfl rfl (nlt rfl) dX6_saveState_79 ?_
  refine x_perm (ws' := (wPo g ap ad (sp_spo2 po pn) ((sp_spn1 pn) + 1) pl ++ (wS0 g ad ++ (wSk g ad r.kp r.ke r.kr r.kt r.kh r.kc ++ (wMx g ad r.xn r.xs r.xv r.xh r.xo r.xc ++ (wSv g ad r.vd r.vn r.vl r.vu r.vs r.vm r.vp r.vt r.va r.vw ++ (wLk g ad r.jd r.jb r.jc r.js r.jl r.jx r.ji r.jf r.jn ++ (wDm g ad r.dq ++ (wPq g ap (adr (upP sv (slK po pn) (some (a1, cpR r r1)))) (adr mm) tx ++ (wRd g (ap 4) rp rl rs rm rn rz ++ (wPl g (upP sv (slK po pn) (some (a1, cpR r r1))) 6 ++ wPl g mm 2))))))))))) (by rw [hq2]; exact (pm_pl (wPo g ap ad (sp_spo2 po pn) ((sp_spn1 pn) + 1) pl ++ (wS0 g ad ++ (wSk g ad r.kp r.ke r.kr r.kt r.kh r.kc ++ (wMx g ad r.xn r.xs r.xv r.xh r.xo r.xc ++ (wSv g ad r.vd r.vn r.vl r.vu r.vs r.vm r.vp r.vt r.va r.vw ++ (wLk g ad r.jd r.jb r.jc r.js r.jl r.jx r.ji r.jf r.jn ++ (wDm g ad r.dq ++ (wPq g ap (adr (upP sv (slK po pn) (some (a1, cpR r r1)))) (adr mm) tx ++ (wRd g (ap 4) rp rl rs rm rn rz))))))))) (wPl_perm g sv (slK po pn) a1 (cpR r r1) 6 hK)).symm) ?_
  exact x_vret C hr (nle rfl) (nle rfl) dX6_saveState_82 ⟨rfl, adn, by rw [← hq3]; rfl⟩
