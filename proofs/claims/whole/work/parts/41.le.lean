abbrev ws_H (y : MethodName) (cc : ByteArray) (n : Nat) (ret : Option FieldType) (hh : List (Nat × Nat × Nat × Nat)) : List Cond := Cond.codeWith y cc n ret hh :: xAll
def xYH (y : MethodName) (bytes : ByteArray) (maxL : Nat) (ret : Option FieldType) (hh : List (Nat × Nat × Nat × Nat)) (n : Nat) : Prop := Cond.codeWith y bytes maxL ret hh ∈ xAll ∧ Cond.initialized y.cls ∈ xAll ∧ (y.cls ≠ "java/lang/invoke/MethodHandle" ∧ y.cls ≠ "java/lang/invoke/VarHandle" ∧ (parseMethodDescriptor y.desc).map (fun d => d.parameters.length) = some n) ∧ Cond.static y ∈ xAll
theorem xGoodH {own : String} {idx : Nat} {y : MethodName} {bytes : ByteArray} {maxL n : Nat} {ret : Option FieldType} {hh : List (Nat × Nat × Nat × Nat)} (hl : Cond.methodLink own idx y ∈ xAll) (hy : xYH y bytes maxL ret hh n) : GoodIn xAll (va_wsS own idx y (ws_H y bytes maxL ret hh)) := by
  intro w h
  rcases List.mem_append.mp h with h | h
  · simp only [List.mem_cons, List.not_mem_nil, or_false] at h
    rcases h with rfl | rfl | rfl
    · exact xAll_good _ hl
    · exact xAll_good _ hy.2.2.2
    · exact xAll_good _ hy.2.1
  · exact (List.mem_cons.mp h).elim (fun e => by rw [e]; exact xAll_good _ hy.1) (fun h => xAll_good w h)
section Z1
variable {p : Program} {l : Launch} {e : Env} {R : Room} {s : State} {m : MethodId} {args : Array Value} {below : List Frame} {meth : Method} {c : Code} {cells slots : Nat} {Q : State → Prop} {cc : ByteArray} {pc nL : Nat} {own nm : String} {D : va_G} {tys : List (ClassId × FieldType)} {A : Nat → Prop} {ws : va_W} {lv : List (Nat × Value)} {st : List Value}
/-- a body with handlers begins -/
theorem x_startH {y : MethodName} {wl : List Cond} {rm : Room} {mc ms : Nat} {As : List Value} {W0 : va_W} {post : Option Value → va_W → Prop} {px : String → va_W → Prop} {ret : Option FieldType} {hh : List (Nat × Nat × Nat × Nat)} (hown : y.cls = own) (hnam : y.name = nm) (hy : plainName y.cls = true) (hw : wl = Cond.codeWith y cc nL ret hh :: xAll) (hlen : (lg_sl As).length ≤ nL)
    (body : ∀ (p : Program) (e : Env) (s : State) (m : MethodId) (args : Array Value) (below : List Frame) (meth : Method) (c : Code) (A : Nat → Prop), xC p l s m args meth c cc nL own nm D tys A → c.exceptionTable.toList = tableOf hh → meth.sig.returnType = ret → xW p l e rm s m args below meth c D A nL 0 0 (vx_MQ below (xQc D A post) (xXC D A px) args s mc ms A) W0 (lv_args 0 As) 0 []) : xM l D tys y wl rm mc ms As W0 post px := by
  subst hown hnam
  intro hl sz
  refine vx_ofWH (cc := cc) (maxL := nL) (ret := ret) hy hw ?_
  intro p e s m args below meth c s₁ B hml hv
  obtain ⟨rfl, hsz, hP, hD0, hE⟩ := hv
  have hts0 := atoms_spec (ws := wl) B.pre
  have hts : ∀ w ∈ xAll, w.before _ s = true := fun w h => hts0 w (by rw [hw]; exact List.mem_cons_of_mem _ h)
  have htab : c.exceptionTable.toList = tableOf hh := vx_table (x := y) B (hts0 _ (by rw [hw]; exact List.mem_cons_self))
  have hown : s.vm.findClass y.cls = some m.cls := findClass_of_methodNamed B.named
  have hnm := (name_of_methodNamed B.named B.method).1
  subst hsz
  have hD := hD0.self (sz := s.heap.size)
  have hb := body p e s m _ below meth c (va_A W0 s.heap.size) ⟨B.exec, B.bytes, hml, hown, hts, hE, fun q h => Or.inr h, B.notSynchronized, hnm, hl⟩ htab B.returns
  have hl2 := lv_entry As hlen
  rw [lg_entry_eq]
  exact hb s.heap [] _ hP hD va_S.rf hl2
theorem x_callSH {y : MethodName} {bytes : ByteArray} {maxL n idx fr lo mc ms : Nat} {ret : Option FieldType} {hh : List (Nat × Nat × Nat × Nat)} {w1 wc w2 : va_W} {post : Option Value → va_W → Prop} {px : String → va_W → Prop} (As rest : List Value) (C : xC p l s m args meth c cc nL own nm D tys A) (hM : xM l D tys y (ws_H y bytes maxL ret hh) (xRm fr lo mc ms) mc ms As wc post px) (hy : xYH y bytes maxL ret hh n) (hl : Cond.methodLink own idx y ∈ xAll) (hws : ws = w1 ++ (wc ++ w2)) (hn : As.length = n) (hst : st = As.reverse ++ rest) (hW : (rest.map fun v => v.category).sum ≤ 8) (hf1 : fr + 1 ≤ R.frames) (hf2 : 8 + (maxL + 11) + lo ≤ R.locals) (hc : cells + mc ≤ R.cells) (hs : slots + ms ≤ R.slots) (hd : decode cc pc = .ok (.invokestatic idx, 3))
    (Kx : ∀ (E : String) (w : va_W), px E w → xX p l e R s m args below meth c D A nL (cells + mc) (slots + ms) Q (w1 ++ (w ++ w2)) lv pc E) (Kr : ∀ (r : Option Value) (w : va_W), post r w → xW p l e R s m args below meth c D A nL (cells + mc) (slots + ms) Q (w1 ++ (w ++ w2)) lv (pc + 3) (r.toList ++ rest)) : xW p l e R s m args below meth c D A nL cells slots Q ws lv pc st := by
  refine x_run (rest := rest) (a := As.toArray) C hws (fun H locs ls hP hD hS hlv => ?_) Kr Kx
  subst hws
  exact vx_runSX (As := As) (rest := rest) ⟨C.1, C.2.1, C.2.2.1, C.2.2.2.1, C.2.2.2.2.1⟩ (hM C.2.2.2.2.2.2.2.2.2 H.size) (vx_cwSW n C.2.2.2.2.1 (xGoodH hl hy) rfl rfl rfl hy.2.2.1 ⟨hf1, hf2⟩) ⟨x_blind, fun U hU hW => x_pre C hP hD hS U hU hW⟩ rfl hn hlv.1 hst (lv_room hW) hd ⟨hc, hs⟩
theorem hw1 {w1 wc : va_W} (h : ws = w1 ++ wc) : ws = w1 ++ (wc ++ []) := by rw [List.append_nil]; exact h
/-- a call whose world stands last -/
theorem x_EV1 {y : MethodName} {bytes : ByteArray} {maxL n idx fr lo mc ms : Nat} {b ci N : Nat} {T : u_T} {fs : List Value} {ret : Option FieldType} {w1 wc : va_W} {post : Option Value → va_W → Prop} {px : String → va_W → Prop} (As rest : List Value) (C : xC p l s m args meth c cc nL own nm D tys A) (hM : xM l D tys y (ws_ y bytes maxL ret) (xRm fr lo mc ms) mc ms (.ref b :: As) wc post px) (hws : ws = w1 ++ wc) (hy : xYV y bytes maxL ret n) (hl : Cond.methodLink own idx y ∈ xAll) (q0 : Nat) (hq : ws[q0]? = some (b, .inr (ci, fs))) (hcl : vwCl[ci]? = some (y.cls, T, N)) (hn : As.length = n) (hst : st = As.reverse ++ (.ref b :: rest)) (hW : (rest.map fun v => v.category).sum ≤ 8) (hf1 : fr + 1 ≤ R.frames) (hf2 : 8 + (maxL + 11) + lo ≤ R.locals) (hc : cells + mc ≤ R.cells) (hs : slots + ms ≤ R.slots) (hd : decode cc pc = .ok (.invokevirtual idx, 3)) (Kx : ∀ (E : String) (w : va_W), px E w → xX p l e R s m args below meth c D A nL (cells + mc) (slots + ms) Q (w1 ++ w) lv pc E) (Kr : ∀ (r : Option Value) (w : va_W), post r w → xW p l e R s m args below meth c D A nL (cells + mc) (slots + ms) Q (w1 ++ w) lv (pc + 3) (r.toList ++ rest)) : xW p l e R s m args below meth c D A nL cells slots Q ws lv pc st :=
  x_callV (w1 := w1) (w2 := []) As rest C hM hy hl (hw1 hws) q0 hq hcl hn hst hW hf1 hf2 hc hs hd (fun E w h => by rw [List.append_nil]; exact Kx E w h) (fun r w h => by rw [List.append_nil]; exact Kr r w h)
theorem x_catch {hh : List (Nat × Nat × Nat × Nat)} {E : String} (C : xC p l s m args meth c cc nL own nm D tys A) (htab : c.exceptionTable.toList = tableOf hh) (hpc : Nat) (pre : List ExceptionTableEntry) (x : ExceptionTableEntry) (suf : List ExceptionTableEntry) (hsplit : tableOf hh = pre ++ x :: suf) (hpass : ∀ z ∈ pre, z.catchType ≠ 0 ∧ ∃ nm : String, Cond.classLink own z.catchType nm ∈ xAll ∧ (E, nm) ∈ xNo) (hx : covers x pc = true) (h0 : x.catchType ≠ 0) (hlink : Cond.classLink own x.catchType E ∈ xAll) (hca : (E, E) ∈ xCa) (hp : x.handlerPc = hpc)
    (K : ∀ q : Nat, xW p l e R s m args below meth c D A nL cells slots Q ws lv hpc [.ref q]) : xX p l e R s m args below meth c D A nL cells slots Q ws lv pc E := by
  subst hp
  intro H locs ls rest q ce hP hD hS hl hq hv hcl
  refine vx_catch C.2.2.2.1 pre x suf (htab.trans hsplit) (fun z hz => ?_) hx h0 (C.2.2.2.2.1 _ hlink) (va_Nw.use rfl (C.2.2.2.2.2.1.2.2.2.2.1.1 _ hca)) hq hv hcl (K q H locs ls hP hD hS hl)
  obtain ⟨h1, nm, h2, h3⟩ := hpass z hz
  exact Or.inr ⟨h1, nm, C.2.2.2.2.1 _ h2, C.2.2.2.2.2.1.2.2.2.1 _ h3⟩
theorem pass0 {E : String} : ∀ z ∈ ([] : List ExceptionTableEntry), z.catchType ≠ 0 ∧ ∃ nm : String, Cond.classLink own z.catchType nm ∈ xAll ∧ (E, nm) ∈ xNo := fun _ h => absurd h List.not_mem_nil
theorem passC {E nm : String} {y0 : ExceptionTableEntry} {zs : List ExceptionTableEntry} (h0 : y0.catchType ≠ 0) (hl : Cond.classLink own y0.catchType nm ∈ xAll) (hn : (E, nm) ∈ xNo) (h : ∀ z ∈ zs, z.catchType ≠ 0 ∧ ∃ nm : String, Cond.classLink own z.catchType nm ∈ xAll ∧ (E, nm) ∈ xNo) : ∀ z ∈ y0 :: zs, z.catchType ≠ 0 ∧ ∃ nm : String, Cond.classLink own z.catchType nm ∈ xAll ∧ (E, nm) ∈ xNo := List.forall_mem_cons.mpr ⟨⟨h0, nm, hl, hn⟩, h⟩
end Z1
theorem in1 : vp_in 0 1 := vp_in_nI (show 0 < 1 by decide) (by decide)
def wOu (g : xGt) (ao : Nat) (fo : Nat → Int64) : va_W := [(ao, .inl (g.2.2.2.2, 1, .inr (.inl fo)))]
theorem erc_X6_move {qa : Int32} {qb : Int32} {E : String} (h : (er_X6_move qa qb) = some E) : E = xIA ∨ E = xIO := by
  unfold er_X6_move at h
  (repeat' split at h) <;> cases h <;> first | exact rfl | exact Or.inl rfl | exact Or.inr rfl | exact Or.inr (Or.inl rfl) | exact Or.inr (Or.inr rfl)
theorem yH_L_move : xYH yL_move cL_move 5 (some .int) [(0, 10, 13, 13), (0, 10, 17, 15)] 4 := ⟨wCo_L_move, wIn_L, ⟨by decide, by decide, by decide +kernel⟩, wSta_L_move⟩
set_option maxRecDepth 100000 in
set_option maxHeartbeats 1000000 in
theorem k_L_move (l : Launch) (g : xGt) (ao : Nat) (fo : Nat → Int64) (ap ad : Nat → Nat) (r : xR) (po : Int32) (pn : Int32) (pl : Int32) (tx : Nat → Int32) (rp : Int32) (rl : Int32) (rs : Int32) (rm : Int32) (rn : Int32) (rz : Int32) (sv : xPl) (mm : xPl) (qa : Int32) (qb : Int32) (hc : clO r po pn) : xM l g.1 (xT g) yL_move (ws_H yL_move cL_move 5 (some .int) [(0, 10, 13, 13), (0, 10, 17, 15)]) (xRm 8 139 27 198) 27 198 [.ref (ap 0), .int qa, .int qb, .ref ao] (wOu g ao fo ++ (wCl g ap ad r po pn pl tx rp rl rs rm rn rz sv mm)) (fun r9 w9 => ((er_X6_move qa qb) = none ∧ r9 = some (.int 0) ∧ ∃ w8, (∃ adn : Nat → Nat, w8 = (wCl g ap ad (r.set_kp (upd r.kp (Int32.toNatClampNeg qa) qb)) (sp_spo2 po pn) (sp_spn2 pn) pl tx rp rl rs rm rn rz (svS sv adn r po pn) mm)) ∧ w9 = wOu g ao (vp_updL fo 0 (Int32.toInt64 (r.kp (Int32.toNatClampNeg qa)))) ++ w8) ∨ (∃ E cd, (er_X6_move qa qb) = some E ∧ ((E = xIA ∧ cd = 2) ∨ (E = xIO ∧ cd = 1)) ∧ r9 = some (.int cd) ∧ w9 = wOu g ao fo ++ (wCl g ap ad r po pn pl tx rp rl rs rm rn rz sv mm))) (fun _ _ => False) := by
  refine x_startH (own := RL) (nm := "move") rfl rfl (by decide +kernel) rfl (nle rfl) (fun p e σ m args below meth c A C htab hr => ?_)
  refine x_lve (lv' := [(0, .ref (ap 0)), (1, .int qa), (2, .int qb), (3, .ref ao)]) rfl ?_
  refine x_aload_n C 3 rfl rfl dL_move_0 ?_
  refine x_iconst C 0 (by decide) dL_move_1 ?_
  refine x_aload_n C 0 rfl rfl dL_move_2 ?_
  refine x_iload_n C 1 rfl rfl dL_move_3 ?_
  refine x_iload_n C 2 rfl rfl dL_move_4 ?_
  refine x_EV1 (w1 := wOu g ao fo) (wc := (wCl g ap ad r po pn pl tx rp rl rs rm rn rz sv mm)) [.int qa, .int qb] [.int 0, .ref ao] C (k_X6_move l g ap ad r po pn pl tx rp rl rs rm rn rz sv mm qa qb hc) rfl yV_X6_move wML_L_7 1 rfl rfl rfl rfl (nle rfl) (nle rfl) (nle rfl) (nle rfl) (nle rfl) dL_move_5 (fun E w h => ?_) (fun r0 w h => ?_)
  · obtain ⟨hE, rfl⟩ := h
    rcases erc_X6_move hE with rfl | rfl
    · refine x_catch (hh := [(0, 10, 13, 13), (0, 10, 17, 15)]) C htab 17 [⟨0, 10, 13, 13⟩] ⟨0, 10, 17, 15⟩ [] rfl (passC (by decide) wCL_L_13 (by decide) pass0) (by decide) (by decide) wCL_L_15 (by decide) rfl (fun q1 => ?_)
      refine x_astore C [(4, .ref q1), (0, .ref (ap 0)), (1, .int qa), (2, .int qb), (3, .ref ao)] rfl (by decide) dL_move_17 ?_
      refine x_iconst C 2 (by decide) dL_move_19 ?_
      exact x_iret C hr (nle rfl) (nle rfl) dL_move_20 (Or.inr ⟨xIA, 2, hE, Or.inl ⟨rfl, rfl⟩, rfl, rfl⟩)
    · refine x_catch (hh := [(0, 10, 13, 13), (0, 10, 17, 15)]) C htab 13 [] ⟨0, 10, 13, 13⟩ [⟨0, 10, 17, 15⟩] rfl pass0 (by decide) (by decide) wCL_L_13 (by decide) rfl (fun q1 => ?_)
      refine x_astore C [(4, .ref q1), (0, .ref (ap 0)), (1, .int qa), (2, .int qb), (3, .ref ao)] rfl (by decide) dL_move_13 ?_
      refine x_iconst C 1 (by decide) dL_move_15 ?_
      exact x_iret C hr (nle rfl) (nle rfl) dL_move_16 (Or.inr ⟨xIO, 1, hE, Or.inr (⟨rfl, rfl⟩), rfl, rfl⟩)
  · obtain ⟨h1, rfl, hw⟩ := h
    refine x_st (st' := [.int (r.kp (Int32.toNatClampNeg qa)), .int 0, .ref ao]) rfl ?_
    refine x_i2l C dL_move_8 ?_
    refine x_last (f := fo) C 0 3 (wOu g ao (vp_updL fo 0 (Int32.toInt64 (r.kp (Int32.toNatClampNeg qa)))) ++ w) rfl rfl rfl in1 dL_move_9 ?_
    refine x_goto C 21 (by decide) dL_move_10 ?_
    refine x_iconst C 0 (by decide) dL_move_21 ?_
    exact x_iret C hr (nle rfl) (nle rfl) dL_move_22 (Or.inl ⟨h1, rfl, w, hw, rfl⟩)
theorem erc_X6_position {qa : Int32} {E : String} (h : (er_X6_position qa) = some E) : E = xIO := by
  unfold er_X6_position at h
  (repeat' split at h) <;> cases h <;> first | exact rfl | exact Or.inl rfl | exact Or.inr rfl | exact Or.inr (Or.inl rfl) | exact Or.inr (Or.inr rfl)
theorem yH_L_position : xYH yL_position cL_position 4 (some .int) [(0, 9, 12, 13)] 3 := ⟨wCo_L_position, wIn_L, ⟨by decide, by decide, by decide +kernel⟩, wSta_L_position⟩
set_option maxRecDepth 100000 in
set_option maxHeartbeats 1000000 in
theorem k_L_position (l : Launch) (g : xGt) (ao : Nat) (fo : Nat → Int64) (ap ad : Nat → Nat) (r : xR) (po : Int32) (pn : Int32) (pl : Int32) (tx : Nat → Int32) (rp : Int32) (rl : Int32) (rs : Int32) (rm : Int32) (rn : Int32) (rz : Int32) (sv : xPl) (mm : xPl) (qa : Int32) (hc : clO r po pn) : xM l g.1 (xT g) yL_position (ws_H yL_position cL_position 4 (some .int) [(0, 9, 12, 13)]) (xRm 8 135 1 6) 1 6 [.ref (ap 0), .int qa, .ref ao] (wOu g ao fo ++ (wCl g ap ad r po pn pl tx rp rl rs rm rn rz sv mm)) (fun r9 w9 => ((er_X6_position qa) = none ∧ r9 = some (.int 0) ∧ ∃ w8, (w8 = (wCl g ap ad r po pn pl tx rp rl rs rm rn rz sv mm)) ∧ w9 = wOu g ao (vp_updL fo 0 (Int32.toInt64 (r.kp (Int32.toNatClampNeg qa)))) ++ w8) ∨ (∃ E cd, (er_X6_position qa) = some E ∧ ((E = xIO ∧ cd = 1)) ∧ r9 = some (.int cd) ∧ w9 = wOu g ao fo ++ (wCl g ap ad r po pn pl tx rp rl rs rm rn rz sv mm))) (fun _ _ => False) := by
  refine x_startH (own := RL) (nm := "position") rfl rfl (by decide +kernel) rfl (nle rfl) (fun p e σ m args below meth c A C htab hr => ?_)
  refine x_lve (lv' := [(0, .ref (ap 0)), (1, .int qa), (2, .ref ao)]) rfl ?_
  refine x_aload_n C 2 rfl rfl dL_position_0 ?_
  refine x_iconst C 0 (by decide) dL_position_1 ?_
  refine x_aload_n C 0 rfl rfl dL_position_2 ?_
  refine x_iload_n C 1 rfl rfl dL_position_3 ?_
  refine x_EV1 (w1 := wOu g ao fo) (wc := (wCl g ap ad r po pn pl tx rp rl rs rm rn rz sv mm)) [.int qa] [.int 0, .ref ao] C (k_X6_position l g ap ad r po pn pl tx rp rl rs rm rn rz sv mm qa hc) rfl yV_X6_position wML_L_17 1 rfl rfl rfl rfl (nle rfl) (nle rfl) (nle rfl) (nle rfl) (nle rfl) dL_position_4 (fun E w h => ?_) (fun r0 w h => ?_)
  · obtain ⟨hE, rfl⟩ := h
    obtain rfl := erc_X6_position hE
    refine x_catch (hh := [(0, 9, 12, 13)]) C htab 12 [] ⟨0, 9, 12, 13⟩ [] rfl pass0 (by decide) (by decide) wCL_L_13 (by decide) rfl (fun q1 => ?_)
    refine x_astore_n C [(3, .ref q1), (0, .ref (ap 0)), (1, .int qa), (2, .ref ao)] rfl rfl (by decide) dL_position_12 ?_
    refine x_iconst C 1 (by decide) dL_position_13 ?_
    exact x_iret C hr (nle rfl) (nle rfl) dL_position_14 (Or.inr ⟨xIO, 1, hE, ⟨rfl, rfl⟩, rfl, rfl⟩)
  · obtain ⟨h1, rfl, hw⟩ := h
    refine x_st (st' := [.int (r.kp (Int32.toNatClampNeg qa)), .int 0, .ref ao]) rfl ?_
    refine x_i2l C dL_position_7 ?_
    refine x_last (f := fo) C 0 3 (wOu g ao (vp_updL fo 0 (Int32.toInt64 (r.kp (Int32.toNatClampNeg qa)))) ++ w) rfl rfl rfl in1 dL_position_8 ?_
    refine x_goto C 15 (by decide) dL_position_9 ?_
    refine x_iconst C 0 (by decide) dL_position_15 ?_
    exact x_iret C hr (nle rfl) (nle rfl) dL_position_16 (Or.inl ⟨h1, rfl, w, hw, rfl⟩)
theorem erc_X6_setTrim {qa : Int32} {qb : Int32} {E : String} (h : (er_X6_setTrim qa qb) = some E) : E = xIA ∨ E = xIO := by
  unfold er_X6_setTrim at h
  (repeat' split at h) <;> cases h <;> first | exact rfl | exact Or.inl rfl | exact Or.inr rfl | exact Or.inr (Or.inl rfl) | exact Or.inr (Or.inr rfl)
theorem yH_L_setTrim : xYH yL_setTrim cL_setTrim 5 (some .int) [(0, 10, 13, 13), (0, 10, 17, 15)] 4 := ⟨wCo_L_setTrim, wIn_L, ⟨by decide, by decide, by decide +kernel⟩, wSta_L_setTrim⟩
set_option maxRecDepth 100000 in
set_option maxHeartbeats 1000000 in
theorem k_L_setTrim (l : Launch) (g : xGt) (ao : Nat) (fo : Nat → Int64) (ap ad : Nat → Nat) (r : xR) (po : Int32) (pn : Int32) (pl : Int32) (tx : Nat → Int32) (rp : Int32) (rl : Int32) (rs : Int32) (rm : Int32) (rn : Int32) (rz : Int32) (sv : xPl) (mm : xPl) (qa : Int32) (qb : Int32) (hc : clO r po pn) : xM l g.1 (xT g) yL_setTrim (ws_H yL_setTrim cL_setTrim 5 (some .int) [(0, 10, 13, 13), (0, 10, 17, 15)]) (xRm 8 140 27 198) 27 198 [.ref (ap 0), .int qa, .int qb, .ref ao] (wOu g ao fo ++ (wCl g ap ad r po pn pl tx rp rl rs rm rn rz sv mm)) (fun r9 w9 => ((er_X6_setTrim qa qb) = none ∧ r9 = some (.int 0) ∧ ∃ w8, (∃ adn : Nat → Nat, w8 = (wCl g ap ad (r.set_kt (upd r.kt (slN r.kh (Int32.toNatClampNeg qa)) qb)) (sp_spo2 po pn) (sp_spn2 pn) pl tx rp rl rs rm rn rz (svS sv adn r po pn) mm)) ∧ w9 = wOu g ao (vp_updL fo 0 (Int32.toInt64 (r.kt (slN r.kh (Int32.toNatClampNeg qa))))) ++ w8) ∨ (∃ E cd, (er_X6_setTrim qa qb) = some E ∧ ((E = xIA ∧ cd = 2) ∨ (E = xIO ∧ cd = 1)) ∧ r9 = some (.int cd) ∧ w9 = wOu g ao fo ++ (wCl g ap ad r po pn pl tx rp rl rs rm rn rz sv mm))) (fun _ _ => False) := by
  refine x_startH (own := RL) (nm := "setTrim") rfl rfl (by decide +kernel) rfl (nle rfl) (fun p e σ m args below meth c A C htab hr => ?_)
  refine x_lve (lv' := [(0, .ref (ap 0)), (1, .int qa), (2, .int qb), (3, .ref ao)]) rfl ?_
  refine x_aload_n C 3 rfl rfl dL_setTrim_0 ?_
  refine x_iconst C 0 (by decide) dL_setTrim_1 ?_
  refine x_aload_n C 0 rfl rfl dL_setTrim_2 ?_
  refine x_iload_n C 1 rfl rfl dL_setTrim_3 ?_
  refine x_iload_n C 2 rfl rfl dL_setTrim_4 ?_
  refine x_EV1 (w1 := wOu g ao fo) (wc := (wCl g ap ad r po pn pl tx rp rl rs rm rn rz sv mm)) [.int qa, .int qb] [.int 0, .ref ao] C (k_X6_setTrim l g ap ad r po pn pl tx rp rl rs rm rn rz sv mm qa qb hc) rfl yV_X6_setTrim wML_L_21 1 rfl rfl rfl rfl (nle rfl) (nle rfl) (nle rfl) (nle rfl) (nle rfl) dL_setTrim_5 (fun E w h => ?_) (fun r0 w h => ?_)
  · obtain ⟨hE, rfl⟩ := h
    rcases erc_X6_setTrim hE with rfl | rfl
    · refine x_catch (hh := [(0, 10, 13, 13), (0, 10, 17, 15)]) C htab 17 [⟨0, 10, 13, 13⟩] ⟨0, 10, 17, 15⟩ [] rfl (passC (by decide) wCL_L_13 (by decide) pass0) (by decide) (by decide) wCL_L_15 (by decide) rfl (fun q1 => ?_)
      refine x_astore C [(4, .ref q1), (0, .ref (ap 0)), (1, .int qa), (2, .int qb), (3, .ref ao)] rfl (by decide) dL_setTrim_17 ?_
      refine x_iconst C 2 (by decide) dL_setTrim_19 ?_
      exact x_iret C hr (nle rfl) (nle rfl) dL_setTrim_20 (Or.inr ⟨xIA, 2, hE, Or.inl ⟨rfl, rfl⟩, rfl, rfl⟩)
    · refine x_catch (hh := [(0, 10, 13, 13), (0, 10, 17, 15)]) C htab 13 [] ⟨0, 10, 13, 13⟩ [⟨0, 10, 17, 15⟩] rfl pass0 (by decide) (by decide) wCL_L_13 (by decide) rfl (fun q1 => ?_)
      refine x_astore C [(4, .ref q1), (0, .ref (ap 0)), (1, .int qa), (2, .int qb), (3, .ref ao)] rfl (by decide) dL_setTrim_13 ?_
      refine x_iconst C 1 (by decide) dL_setTrim_15 ?_
      exact x_iret C hr (nle rfl) (nle rfl) dL_setTrim_16 (Or.inr ⟨xIO, 1, hE, Or.inr (⟨rfl, rfl⟩), rfl, rfl⟩)
  · obtain ⟨h1, rfl, hw⟩ := h
    refine x_st (st' := [.int (r.kt (slN r.kh (Int32.toNatClampNeg qa))), .int 0, .ref ao]) rfl ?_
    refine x_i2l C dL_setTrim_8 ?_
    refine x_last (f := fo) C 0 3 (wOu g ao (vp_updL fo 0 (Int32.toInt64 (r.kt (slN r.kh (Int32.toNatClampNeg qa))))) ++ w) rfl rfl rfl in1 dL_setTrim_9 ?_
    refine x_goto C 21 (by decide) dL_setTrim_10 ?_
    refine x_iconst C 0 (by decide) dL_setTrim_21 ?_
    exact x_iret C hr (nle rfl) (nle rfl) dL_setTrim_22 (Or.inl ⟨h1, rfl, w, hw, rfl⟩)
theorem erc_X6_trim {qa : Int32} {E : String} (h : (er_X6_trim qa) = some E) : E = xIO := by
  unfold er_X6_trim at h
  (repeat' split at h) <;> cases h <;> first | exact rfl | exact Or.inl rfl | exact Or.inr rfl | exact Or.inr (Or.inl rfl) | exact Or.inr (Or.inr rfl)
theorem yH_L_trim : xYH yL_trim cL_trim 4 (some .int) [(0, 9, 12, 13)] 3 := ⟨wCo_L_trim, wIn_L, ⟨by decide, by decide, by decide +kernel⟩, wSta_L_trim⟩
set_option maxRecDepth 100000 in
set_option maxHeartbeats 1000000 in
theorem k_L_trim (l : Launch) (g : xGt) (ao : Nat) (fo : Nat → Int64) (ap ad : Nat → Nat) (r : xR) (po : Int32) (pn : Int32) (pl : Int32) (tx : Nat → Int32) (rp : Int32) (rl : Int32) (rs : Int32) (rm : Int32) (rn : Int32) (rz : Int32) (sv : xPl) (mm : xPl) (qa : Int32) (hc : clO r po pn) : xM l g.1 (xT g) yL_trim (ws_H yL_trim cL_trim 4 (some .int) [(0, 9, 12, 13)]) (xRm 8 135 1 6) 1 6 [.ref (ap 0), .int qa, .ref ao] (wOu g ao fo ++ (wCl g ap ad r po pn pl tx rp rl rs rm rn rz sv mm)) (fun r9 w9 => ((er_X6_trim qa) = none ∧ r9 = some (.int 0) ∧ ∃ w8, (w8 = (wCl g ap ad r po pn pl tx rp rl rs rm rn rz sv mm)) ∧ w9 = wOu g ao (vp_updL fo 0 (Int32.toInt64 (r.kt (slN r.kh (Int32.toNatClampNeg qa))))) ++ w8) ∨ (∃ E cd, (er_X6_trim qa) = some E ∧ ((E = xIO ∧ cd = 1)) ∧ r9 = some (.int cd) ∧ w9 = wOu g ao fo ++ (wCl g ap ad r po pn pl tx rp rl rs rm rn rz sv mm))) (fun _ _ => False) := by
  refine x_startH (own := RL) (nm := "trim") rfl rfl (by decide +kernel) rfl (nle rfl) (fun p e σ m args below meth c A C htab hr => ?_)
  refine x_lve (lv' := [(0, .ref (ap 0)), (1, .int qa), (2, .ref ao)]) rfl ?_
  refine x_aload_n C 2 rfl rfl dL_trim_0 ?_
  refine x_iconst C 0 (by decide) dL_trim_1 ?_
  refine x_aload_n C 0 rfl rfl dL_trim_2 ?_
  refine x_iload_n C 1 rfl rfl dL_trim_3 ?_
  refine x_EV1 (w1 := wOu g ao fo) (wc := (wCl g ap ad r po pn pl tx rp rl rs rm rn rz sv mm)) [.int qa] [.int 0, .ref ao] C (k_X6_trim l g ap ad r po pn pl tx rp rl rs rm rn rz sv mm qa hc) rfl yV_X6_trim wML_L_24 1 rfl rfl rfl rfl (nle rfl) (nle rfl) (nle rfl) (nle rfl) (nle rfl) dL_trim_4 (fun E w h => ?_) (fun r0 w h => ?_)
  · obtain ⟨hE, rfl⟩ := h
    obtain rfl := erc_X6_trim hE
    refine x_catch (hh := [(0, 9, 12, 13)]) C htab 12 [] ⟨0, 9, 12, 13⟩ [] rfl pass0 (by decide) (by decide) wCL_L_13 (by decide) rfl (fun q1 => ?_)
    refine x_astore_n C [(3, .ref q1), (0, .ref (ap 0)), (1, .int qa), (2, .ref ao)] rfl rfl (by decide) dL_trim_12 ?_
    refine x_iconst C 1 (by decide) dL_trim_13 ?_
    exact x_iret C hr (nle rfl) (nle rfl) dL_trim_14 (Or.inr ⟨xIO, 1, hE, ⟨rfl, rfl⟩, rfl, rfl⟩)
  · obtain ⟨h1, rfl, hw⟩ := h
    refine x_st (st' := [.int (r.kt (slN r.kh (Int32.toNatClampNeg qa))), .int 0, .ref ao]) rfl ?_
    refine x_i2l C dL_trim_7 ?_
    refine x_last (f := fo) C 0 3 (wOu g ao (vp_updL fo 0 (Int32.toInt64 (r.kt (slN r.kh (Int32.toNatClampNeg qa))))) ++ w) rfl rfl rfl in1 dL_trim_8 ?_
    refine x_goto C 15 (by decide) dL_trim_9 ?_
    refine x_iconst C 0 (by decide) dL_trim_15 ?_
    exact x_iret C hr (nle rfl) (nle rfl) dL_trim_16 (Or.inl ⟨h1, rfl, w, hw, rfl⟩)
theorem erc_X6_setRate {qa : Int32} {qb : Int32} {E : String} (h : (er_X6_setRate qa qb) = some E) : E = xIA ∨ E = xIO := by
  unfold er_X6_setRate at h
  (repeat' split at h) <;> cases h <;> first | exact rfl | exact Or.inl rfl | exact Or.inr rfl | exact Or.inr (Or.inl rfl) | exact Or.inr (Or.inr rfl)
theorem yH_L_setRate : xYH yL_setRate cL_setRate 5 (some .int) [(0, 10, 13, 13), (0, 10, 17, 15)] 4 := ⟨wCo_L_setRate, wIn_L, ⟨by decide, by decide, by decide +kernel⟩, wSta_L_setRate⟩
set_option maxRecDepth 100000 in
set_option maxHeartbeats 1000000 in
theorem k_L_setRate (l : Launch) (g : xGt) (ao : Nat) (fo : Nat → Int64) (ap ad : Nat → Nat) (r : xR) (po : Int32) (pn : Int32) (pl : Int32) (tx : Nat → Int32) (rp : Int32) (rl : Int32) (rs : Int32) (rm : Int32) (rn : Int32) (rz : Int32) (sv : xPl) (mm : xPl) (qa : Int32) (qb : Int32) (hc : clO r po pn) : xM l g.1 (xT g) yL_setRate (ws_H yL_setRate cL_setRate 5 (some .int) [(0, 10, 13, 13), (0, 10, 17, 15)]) (xRm 8 140 27 198) 27 198 [.ref (ap 0), .int qa, .int qb, .ref ao] (wOu g ao fo ++ (wCl g ap ad r po pn pl tx rp rl rs rm rn rz sv mm)) (fun r9 w9 => ((er_X6_setRate qa qb) = none ∧ r9 = some (.int 0) ∧ ∃ w8, (∃ adn : Nat → Nat, w8 = (wCl g ap ad (r.set_kr (upd r.kr (slN r.kh (Int32.toNatClampNeg qa)) qb)) (sp_spo2 po pn) (sp_spn2 pn) pl tx rp rl rs rm rn rz (svS sv adn r po pn) mm)) ∧ w9 = wOu g ao (vp_updL fo 0 (Int32.toInt64 (r.kr (slN r.kh (Int32.toNatClampNeg qa))))) ++ w8) ∨ (∃ E cd, (er_X6_setRate qa qb) = some E ∧ ((E = xIA ∧ cd = 2) ∨ (E = xIO ∧ cd = 1)) ∧ r9 = some (.int cd) ∧ w9 = wOu g ao fo ++ (wCl g ap ad r po pn pl tx rp rl rs rm rn rz sv mm))) (fun _ _ => False) := by
  refine x_startH (own := RL) (nm := "setRate") rfl rfl (by decide +kernel) rfl (nle rfl) (fun p e σ m args below meth c A C htab hr => ?_)
  refine x_lve (lv' := [(0, .ref (ap 0)), (1, .int qa), (2, .int qb), (3, .ref ao)]) rfl ?_
  refine x_aload_n C 3 rfl rfl dL_setRate_0 ?_
  refine x_iconst C 0 (by decide) dL_setRate_1 ?_
  refine x_aload_n C 0 rfl rfl dL_setRate_2 ?_
  refine x_iload_n C 1 rfl rfl dL_setRate_3 ?_
  refine x_iload_n C 2 rfl rfl dL_setRate_4 ?_
  refine x_EV1 (w1 := wOu g ao fo) (wc := (wCl g ap ad r po pn pl tx rp rl rs rm rn rz sv mm)) [.int qa, .int qb] [.int 0, .ref ao] C (k_X6_setRate l g ap ad r po pn pl tx rp rl rs rm rn rz sv mm qa qb hc) rfl yV_X6_setRate wML_L_27 1 rfl rfl rfl rfl (nle rfl) (nle rfl) (nle rfl) (nle rfl) (nle rfl) dL_setRate_5 (fun E w h => ?_) (fun r0 w h => ?_)
  · obtain ⟨hE, rfl⟩ := h
    rcases erc_X6_setRate hE with rfl | rfl
    · refine x_catch (hh := [(0, 10, 13, 13), (0, 10, 17, 15)]) C htab 17 [⟨0, 10, 13, 13⟩] ⟨0, 10, 17, 15⟩ [] rfl (passC (by decide) wCL_L_13 (by decide) pass0) (by decide) (by decide) wCL_L_15 (by decide) rfl (fun q1 => ?_)
      refine x_astore C [(4, .ref q1), (0, .ref (ap 0)), (1, .int qa), (2, .int qb), (3, .ref ao)] rfl (by decide) dL_setRate_17 ?_
      refine x_iconst C 2 (by decide) dL_setRate_19 ?_
      exact x_iret C hr (nle rfl) (nle rfl) dL_setRate_20 (Or.inr ⟨xIA, 2, hE, Or.inl ⟨rfl, rfl⟩, rfl, rfl⟩)
    · refine x_catch (hh := [(0, 10, 13, 13), (0, 10, 17, 15)]) C htab 13 [] ⟨0, 10, 13, 13⟩ [⟨0, 10, 17, 15⟩] rfl pass0 (by decide) (by decide) wCL_L_13 (by decide) rfl (fun q1 => ?_)
      refine x_astore C [(4, .ref q1), (0, .ref (ap 0)), (1, .int qa), (2, .int qb), (3, .ref ao)] rfl (by decide) dL_setRate_13 ?_
      refine x_iconst C 1 (by decide) dL_setRate_15 ?_
      exact x_iret C hr (nle rfl) (nle rfl) dL_setRate_16 (Or.inr ⟨xIO, 1, hE, Or.inr (⟨rfl, rfl⟩), rfl, rfl⟩)
  · obtain ⟨h1, rfl, hw⟩ := h
    refine x_st (st' := [.int (r.kr (slN r.kh (Int32.toNatClampNeg qa))), .int 0, .ref ao]) rfl ?_
    refine x_i2l C dL_setRate_8 ?_
    refine x_last (f := fo) C 0 3 (wOu g ao (vp_updL fo 0 (Int32.toInt64 (r.kr (slN r.kh (Int32.toNatClampNeg qa))))) ++ w) rfl rfl rfl in1 dL_setRate_9 ?_
    refine x_goto C 21 (by decide) dL_setRate_10 ?_
    refine x_iconst C 0 (by decide) dL_setRate_21 ?_
    exact x_iret C hr (nle rfl) (nle rfl) dL_setRate_22 (Or.inl ⟨h1, rfl, w, hw, rfl⟩)
theorem erc_X6_rate {qa : Int32} {E : String} (h : (er_X6_rate qa) = some E) : E = xIO := by
  unfold er_X6_rate at h
  (repeat' split at h) <;> cases h <;> first | exact rfl | exact Or.inl rfl | exact Or.inr rfl | exact Or.inr (Or.inl rfl) | exact Or.inr (Or.inr rfl)
theorem yH_L_rate : xYH yL_rate cL_rate 4 (some .int) [(0, 9, 12, 13)] 3 := ⟨wCo_L_rate, wIn_L, ⟨by decide, by decide, by decide +kernel⟩, wSta_L_rate⟩
set_option maxRecDepth 100000 in
set_option maxHeartbeats 1000000 in
theorem k_L_rate (l : Launch) (g : xGt) (ao : Nat) (fo : Nat → Int64) (ap ad : Nat → Nat) (r : xR) (po : Int32) (pn : Int32) (pl : Int32) (tx : Nat → Int32) (rp : Int32) (rl : Int32) (rs : Int32) (rm : Int32) (rn : Int32) (rz : Int32) (sv : xPl) (mm : xPl) (qa : Int32) (hc : clO r po pn) : xM l g.1 (xT g) yL_rate (ws_H yL_rate cL_rate 4 (some .int) [(0, 9, 12, 13)]) (xRm 8 135 1 6) 1 6 [.ref (ap 0), .int qa, .ref ao] (wOu g ao fo ++ (wCl g ap ad r po pn pl tx rp rl rs rm rn rz sv mm)) (fun r9 w9 => ((er_X6_rate qa) = none ∧ r9 = some (.int 0) ∧ ∃ w8, (w8 = (wCl g ap ad r po pn pl tx rp rl rs rm rn rz sv mm)) ∧ w9 = wOu g ao (vp_updL fo 0 (Int32.toInt64 (r.kr (slN r.kh (Int32.toNatClampNeg qa))))) ++ w8) ∨ (∃ E cd, (er_X6_rate qa) = some E ∧ ((E = xIO ∧ cd = 1)) ∧ r9 = some (.int cd) ∧ w9 = wOu g ao fo ++ (wCl g ap ad r po pn pl tx rp rl rs rm rn rz sv mm))) (fun _ _ => False) := by
  refine x_startH (own := RL) (nm := "rate") rfl rfl (by decide +kernel) rfl (nle rfl) (fun p e σ m args below meth c A C htab hr => ?_)
  refine x_lve (lv' := [(0, .ref (ap 0)), (1, .int qa), (2, .ref ao)]) rfl ?_
  refine x_aload_n C 2 rfl rfl dL_rate_0 ?_
  refine x_iconst C 0 (by decide) dL_rate_1 ?_
  refine x_aload_n C 0 rfl rfl dL_rate_2 ?_
  refine x_iload_n C 1 rfl rfl dL_rate_3 ?_
  refine x_EV1 (w1 := wOu g ao fo) (wc := (wCl g ap ad r po pn pl tx rp rl rs rm rn rz sv mm)) [.int qa] [.int 0, .ref ao] C (k_X6_rate l g ap ad r po pn pl tx rp rl rs rm rn rz sv mm qa hc) rfl yV_X6_rate wML_L_30 1 rfl rfl rfl rfl (nle rfl) (nle rfl) (nle rfl) (nle rfl) (nle rfl) dL_rate_4 (fun E w h => ?_) (fun r0 w h => ?_)
  · obtain ⟨hE, rfl⟩ := h
    obtain rfl := erc_X6_rate hE
    refine x_catch (hh := [(0, 9, 12, 13)]) C htab 12 [] ⟨0, 9, 12, 13⟩ [] rfl pass0 (by decide) (by decide) wCL_L_13 (by decide) rfl (fun q1 => ?_)
    refine x_astore_n C [(3, .ref q1), (0, .ref (ap 0)), (1, .int qa), (2, .ref ao)] rfl rfl (by decide) dL_rate_12 ?_
    refine x_iconst C 1 (by decide) dL_rate_13 ?_
    exact x_iret C hr (nle rfl) (nle rfl) dL_rate_14 (Or.inr ⟨xIO, 1, hE, ⟨rfl, rfl⟩, rfl, rfl⟩)
  · obtain ⟨h1, rfl, hw⟩ := h
    refine x_st (st' := [.int (r.kr (slN r.kh (Int32.toNatClampNeg qa))), .int 0, .ref ao]) rfl ?_
    refine x_i2l C dL_rate_7 ?_
    refine x_last (f := fo) C 0 3 (wOu g ao (vp_updL fo 0 (Int32.toInt64 (r.kr (slN r.kh (Int32.toNatClampNeg qa))))) ++ w) rfl rfl rfl in1 dL_rate_8 ?_
    refine x_goto C 15 (by decide) dL_rate_9 ?_
    refine x_iconst C 0 (by decide) dL_rate_15 ?_
    exact x_iret C hr (nle rfl) (nle rfl) dL_rate_16 (Or.inl ⟨h1, rfl, w, hw, rfl⟩)
theorem erc_X6_setExpo {qa : Int32} {qb : Int32} {E : String} (h : (er_X6_setExpo qa qb) = some E) : E = xIA ∨ E = xIO := by
  unfold er_X6_setExpo at h
  (repeat' split at h) <;> cases h <;> first | exact rfl | exact Or.inl rfl | exact Or.inr rfl | exact Or.inr (Or.inl rfl) | exact Or.inr (Or.inr rfl)
theorem yH_L_setExpo : xYH yL_setExpo cL_setExpo 5 (some .int) [(0, 10, 13, 13), (0, 10, 17, 15)] 4 := ⟨wCo_L_setExpo, wIn_L, ⟨by decide, by decide, by decide +kernel⟩, wSta_L_setExpo⟩
set_option maxRecDepth 100000 in
set_option maxHeartbeats 1000000 in
theorem k_L_setExpo (l : Launch) (g : xGt) (ao : Nat) (fo : Nat → Int64) (ap ad : Nat → Nat) (r : xR) (po : Int32) (pn : Int32) (pl : Int32) (tx : Nat → Int32) (rp : Int32) (rl : Int32) (rs : Int32) (rm : Int32) (rn : Int32) (rz : Int32) (sv : xPl) (mm : xPl) (qa : Int32) (qb : Int32) (hc : clO r po pn) : xM l g.1 (xT g) yL_setExpo (ws_H yL_setExpo cL_setExpo 5 (some .int) [(0, 10, 13, 13), (0, 10, 17, 15)]) (xRm 8 139 27 198) 27 198 [.ref (ap 0), .int qa, .int qb, .ref ao] (wOu g ao fo ++ (wCl g ap ad r po pn pl tx rp rl rs rm rn rz sv mm)) (fun r9 w9 => ((er_X6_setExpo qa qb) = none ∧ r9 = some (.int 0) ∧ ∃ w8, (∃ adn : Nat → Nat, w8 = (wCl g ap ad (r.set_ke (upd r.ke (Int32.toNatClampNeg qa) qb)) (sp_spo2 po pn) (sp_spn2 pn) pl tx rp rl rs rm rn rz (svS sv adn r po pn) mm)) ∧ w9 = wOu g ao (vp_updL fo 0 (Int32.toInt64 (r.ke (Int32.toNatClampNeg qa)))) ++ w8) ∨ (∃ E cd, (er_X6_setExpo qa qb) = some E ∧ ((E = xIA ∧ cd = 2) ∨ (E = xIO ∧ cd = 1)) ∧ r9 = some (.int cd) ∧ w9 = wOu g ao fo ++ (wCl g ap ad r po pn pl tx rp rl rs rm rn rz sv mm))) (fun _ _ => False) := by
  refine x_startH (own := RL) (nm := "setExpo") rfl rfl (by decide +kernel) rfl (nle rfl) (fun p e σ m args below meth c A C htab hr => ?_)
  refine x_lve (lv' := [(0, .ref (ap 0)), (1, .int qa), (2, .int qb), (3, .ref ao)]) rfl ?_
  refine x_aload_n C 3 rfl rfl dL_setExpo_0 ?_
  refine x_iconst C 0 (by decide) dL_setExpo_1 ?_
  refine x_aload_n C 0 rfl rfl dL_setExpo_2 ?_
  refine x_iload_n C 1 rfl rfl dL_setExpo_3 ?_
  refine x_iload_n C 2 rfl rfl dL_setExpo_4 ?_
  refine x_EV1 (w1 := wOu g ao fo) (wc := (wCl g ap ad r po pn pl tx rp rl rs rm rn rz sv mm)) [.int qa, .int qb] [.int 0, .ref ao] C (k_X6_setExpo l g ap ad r po pn pl tx rp rl rs rm rn rz sv mm qa qb hc) rfl yV_X6_setExpo wML_L_33 1 rfl rfl rfl rfl (nle rfl) (nle rfl) (nle rfl) (nle rfl) (nle rfl) dL_setExpo_5 (fun E w h => ?_) (fun r0 w h => ?_)
  · obtain ⟨hE, rfl⟩ := h
    rcases erc_X6_setExpo hE with rfl | rfl
    · refine x_catch (hh := [(0, 10, 13, 13), (0, 10, 17, 15)]) C htab 17 [⟨0, 10, 13, 13⟩] ⟨0, 10, 17, 15⟩ [] rfl (passC (by decide) wCL_L_13 (by decide) pass0) (by decide) (by decide) wCL_L_15 (by decide) rfl (fun q1 => ?_)
      refine x_astore C [(4, .ref q1), (0, .ref (ap 0)), (1, .int qa), (2, .int qb), (3, .ref ao)] rfl (by decide) dL_setExpo_17 ?_
      refine x_iconst C 2 (by decide) dL_setExpo_19 ?_
      exact x_iret C hr (nle rfl) (nle rfl) dL_setExpo_20 (Or.inr ⟨xIA, 2, hE, Or.inl ⟨rfl, rfl⟩, rfl, rfl⟩)
    · refine x_catch (hh := [(0, 10, 13, 13), (0, 10, 17, 15)]) C htab 13 [] ⟨0, 10, 13, 13⟩ [⟨0, 10, 17, 15⟩] rfl pass0 (by decide) (by decide) wCL_L_13 (by decide) rfl (fun q1 => ?_)
      refine x_astore C [(4, .ref q1), (0, .ref (ap 0)), (1, .int qa), (2, .int qb), (3, .ref ao)] rfl (by decide) dL_setExpo_13 ?_
      refine x_iconst C 1 (by decide) dL_setExpo_15 ?_
      exact x_iret C hr (nle rfl) (nle rfl) dL_setExpo_16 (Or.inr ⟨xIO, 1, hE, Or.inr (⟨rfl, rfl⟩), rfl, rfl⟩)
  · obtain ⟨h1, rfl, hw⟩ := h
    refine x_st (st' := [.int (r.ke (Int32.toNatClampNeg qa)), .int 0, .ref ao]) rfl ?_
    refine x_i2l C dL_setExpo_8 ?_
    refine x_last (f := fo) C 0 3 (wOu g ao (vp_updL fo 0 (Int32.toInt64 (r.ke (Int32.toNatClampNeg qa)))) ++ w) rfl rfl rfl in1 dL_setExpo_9 ?_
    refine x_goto C 21 (by decide) dL_setExpo_10 ?_
    refine x_iconst C 0 (by decide) dL_setExpo_21 ?_
    exact x_iret C hr (nle rfl) (nle rfl) dL_setExpo_22 (Or.inl ⟨h1, rfl, w, hw, rfl⟩)
theorem erc_X6_expo {qa : Int32} {E : String} (h : (er_X6_expo qa) = some E) : E = xIO := by
  unfold er_X6_expo at h
  (repeat' split at h) <;> cases h <;> first | exact rfl | exact Or.inl rfl | exact Or.inr rfl | exact Or.inr (Or.inl rfl) | exact Or.inr (Or.inr rfl)
theorem yH_L_expo : xYH yL_expo cL_expo 4 (some .int) [(0, 9, 12, 13)] 3 := ⟨wCo_L_expo, wIn_L, ⟨by decide, by decide, by decide +kernel⟩, wSta_L_expo⟩
set_option maxRecDepth 100000 in
set_option maxHeartbeats 1000000 in
theorem k_L_expo (l : Launch) (g : xGt) (ao : Nat) (fo : Nat → Int64) (ap ad : Nat → Nat) (r : xR) (po : Int32) (pn : Int32) (pl : Int32) (tx : Nat → Int32) (rp : Int32) (rl : Int32) (rs : Int32) (rm : Int32) (rn : Int32) (rz : Int32) (sv : xPl) (mm : xPl) (qa : Int32) (hc : clO r po pn) : xM l g.1 (xT g) yL_expo (ws_H yL_expo cL_expo 4 (some .int) [(0, 9, 12, 13)]) (xRm 8 135 1 6) 1 6 [.ref (ap 0), .int qa, .ref ao] (wOu g ao fo ++ (wCl g ap ad r po pn pl tx rp rl rs rm rn rz sv mm)) (fun r9 w9 => ((er_X6_expo qa) = none ∧ r9 = some (.int 0) ∧ ∃ w8, (w8 = (wCl g ap ad r po pn pl tx rp rl rs rm rn rz sv mm)) ∧ w9 = wOu g ao (vp_updL fo 0 (Int32.toInt64 (r.ke (Int32.toNatClampNeg qa)))) ++ w8) ∨ (∃ E cd, (er_X6_expo qa) = some E ∧ ((E = xIO ∧ cd = 1)) ∧ r9 = some (.int cd) ∧ w9 = wOu g ao fo ++ (wCl g ap ad r po pn pl tx rp rl rs rm rn rz sv mm))) (fun _ _ => False) := by
  refine x_startH (own := RL) (nm := "expo") rfl rfl (by decide +kernel) rfl (nle rfl) (fun p e σ m args below meth c A C htab hr => ?_)
  refine x_lve (lv' := [(0, .ref (ap 0)), (1, .int qa), (2, .ref ao)]) rfl ?_
  refine x_aload_n C 2 rfl rfl dL_expo_0 ?_
  refine x_iconst C 0 (by decide) dL_expo_1 ?_
  refine x_aload_n C 0 rfl rfl dL_expo_2 ?_
  refine x_iload_n C 1 rfl rfl dL_expo_3 ?_
  refine x_EV1 (w1 := wOu g ao fo) (wc := (wCl g ap ad r po pn pl tx rp rl rs rm rn rz sv mm)) [.int qa] [.int 0, .ref ao] C (k_X6_expo l g ap ad r po pn pl tx rp rl rs rm rn rz sv mm qa hc) rfl yV_X6_expo wML_L_36 1 rfl rfl rfl rfl (nle rfl) (nle rfl) (nle rfl) (nle rfl) (nle rfl) dL_expo_4 (fun E w h => ?_) (fun r0 w h => ?_)
  · obtain ⟨hE, rfl⟩ := h
    obtain rfl := erc_X6_expo hE
    refine x_catch (hh := [(0, 9, 12, 13)]) C htab 12 [] ⟨0, 9, 12, 13⟩ [] rfl pass0 (by decide) (by decide) wCL_L_13 (by decide) rfl (fun q1 => ?_)
    refine x_astore_n C [(3, .ref q1), (0, .ref (ap 0)), (1, .int qa), (2, .ref ao)] rfl rfl (by decide) dL_expo_12 ?_
    refine x_iconst C 1 (by decide) dL_expo_13 ?_
    exact x_iret C hr (nle rfl) (nle rfl) dL_expo_14 (Or.inr ⟨xIO, 1, hE, ⟨rfl, rfl⟩, rfl, rfl⟩)
  · obtain ⟨h1, rfl, hw⟩ := h
    refine x_st (st' := [.int (r.ke (Int32.toNatClampNeg qa)), .int 0, .ref ao]) rfl ?_
    refine x_i2l C dL_expo_7 ?_
    refine x_last (f := fo) C 0 3 (wOu g ao (vp_updL fo 0 (Int32.toInt64 (r.ke (Int32.toNatClampNeg qa)))) ++ w) rfl rfl rfl in1 dL_expo_8 ?_
    refine x_goto C 15 (by decide) dL_expo_9 ?_
    refine x_iconst C 0 (by decide) dL_expo_15 ?_
    exact x_iret C hr (nle rfl) (nle rfl) dL_expo_16 (Or.inl ⟨h1, rfl, w, hw, rfl⟩)
theorem erc_X6_command {qa : Int32} {E : String} (h : (er_X6_command qa) = some E) : E = xIO := by
  unfold er_X6_command at h
  (repeat' split at h) <;> cases h <;> first | exact rfl | exact Or.inl rfl | exact Or.inr rfl | exact Or.inr (Or.inl rfl) | exact Or.inr (Or.inr rfl)
theorem yH_L_command : xYH yL_command cL_command 4 (some .int) [(0, 9, 12, 13)] 3 := ⟨wCo_L_command, wIn_L, ⟨by decide, by decide, by decide +kernel⟩, wSta_L_command⟩
set_option maxRecDepth 100000 in
set_option maxHeartbeats 1000000 in
theorem k_L_command (l : Launch) (g : xGt) (ao : Nat) (fo : Nat → Int64) (ap ad : Nat → Nat) (r : xR) (po : Int32) (pn : Int32) (pl : Int32) (tx : Nat → Int32) (rp : Int32) (rl : Int32) (rs : Int32) (rm : Int32) (rn : Int32) (rz : Int32) (sv : xPl) (mm : xPl) (qa : Int32) (hc : clO r po pn) : xM l g.1 (xT g) yL_command (ws_H yL_command cL_command 4 (some .int) [(0, 9, 12, 13)]) (xRm 8 135 1 6) 1 6 [.ref (ap 0), .int qa, .ref ao] (wOu g ao fo ++ (wCl g ap ad r po pn pl tx rp rl rs rm rn rz sv mm)) (fun r9 w9 => ((er_X6_command qa) = none ∧ r9 = some (.int 0) ∧ ∃ w8, (w8 = (wCl g ap ad r po pn pl tx rp rl rs rm rn rz sv mm)) ∧ w9 = wOu g ao (vp_updL fo 0 (Int32.toInt64 (sp_X5_commandOf r.kp r.ke r.kr r.kt r.kh r.kc (Int32.toNatClampNeg qa)))) ++ w8) ∨ (∃ E cd, (er_X6_command qa) = some E ∧ ((E = xIO ∧ cd = 1)) ∧ r9 = some (.int cd) ∧ w9 = wOu g ao fo ++ (wCl g ap ad r po pn pl tx rp rl rs rm rn rz sv mm))) (fun _ _ => False) := by
  refine x_startH (own := RL) (nm := "command") rfl rfl (by decide +kernel) rfl (nle rfl) (fun p e σ m args below meth c A C htab hr => ?_)
  refine x_lve (lv' := [(0, .ref (ap 0)), (1, .int qa), (2, .ref ao)]) rfl ?_
  refine x_aload_n C 2 rfl rfl dL_command_0 ?_
  refine x_iconst C 0 (by decide) dL_command_1 ?_
  refine x_aload_n C 0 rfl rfl dL_command_2 ?_
  refine x_iload_n C 1 rfl rfl dL_command_3 ?_
  refine x_EV1 (w1 := wOu g ao fo) (wc := (wCl g ap ad r po pn pl tx rp rl rs rm rn rz sv mm)) [.int qa] [.int 0, .ref ao] C (k_X6_command l g ap ad r po pn pl tx rp rl rs rm rn rz sv mm qa hc) rfl yV_X6_command wML_L_39 1 rfl rfl rfl rfl (nle rfl) (nle rfl) (nle rfl) (nle rfl) (nle rfl) dL_command_4 (fun E w h => ?_) (fun r0 w h => ?_)
  · obtain ⟨hE, rfl⟩ := h
    obtain rfl := erc_X6_command hE
    refine x_catch (hh := [(0, 9, 12, 13)]) C htab 12 [] ⟨0, 9, 12, 13⟩ [] rfl pass0 (by decide) (by decide) wCL_L_13 (by decide) rfl (fun q1 => ?_)
    refine x_astore_n C [(3, .ref q1), (0, .ref (ap 0)), (1, .int qa), (2, .ref ao)] rfl rfl (by decide) dL_command_12 ?_
    refine x_iconst C 1 (by decide) dL_command_13 ?_
    exact x_iret C hr (nle rfl) (nle rfl) dL_command_14 (Or.inr ⟨xIO, 1, hE, ⟨rfl, rfl⟩, rfl, rfl⟩)
  · obtain ⟨h1, rfl, hw⟩ := h
    refine x_st (st' := [.int (sp_X5_commandOf r.kp r.ke r.kr r.kt r.kh r.kc (Int32.toNatClampNeg qa)), .int 0, .ref ao]) rfl ?_
    refine x_i2l C dL_command_7 ?_
    refine x_last (f := fo) C 0 3 (wOu g ao (vp_updL fo 0 (Int32.toInt64 (sp_X5_commandOf r.kp r.ke r.kr r.kt r.kh r.kc (Int32.toNatClampNeg qa)))) ++ w) rfl rfl rfl in1 dL_command_8 ?_
    refine x_goto C 15 (by decide) dL_command_9 ?_
    refine x_iconst C 0 (by decide) dL_command_15 ?_
    exact x_iret C hr (nle rfl) (nle rfl) dL_command_16 (Or.inl ⟨h1, rfl, w, hw, rfl⟩)
theorem erc_X6_addMix {r : xR} {qa : Int32} {qb : Int32} {qc : Int32} {qd : Int32} {qe : Int32} {E : String} (h : (er_X6_addMix r qa qb qc qd qe) = some E) : E = xIA ∨ E = xIO ∨ E = xIS := by
  unfold er_X6_addMix at h
  (repeat' split at h) <;> cases h <;> first | exact rfl | exact Or.inl rfl | exact Or.inr rfl | exact Or.inr (Or.inl rfl) | exact Or.inr (Or.inr rfl)
theorem yH_L_addMix : xYH yL_addMix cL_addMix 8 (some .int) [(0, 16, 19, 13), (0, 16, 23, 15), (0, 16, 27, 46)] 7 := ⟨wCo_L_addMix, wIn_L, ⟨by decide, by decide, by decide +kernel⟩, wSta_L_addMix⟩
set_option maxRecDepth 100000 in
set_option maxHeartbeats 1000000 in
theorem k_L_addMix (l : Launch) (g : xGt) (ao : Nat) (fo : Nat → Int64) (ap ad : Nat → Nat) (r : xR) (po : Int32) (pn : Int32) (pl : Int32) (tx : Nat → Int32) (rp : Int32) (rl : Int32) (rs : Int32) (rm : Int32) (rn : Int32) (rz : Int32) (sv : xPl) (mm : xPl) (qa : Int32) (qb : Int32) (qc : Int32) (qd : Int32) (qe : Int32) (hc : clO r po pn) : xM l g.1 (xT g) yL_addMix (ws_H yL_addMix cL_addMix 8 (some .int) [(0, 16, 19, 13), (0, 16, 23, 15), (0, 16, 27, 46)]) (xRm 8 141 31 222) 31 222 [.ref (ap 0), .int qa, .int qb, .int qc, .int qd, .int qe, .ref ao] (wOu g ao fo ++ (wCl g ap ad r po pn pl tx rp rl rs rm rn rz sv mm)) (fun r9 w9 => ((er_X6_addMix r qa qb qc qd qe) = none ∧ r9 = some (.int 0) ∧ ∃ w8, (∃ adn : Nat → Nat, w8 = (wCl g ap ad (xRk r.kp r.ke r.kr r.kt r.kh r.kc (sp_X2_put_xn r.xn) (sp_X2_put_xs r.xn r.xs qa) (sp_X2_put_xv r.xn r.xv qb) (sp_X2_put_xh r.xn r.xh qc) (sp_X2_put_xo r.xn r.xo qd) (sp_X2_put_xc r.xn r.xc qe) r.vd r.vn r.vl r.vu r.vs r.vm r.vp r.vt r.va r.vw r.jd r.jb r.jc r.js r.jl r.jx r.ji r.jf r.jn r.dq) (sp_spo2 po pn) (sp_spn2 pn) pl tx rp rl rs rm rn rz (svS sv adn r po pn) mm)) ∧ w9 = wOu g ao (vp_updL fo 0 (Int32.toInt64 ((sp_X2_put_xn r.xn) - 1))) ++ w8) ∨ (∃ E cd, (er_X6_addMix r qa qb qc qd qe) = some E ∧ ((E = xIA ∧ cd = 2) ∨ (E = xIO ∧ cd = 1) ∨ (E = xIS ∧ cd = 3)) ∧ r9 = some (.int cd) ∧ w9 = wOu g ao fo ++ (wCl g ap ad r po pn pl tx rp rl rs rm rn rz sv mm))) (fun _ _ => False) := by
  refine x_startH (own := RL) (nm := "addMix") rfl rfl (by decide +kernel) rfl (nle rfl) (fun p e σ m args below meth c A C htab hr => ?_)
  refine x_lve (lv' := [(0, .ref (ap 0)), (1, .int qa), (2, .int qb), (3, .int qc), (4, .int qd), (5, .int qe), (6, .ref ao)]) rfl ?_
  refine x_aload C 6 rfl dL_addMix_0 ?_
  refine x_iconst C 0 (by decide) dL_addMix_2 ?_
  refine x_aload_n C 0 rfl rfl dL_addMix_3 ?_
  refine x_iload_n C 1 rfl rfl dL_addMix_4 ?_
  refine x_iload_n C 2 rfl rfl dL_addMix_5 ?_
  refine x_iload_n C 3 rfl rfl dL_addMix_6 ?_
  refine x_iload C 4 rfl dL_addMix_7 ?_
  refine x_iload C 5 rfl dL_addMix_9 ?_
  refine x_EV1 (w1 := wOu g ao fo) (wc := (wCl g ap ad r po pn pl tx rp rl rs rm rn rz sv mm)) [.int qa, .int qb, .int qc, .int qd, .int qe] [.int 0, .ref ao] C (k_X6_addMix l g ap ad r po pn pl tx rp rl rs rm rn rz sv mm qa qb qc qd qe hc) rfl yV_X6_addMix wML_L_42 1 rfl rfl rfl rfl (nle rfl) (nle rfl) (nle rfl) (nle rfl) (nle rfl) dL_addMix_11 (fun E w h => ?_) (fun r0 w h => ?_)
  · obtain ⟨hE, rfl⟩ := h
    rcases erc_X6_addMix hE with rfl | rfl | rfl
    · refine x_catch (hh := [(0, 16, 19, 13), (0, 16, 23, 15), (0, 16, 27, 46)]) C htab 23 [⟨0, 16, 19, 13⟩] ⟨0, 16, 23, 15⟩ [⟨0, 16, 27, 46⟩] rfl (passC (by decide) wCL_L_13 (by decide) pass0) (by decide) (by decide) wCL_L_15 (by decide) rfl (fun q1 => ?_)
      refine x_astore C [(7, .ref q1), (0, .ref (ap 0)), (1, .int qa), (2, .int qb), (3, .int qc), (4, .int qd), (5, .int qe), (6, .ref ao)] rfl (by decide) dL_addMix_23 ?_
      refine x_iconst C 2 (by decide) dL_addMix_25 ?_
      exact x_iret C hr (nle rfl) (nle rfl) dL_addMix_26 (Or.inr ⟨xIA, 2, hE, Or.inl ⟨rfl, rfl⟩, rfl, rfl⟩)
    · refine x_catch (hh := [(0, 16, 19, 13), (0, 16, 23, 15), (0, 16, 27, 46)]) C htab 19 [] ⟨0, 16, 19, 13⟩ [⟨0, 16, 23, 15⟩, ⟨0, 16, 27, 46⟩] rfl pass0 (by decide) (by decide) wCL_L_13 (by decide) rfl (fun q1 => ?_)
      refine x_astore C [(7, .ref q1), (0, .ref (ap 0)), (1, .int qa), (2, .int qb), (3, .int qc), (4, .int qd), (5, .int qe), (6, .ref ao)] rfl (by decide) dL_addMix_19 ?_
      refine x_iconst C 1 (by decide) dL_addMix_21 ?_
      exact x_iret C hr (nle rfl) (nle rfl) dL_addMix_22 (Or.inr ⟨xIO, 1, hE, Or.inr (Or.inl ⟨rfl, rfl⟩), rfl, rfl⟩)
    · refine x_catch (hh := [(0, 16, 19, 13), (0, 16, 23, 15), (0, 16, 27, 46)]) C htab 27 [⟨0, 16, 19, 13⟩, ⟨0, 16, 23, 15⟩] ⟨0, 16, 27, 46⟩ [] rfl (passC (by decide) wCL_L_13 (by decide) (passC (by decide) wCL_L_15 (by decide) pass0)) (by decide) (by decide) wCL_L_46 (by decide) rfl (fun q1 => ?_)
      refine x_astore C [(7, .ref q1), (0, .ref (ap 0)), (1, .int qa), (2, .int qb), (3, .int qc), (4, .int qd), (5, .int qe), (6, .ref ao)] rfl (by decide) dL_addMix_27 ?_
      refine x_iconst C 3 (by decide) dL_addMix_29 ?_
      exact x_iret C hr (nle rfl) (nle rfl) dL_addMix_30 (Or.inr ⟨xIS, 3, hE, Or.inr (Or.inr (⟨rfl, rfl⟩)), rfl, rfl⟩)
  · obtain ⟨h1, rfl, hw⟩ := h
    refine x_st (st' := [.int ((sp_X2_put_xn r.xn) - 1), .int 0, .ref ao]) rfl ?_
    refine x_i2l C dL_addMix_14 ?_
    refine x_last (f := fo) C 0 3 (wOu g ao (vp_updL fo 0 (Int32.toInt64 ((sp_X2_put_xn r.xn) - 1))) ++ w) rfl rfl rfl in1 dL_addMix_15 ?_
    refine x_goto C 31 (by decide) dL_addMix_16 ?_
    refine x_iconst C 0 (by decide) dL_addMix_31 ?_
    exact x_iret C hr (nle rfl) (nle rfl) dL_addMix_32 (Or.inl ⟨h1, rfl, w, hw, rfl⟩)
theorem erc_X6_removeMix {r : xR} {qa : Int32} {E : String} (h : (er_X6_removeMix r qa) = some E) : E = xIO := by
  unfold er_X6_removeMix at h
  (repeat' split at h) <;> cases h <;> first | exact rfl | exact Or.inl rfl | exact Or.inr rfl | exact Or.inr (Or.inl rfl) | exact Or.inr (Or.inr rfl)
theorem yH_L_removeMix : xYH yL_removeMix cL_removeMix 4 (some .int) [(0, 9, 12, 13)] 3 := ⟨wCo_L_removeMix, wIn_L, ⟨by decide, by decide, by decide +kernel⟩, wSta_L_removeMix⟩
set_option maxRecDepth 100000 in
set_option maxHeartbeats 1000000 in
theorem k_L_removeMix (l : Launch) (g : xGt) (ao : Nat) (fo : Nat → Int64) (ap ad : Nat → Nat) (r : xR) (po : Int32) (pn : Int32) (pl : Int32) (tx : Nat → Int32) (rp : Int32) (rl : Int32) (rs : Int32) (rm : Int32) (rn : Int32) (rz : Int32) (sv : xPl) (mm : xPl) (qa : Int32) (hc : clO r po pn) : xM l g.1 (xT g) yL_removeMix (ws_H yL_removeMix cL_removeMix 4 (some .int) [(0, 9, 12, 13)]) (xRm 8 136 26 192) 26 192 [.ref (ap 0), .int qa, .ref ao] (wOu g ao fo ++ (wCl g ap ad r po pn pl tx rp rl rs rm rn rz sv mm)) (fun r9 w9 => ((er_X6_removeMix r qa) = none ∧ r9 = some (.int 0) ∧ ∃ w8, (∃ adn : Nat → Nat, w8 = (wCl g ap ad (xRk r.kp r.ke r.kr r.kt r.kh r.kc (r.xn - 1) (sp_X6_removeMix_xs r qa) (sp_X6_removeMix_xv r qa) (sp_X6_removeMix_xh r qa) (sp_X6_removeMix_xo r qa) (sp_X6_removeMix_xc r qa) r.vd r.vn r.vl r.vu r.vs r.vm r.vp r.vt r.va r.vw r.jd r.jb r.jc r.js r.jl r.jx r.ji r.jf r.jn r.dq) (sp_spo2 po pn) (sp_spn2 pn) pl tx rp rl rs rm rn rz (svS sv adn r po pn) mm)) ∧ w9 = wOu g ao (vp_updL fo 0 (Int32.toInt64 (r.xn - 1))) ++ w8) ∨ (∃ E cd, (er_X6_removeMix r qa) = some E ∧ ((E = xIO ∧ cd = 1)) ∧ r9 = some (.int cd) ∧ w9 = wOu g ao fo ++ (wCl g ap ad r po pn pl tx rp rl rs rm rn rz sv mm))) (fun _ _ => False) := by
  refine x_startH (own := RL) (nm := "removeMix") rfl rfl (by decide +kernel) rfl (nle rfl) (fun p e σ m args below meth c A C htab hr => ?_)
  refine x_lve (lv' := [(0, .ref (ap 0)), (1, .int qa), (2, .ref ao)]) rfl ?_
  refine x_aload_n C 2 rfl rfl dL_removeMix_0 ?_
  refine x_iconst C 0 (by decide) dL_removeMix_1 ?_
  refine x_aload_n C 0 rfl rfl dL_removeMix_2 ?_
  refine x_iload_n C 1 rfl rfl dL_removeMix_3 ?_
  refine x_EV1 (w1 := wOu g ao fo) (wc := (wCl g ap ad r po pn pl tx rp rl rs rm rn rz sv mm)) [.int qa] [.int 0, .ref ao] C (k_X6_removeMix l g ap ad r po pn pl tx rp rl rs rm rn rz sv mm qa hc) rfl yV_X6_removeMix wML_L_48 1 rfl rfl rfl rfl (nle rfl) (nle rfl) (nle rfl) (nle rfl) (nle rfl) dL_removeMix_4 (fun E w h => ?_) (fun r0 w h => ?_)
  · obtain ⟨hE, rfl⟩ := h
    obtain rfl := erc_X6_removeMix hE
    refine x_catch (hh := [(0, 9, 12, 13)]) C htab 12 [] ⟨0, 9, 12, 13⟩ [] rfl pass0 (by decide) (by decide) wCL_L_13 (by decide) rfl (fun q1 => ?_)
    refine x_astore_n C [(3, .ref q1), (0, .ref (ap 0)), (1, .int qa), (2, .ref ao)] rfl rfl (by decide) dL_removeMix_12 ?_
    refine x_iconst C 1 (by decide) dL_removeMix_13 ?_
    exact x_iret C hr (nle rfl) (nle rfl) dL_removeMix_14 (Or.inr ⟨xIO, 1, hE, ⟨rfl, rfl⟩, rfl, rfl⟩)
  · obtain ⟨h1, rfl, hw⟩ := h
    refine x_st (st' := [.int (r.xn - 1), .int 0, .ref ao]) rfl ?_
    refine x_i2l C dL_removeMix_7 ?_
    refine x_last (f := fo) C 0 3 (wOu g ao (vp_updL fo 0 (Int32.toInt64 (r.xn - 1))) ++ w) rfl rfl rfl in1 dL_removeMix_8 ?_
    refine x_goto C 15 (by decide) dL_removeMix_9 ?_
    refine x_iconst C 0 (by decide) dL_removeMix_15 ?_
    exact x_iret C hr (nle rfl) (nle rfl) dL_removeMix_16 (Or.inl ⟨h1, rfl, w, hw, rfl⟩)
theorem erc_X6_clearMixes {qa : Int32} {E : String} (h : (er_X6_clearMixes qa) = some E) : E = xIO := by
  unfold er_X6_clearMixes at h
  (repeat' split at h) <;> cases h <;> first | exact rfl | exact Or.inl rfl | exact Or.inr rfl | exact Or.inr (Or.inl rfl) | exact Or.inr (Or.inr rfl)
theorem yH_L_clearMixes : xYH yL_clearMixes cL_clearMixes 4 (some .int) [(0, 9, 12, 13)] 3 := ⟨wCo_L_clearMixes, wIn_L, ⟨by decide, by decide, by decide +kernel⟩, wSta_L_clearMixes⟩
set_option maxRecDepth 100000 in
set_option maxHeartbeats 1000000 in
theorem k_L_clearMixes (l : Launch) (g : xGt) (ao : Nat) (fo : Nat → Int64) (ap ad : Nat → Nat) (r : xR) (po : Int32) (pn : Int32) (pl : Int32) (tx : Nat → Int32) (rp : Int32) (rl : Int32) (rs : Int32) (rm : Int32) (rn : Int32) (rz : Int32) (sv : xPl) (mm : xPl) (qa : Int32) (hc : clO r po pn) : xM l g.1 (xT g) yL_clearMixes (ws_H yL_clearMixes cL_clearMixes 4 (some .int) [(0, 9, 12, 13)]) (xRm 8 135 26 192) 26 192 [.ref (ap 0), .int qa, .ref ao] (wOu g ao fo ++ (wCl g ap ad r po pn pl tx rp rl rs rm rn rz sv mm)) (fun r9 w9 => ((er_X6_clearMixes qa) = none ∧ r9 = some (.int 0) ∧ ∃ w8, (∃ adn : Nat → Nat, w8 = (wCl g ap ad (xRk r.kp r.ke r.kr r.kt r.kh r.kc ((sp_dal qa r.xs r.xv r.xh r.xo r.xc 0 (Int32.toNatClampNeg r.xn)).2.2.2.2.2) ((sp_dal qa r.xs r.xv r.xh r.xo r.xc 0 (Int32.toNatClampNeg r.xn)).1) ((sp_dal qa r.xs r.xv r.xh r.xo r.xc 0 (Int32.toNatClampNeg r.xn)).2.1) ((sp_dal qa r.xs r.xv r.xh r.xo r.xc 0 (Int32.toNatClampNeg r.xn)).2.2.1) ((sp_dal qa r.xs r.xv r.xh r.xo r.xc 0 (Int32.toNatClampNeg r.xn)).2.2.2.1) ((sp_dal qa r.xs r.xv r.xh r.xo r.xc 0 (Int32.toNatClampNeg r.xn)).2.2.2.2.1) r.vd r.vn r.vl r.vu r.vs r.vm r.vp r.vt r.va r.vw r.jd r.jb r.jc r.js r.jl r.jx r.ji r.jf r.jn r.dq) (sp_spo2 po pn) (sp_spn2 pn) pl tx rp rl rs rm rn rz (svS sv adn r po pn) mm)) ∧ w9 = wOu g ao (vp_updL fo 0 (Int32.toInt64 (r.xn - ((sp_dal qa r.xs r.xv r.xh r.xo r.xc 0 (Int32.toNatClampNeg r.xn)).2.2.2.2.2)))) ++ w8) ∨ (∃ E cd, (er_X6_clearMixes qa) = some E ∧ ((E = xIO ∧ cd = 1)) ∧ r9 = some (.int cd) ∧ w9 = wOu g ao fo ++ (wCl g ap ad r po pn pl tx rp rl rs rm rn rz sv mm))) (fun _ _ => False) := by
  refine x_startH (own := RL) (nm := "clearMixes") rfl rfl (by decide +kernel) rfl (nle rfl) (fun p e σ m args below meth c A C htab hr => ?_)
  refine x_lve (lv' := [(0, .ref (ap 0)), (1, .int qa), (2, .ref ao)]) rfl ?_
  refine x_aload_n C 2 rfl rfl dL_clearMixes_0 ?_
  refine x_iconst C 0 (by decide) dL_clearMixes_1 ?_
  refine x_aload_n C 0 rfl rfl dL_clearMixes_2 ?_
  refine x_iload_n C 1 rfl rfl dL_clearMixes_3 ?_
  refine x_EV1 (w1 := wOu g ao fo) (wc := (wCl g ap ad r po pn pl tx rp rl rs rm rn rz sv mm)) [.int qa] [.int 0, .ref ao] C (k_X6_clearMixes l g ap ad r po pn pl tx rp rl rs rm rn rz sv mm qa hc) rfl yV_X6_clearMixes wML_L_51 1 rfl rfl rfl rfl (nle rfl) (nle rfl) (nle rfl) (nle rfl) (nle rfl) dL_clearMixes_4 (fun E w h => ?_) (fun r0 w h => ?_)
  · obtain ⟨hE, rfl⟩ := h
    obtain rfl := erc_X6_clearMixes hE
    refine x_catch (hh := [(0, 9, 12, 13)]) C htab 12 [] ⟨0, 9, 12, 13⟩ [] rfl pass0 (by decide) (by decide) wCL_L_13 (by decide) rfl (fun q1 => ?_)
    refine x_astore_n C [(3, .ref q1), (0, .ref (ap 0)), (1, .int qa), (2, .ref ao)] rfl rfl (by decide) dL_clearMixes_12 ?_
    refine x_iconst C 1 (by decide) dL_clearMixes_13 ?_
    exact x_iret C hr (nle rfl) (nle rfl) dL_clearMixes_14 (Or.inr ⟨xIO, 1, hE, ⟨rfl, rfl⟩, rfl, rfl⟩)
  · obtain ⟨h1, rfl, hw⟩ := h
    refine x_st (st' := [.int (r.xn - ((sp_dal qa r.xs r.xv r.xh r.xo r.xc 0 (Int32.toNatClampNeg r.xn)).2.2.2.2.2)), .int 0, .ref ao]) rfl ?_
    refine x_i2l C dL_clearMixes_7 ?_
    refine x_last (f := fo) C 0 3 (wOu g ao (vp_updL fo 0 (Int32.toInt64 (r.xn - ((sp_dal qa r.xs r.xv r.xh r.xo r.xc 0 (Int32.toNatClampNeg r.xn)).2.2.2.2.2)))) ++ w) rfl rfl rfl in1 dL_clearMixes_8 ?_
    refine x_goto C 15 (by decide) dL_clearMixes_9 ?_
    refine x_iconst C 0 (by decide) dL_clearMixes_15 ?_
    exact x_iret C hr (nle rfl) (nle rfl) dL_clearMixes_16 (Or.inl ⟨h1, rfl, w, hw, rfl⟩)
theorem erc_X6_elevons {r : xR} {qa : Int32} {qb : Int32} {qc : Int32} {E : String} (h : (er_X6_elevons r qa qb qc) = some E) : E = xIA ∨ E = xIO ∨ E = xIS := by
  unfold er_X6_elevons at h
  (repeat' split at h) <;> cases h <;> first | exact rfl | exact Or.inl rfl | exact Or.inr rfl | exact Or.inr (Or.inl rfl) | exact Or.inr (Or.inr rfl)
theorem yH_L_elevons : xYH yL_elevons cL_elevons 6 (some .int) [(0, 12, 15, 13), (0, 12, 19, 15), (0, 12, 23, 46)] 5 := ⟨wCo_L_elevons, wIn_L, ⟨by decide, by decide, by decide +kernel⟩, wSta_L_elevons⟩
set_option maxRecDepth 100000 in
set_option maxHeartbeats 1000000 in
theorem k_L_elevons (l : Launch) (g : xGt) (ao : Nat) (fo : Nat → Int64) (ap ad : Nat → Nat) (r : xR) (po : Int32) (pn : Int32) (pl : Int32) (tx : Nat → Int32) (rp : Int32) (rl : Int32) (rs : Int32) (rm : Int32) (rn : Int32) (rz : Int32) (sv : xPl) (mm : xPl) (qa : Int32) (qb : Int32) (qc : Int32) (hc : clO r po pn) : xM l g.1 (xT g) yL_elevons (ws_H yL_elevons cL_elevons 6 (some .int) [(0, 12, 15, 13), (0, 12, 19, 15), (0, 12, 23, 46)]) (xRm 8 139 29 210) 29 210 [.ref (ap 0), .int qa, .int qb, .int qc, .ref ao] (wOu g ao fo ++ (wCl g ap ad r po pn pl tx rp rl rs rm rn rz sv mm)) (fun r9 w9 => ((er_X6_elevons r qa qb qc) = none ∧ r9 = some (.int 0) ∧ ∃ w8, (∃ adn : Nat → Nat, w8 = (wCl g ap ad (xRk r.kp r.ke r.kr r.kt r.kh r.kc (sp_el4_xn r) (sp_el4_xs r) (sp_el4_xv r qa qb) (sp_el4_xh r qc) (sp_el4_xo r) (sp_el4_xc r) r.vd r.vn r.vl r.vu r.vs r.vm r.vp r.vt r.va r.vw r.jd r.jb r.jc r.js r.jl r.jx r.ji r.jf r.jn r.dq) (sp_spo2 po pn) (sp_spn2 pn) pl tx rp rl rs rm rn rz (svS sv adn r po pn) mm)) ∧ w9 = wOu g ao (vp_updL fo 0 (Int32.toInt64 (sp_el4_xn r))) ++ w8) ∨ (∃ E cd, (er_X6_elevons r qa qb qc) = some E ∧ ((E = xIA ∧ cd = 2) ∨ (E = xIO ∧ cd = 1) ∨ (E = xIS ∧ cd = 3)) ∧ r9 = some (.int cd) ∧ w9 = wOu g ao fo ++ (wCl g ap ad r po pn pl tx rp rl rs rm rn rz sv mm))) (fun _ _ => False) := by
  refine x_startH (own := RL) (nm := "elevons") rfl rfl (by decide +kernel) rfl (nle rfl) (fun p e σ m args below meth c A C htab hr => ?_)
  refine x_lve (lv' := [(0, .ref (ap 0)), (1, .int qa), (2, .int qb), (3, .int qc), (4, .ref ao)]) rfl ?_
  refine x_aload C 4 rfl dL_elevons_0 ?_
  refine x_iconst C 0 (by decide) dL_elevons_2 ?_
  refine x_aload_n C 0 rfl rfl dL_elevons_3 ?_
  refine x_iload_n C 1 rfl rfl dL_elevons_4 ?_
  refine x_iload_n C 2 rfl rfl dL_elevons_5 ?_
  refine x_iload_n C 3 rfl rfl dL_elevons_6 ?_
  refine x_EV1 (w1 := wOu g ao fo) (wc := (wCl g ap ad r po pn pl tx rp rl rs rm rn rz sv mm)) [.int qa, .int qb, .int qc] [.int 0, .ref ao] C (k_X6_elevons l g ap ad r po pn pl tx rp rl rs rm rn rz sv mm qa qb qc hc) rfl yV_X6_elevons wML_L_54 1 rfl rfl rfl rfl (nle rfl) (nle rfl) (nle rfl) (nle rfl) (nle rfl) dL_elevons_7 (fun E w h => ?_) (fun r0 w h => ?_)
  · obtain ⟨hE, rfl⟩ := h
    rcases erc_X6_elevons hE with rfl | rfl | rfl
    · refine x_catch (hh := [(0, 12, 15, 13), (0, 12, 19, 15), (0, 12, 23, 46)]) C htab 19 [⟨0, 12, 15, 13⟩] ⟨0, 12, 19, 15⟩ [⟨0, 12, 23, 46⟩] rfl (passC (by decide) wCL_L_13 (by decide) pass0) (by decide) (by decide) wCL_L_15 (by decide) rfl (fun q1 => ?_)
      refine x_astore C [(5, .ref q1), (0, .ref (ap 0)), (1, .int qa), (2, .int qb), (3, .int qc), (4, .ref ao)] rfl (by decide) dL_elevons_19 ?_
      refine x_iconst C 2 (by decide) dL_elevons_21 ?_
      exact x_iret C hr (nle rfl) (nle rfl) dL_elevons_22 (Or.inr ⟨xIA, 2, hE, Or.inl ⟨rfl, rfl⟩, rfl, rfl⟩)
    · refine x_catch (hh := [(0, 12, 15, 13), (0, 12, 19, 15), (0, 12, 23, 46)]) C htab 15 [] ⟨0, 12, 15, 13⟩ [⟨0, 12, 19, 15⟩, ⟨0, 12, 23, 46⟩] rfl pass0 (by decide) (by decide) wCL_L_13 (by decide) rfl (fun q1 => ?_)
      refine x_astore C [(5, .ref q1), (0, .ref (ap 0)), (1, .int qa), (2, .int qb), (3, .int qc), (4, .ref ao)] rfl (by decide) dL_elevons_15 ?_
      refine x_iconst C 1 (by decide) dL_elevons_17 ?_
      exact x_iret C hr (nle rfl) (nle rfl) dL_elevons_18 (Or.inr ⟨xIO, 1, hE, Or.inr (Or.inl ⟨rfl, rfl⟩), rfl, rfl⟩)
    · refine x_catch (hh := [(0, 12, 15, 13), (0, 12, 19, 15), (0, 12, 23, 46)]) C htab 23 [⟨0, 12, 15, 13⟩, ⟨0, 12, 19, 15⟩] ⟨0, 12, 23, 46⟩ [] rfl (passC (by decide) wCL_L_13 (by decide) (passC (by decide) wCL_L_15 (by decide) pass0)) (by decide) (by decide) wCL_L_46 (by decide) rfl (fun q1 => ?_)
      refine x_astore C [(5, .ref q1), (0, .ref (ap 0)), (1, .int qa), (2, .int qb), (3, .int qc), (4, .ref ao)] rfl (by decide) dL_elevons_23 ?_
      refine x_iconst C 3 (by decide) dL_elevons_25 ?_
      exact x_iret C hr (nle rfl) (nle rfl) dL_elevons_26 (Or.inr ⟨xIS, 3, hE, Or.inr (Or.inr (⟨rfl, rfl⟩)), rfl, rfl⟩)
  · obtain ⟨h1, rfl, hw⟩ := h
    refine x_st (st' := [.int (sp_el4_xn r), .int 0, .ref ao]) rfl ?_
    refine x_i2l C dL_elevons_10 ?_
    refine x_last (f := fo) C 0 3 (wOu g ao (vp_updL fo 0 (Int32.toInt64 (sp_el4_xn r))) ++ w) rfl rfl rfl in1 dL_elevons_11 ?_
    refine x_goto C 27 (by decide) dL_elevons_12 ?_
    refine x_iconst C 0 (by decide) dL_elevons_27 ?_
    exact x_iret C hr (nle rfl) (nle rfl) dL_elevons_28 (Or.inl ⟨h1, rfl, w, hw, rfl⟩)
theorem erc_X6_mixSource {r : xR} {qa : Int32} {E : String} (h : (er_X6_mixSource r qa) = some E) : E = xIO := by
  unfold er_X6_mixSource at h
  (repeat' split at h) <;> cases h <;> first | exact rfl | exact Or.inl rfl | exact Or.inr rfl | exact Or.inr (Or.inl rfl) | exact Or.inr (Or.inr rfl)
theorem yH_L_mixSource : xYH yL_mixSource cL_mixSource 4 (some .int) [(0, 9, 12, 13)] 3 := ⟨wCo_L_mixSource, wIn_L, ⟨by decide, by decide, by decide +kernel⟩, wSta_L_mixSource⟩
set_option maxRecDepth 100000 in
set_option maxHeartbeats 1000000 in
theorem k_L_mixSource (l : Launch) (g : xGt) (ao : Nat) (fo : Nat → Int64) (ap ad : Nat → Nat) (r : xR) (po : Int32) (pn : Int32) (pl : Int32) (tx : Nat → Int32) (rp : Int32) (rl : Int32) (rs : Int32) (rm : Int32) (rn : Int32) (rz : Int32) (sv : xPl) (mm : xPl) (qa : Int32) (hc : clO r po pn) : xM l g.1 (xT g) yL_mixSource (ws_H yL_mixSource cL_mixSource 4 (some .int) [(0, 9, 12, 13)]) (xRm 8 136 1 6) 1 6 [.ref (ap 0), .int qa, .ref ao] (wOu g ao fo ++ (wCl g ap ad r po pn pl tx rp rl rs rm rn rz sv mm)) (fun r9 w9 => ((er_X6_mixSource r qa) = none ∧ r9 = some (.int 0) ∧ ∃ w8, (w8 = (wCl g ap ad r po pn pl tx rp rl rs rm rn rz sv mm)) ∧ w9 = wOu g ao (vp_updL fo 0 (Int32.toInt64 (r.xs (Int32.toNatClampNeg qa)))) ++ w8) ∨ (∃ E cd, (er_X6_mixSource r qa) = some E ∧ ((E = xIO ∧ cd = 1)) ∧ r9 = some (.int cd) ∧ w9 = wOu g ao fo ++ (wCl g ap ad r po pn pl tx rp rl rs rm rn rz sv mm))) (fun _ _ => False) := by
  refine x_startH (own := RL) (nm := "mixSource") rfl rfl (by decide +kernel) rfl (nle rfl) (fun p e σ m args below meth c A C htab hr => ?_)
  refine x_lve (lv' := [(0, .ref (ap 0)), (1, .int qa), (2, .ref ao)]) rfl ?_
  refine x_aload_n C 2 rfl rfl dL_mixSource_0 ?_
  refine x_iconst C 0 (by decide) dL_mixSource_1 ?_
  refine x_aload_n C 0 rfl rfl dL_mixSource_2 ?_
  refine x_iload_n C 1 rfl rfl dL_mixSource_3 ?_
  refine x_EV1 (w1 := wOu g ao fo) (wc := (wCl g ap ad r po pn pl tx rp rl rs rm rn rz sv mm)) [.int qa] [.int 0, .ref ao] C (k_X6_mixSource l g ap ad r po pn pl tx rp rl rs rm rn rz sv mm qa hc) rfl yV_X6_mixSource wML_L_58 1 rfl rfl rfl rfl (nle rfl) (nle rfl) (nle rfl) (nle rfl) (nle rfl) dL_mixSource_4 (fun E w h => ?_) (fun r0 w h => ?_)
  · obtain ⟨hE, rfl⟩ := h
    obtain rfl := erc_X6_mixSource hE
    refine x_catch (hh := [(0, 9, 12, 13)]) C htab 12 [] ⟨0, 9, 12, 13⟩ [] rfl pass0 (by decide) (by decide) wCL_L_13 (by decide) rfl (fun q1 => ?_)
    refine x_astore_n C [(3, .ref q1), (0, .ref (ap 0)), (1, .int qa), (2, .ref ao)] rfl rfl (by decide) dL_mixSource_12 ?_
    refine x_iconst C 1 (by decide) dL_mixSource_13 ?_
    exact x_iret C hr (nle rfl) (nle rfl) dL_mixSource_14 (Or.inr ⟨xIO, 1, hE, ⟨rfl, rfl⟩, rfl, rfl⟩)
  · obtain ⟨h1, rfl, hw⟩ := h
    refine x_st (st' := [.int (r.xs (Int32.toNatClampNeg qa)), .int 0, .ref ao]) rfl ?_
    refine x_i2l C dL_mixSource_7 ?_
    refine x_last (f := fo) C 0 3 (wOu g ao (vp_updL fo 0 (Int32.toInt64 (r.xs (Int32.toNatClampNeg qa)))) ++ w) rfl rfl rfl in1 dL_mixSource_8 ?_
    refine x_goto C 15 (by decide) dL_mixSource_9 ?_
    refine x_iconst C 0 (by decide) dL_mixSource_15 ?_
    exact x_iret C hr (nle rfl) (nle rfl) dL_mixSource_16 (Or.inl ⟨h1, rfl, w, hw, rfl⟩)
theorem erc_X6_mixServo {r : xR} {qa : Int32} {E : String} (h : (er_X6_mixServo r qa) = some E) : E = xIO := by
  unfold er_X6_mixServo at h
  (repeat' split at h) <;> cases h <;> first | exact rfl | exact Or.inl rfl | exact Or.inr rfl | exact Or.inr (Or.inl rfl) | exact Or.inr (Or.inr rfl)
theorem yH_L_mixServo : xYH yL_mixServo cL_mixServo 4 (some .int) [(0, 9, 12, 13)] 3 := ⟨wCo_L_mixServo, wIn_L, ⟨by decide, by decide, by decide +kernel⟩, wSta_L_mixServo⟩
set_option maxRecDepth 100000 in
set_option maxHeartbeats 1000000 in
theorem k_L_mixServo (l : Launch) (g : xGt) (ao : Nat) (fo : Nat → Int64) (ap ad : Nat → Nat) (r : xR) (po : Int32) (pn : Int32) (pl : Int32) (tx : Nat → Int32) (rp : Int32) (rl : Int32) (rs : Int32) (rm : Int32) (rn : Int32) (rz : Int32) (sv : xPl) (mm : xPl) (qa : Int32) (hc : clO r po pn) : xM l g.1 (xT g) yL_mixServo (ws_H yL_mixServo cL_mixServo 4 (some .int) [(0, 9, 12, 13)]) (xRm 8 136 1 6) 1 6 [.ref (ap 0), .int qa, .ref ao] (wOu g ao fo ++ (wCl g ap ad r po pn pl tx rp rl rs rm rn rz sv mm)) (fun r9 w9 => ((er_X6_mixServo r qa) = none ∧ r9 = some (.int 0) ∧ ∃ w8, (w8 = (wCl g ap ad r po pn pl tx rp rl rs rm rn rz sv mm)) ∧ w9 = wOu g ao (vp_updL fo 0 (Int32.toInt64 (r.xv (Int32.toNatClampNeg qa)))) ++ w8) ∨ (∃ E cd, (er_X6_mixServo r qa) = some E ∧ ((E = xIO ∧ cd = 1)) ∧ r9 = some (.int cd) ∧ w9 = wOu g ao fo ++ (wCl g ap ad r po pn pl tx rp rl rs rm rn rz sv mm))) (fun _ _ => False) := by
  refine x_startH (own := RL) (nm := "mixServo") rfl rfl (by decide +kernel) rfl (nle rfl) (fun p e σ m args below meth c A C htab hr => ?_)
  refine x_lve (lv' := [(0, .ref (ap 0)), (1, .int qa), (2, .ref ao)]) rfl ?_
  refine x_aload_n C 2 rfl rfl dL_mixServo_0 ?_
  refine x_iconst C 0 (by decide) dL_mixServo_1 ?_
  refine x_aload_n C 0 rfl rfl dL_mixServo_2 ?_
  refine x_iload_n C 1 rfl rfl dL_mixServo_3 ?_
  refine x_EV1 (w1 := wOu g ao fo) (wc := (wCl g ap ad r po pn pl tx rp rl rs rm rn rz sv mm)) [.int qa] [.int 0, .ref ao] C (k_X6_mixServo l g ap ad r po pn pl tx rp rl rs rm rn rz sv mm qa hc) rfl yV_X6_mixServo wML_L_61 1 rfl rfl rfl rfl (nle rfl) (nle rfl) (nle rfl) (nle rfl) (nle rfl) dL_mixServo_4 (fun E w h => ?_) (fun r0 w h => ?_)
  · obtain ⟨hE, rfl⟩ := h
    obtain rfl := erc_X6_mixServo hE
    refine x_catch (hh := [(0, 9, 12, 13)]) C htab 12 [] ⟨0, 9, 12, 13⟩ [] rfl pass0 (by decide) (by decide) wCL_L_13 (by decide) rfl (fun q1 => ?_)
    refine x_astore_n C [(3, .ref q1), (0, .ref (ap 0)), (1, .int qa), (2, .ref ao)] rfl rfl (by decide) dL_mixServo_12 ?_
    refine x_iconst C 1 (by decide) dL_mixServo_13 ?_
    exact x_iret C hr (nle rfl) (nle rfl) dL_mixServo_14 (Or.inr ⟨xIO, 1, hE, ⟨rfl, rfl⟩, rfl, rfl⟩)
  · obtain ⟨h1, rfl, hw⟩ := h
    refine x_st (st' := [.int (r.xv (Int32.toNatClampNeg qa)), .int 0, .ref ao]) rfl ?_
    refine x_i2l C dL_mixServo_7 ?_
    refine x_last (f := fo) C 0 3 (wOu g ao (vp_updL fo 0 (Int32.toInt64 (r.xv (Int32.toNatClampNeg qa)))) ++ w) rfl rfl rfl in1 dL_mixServo_8 ?_
    refine x_goto C 15 (by decide) dL_mixServo_9 ?_
    refine x_iconst C 0 (by decide) dL_mixServo_15 ?_
    exact x_iret C hr (nle rfl) (nle rfl) dL_mixServo_16 (Or.inl ⟨h1, rfl, w, hw, rfl⟩)
theorem erc_X6_mixValue {r : xR} {qa : Int32} {E : String} (h : (er_X6_mixValue r qa) = some E) : E = xIO := by
  unfold er_X6_mixValue at h
  (repeat' split at h) <;> cases h <;> first | exact rfl | exact Or.inl rfl | exact Or.inr rfl | exact Or.inr (Or.inl rfl) | exact Or.inr (Or.inr rfl)
theorem yH_L_mixValue : xYH yL_mixValue cL_mixValue 4 (some .int) [(0, 9, 12, 13)] 3 := ⟨wCo_L_mixValue, wIn_L, ⟨by decide, by decide, by decide +kernel⟩, wSta_L_mixValue⟩
set_option maxRecDepth 100000 in
set_option maxHeartbeats 1000000 in
theorem k_L_mixValue (l : Launch) (g : xGt) (ao : Nat) (fo : Nat → Int64) (ap ad : Nat → Nat) (r : xR) (po : Int32) (pn : Int32) (pl : Int32) (tx : Nat → Int32) (rp : Int32) (rl : Int32) (rs : Int32) (rm : Int32) (rn : Int32) (rz : Int32) (sv : xPl) (mm : xPl) (qa : Int32) (hc : clO r po pn) : xM l g.1 (xT g) yL_mixValue (ws_H yL_mixValue cL_mixValue 4 (some .int) [(0, 9, 12, 13)]) (xRm 8 136 1 6) 1 6 [.ref (ap 0), .int qa, .ref ao] (wOu g ao fo ++ (wCl g ap ad r po pn pl tx rp rl rs rm rn rz sv mm)) (fun r9 w9 => ((er_X6_mixValue r qa) = none ∧ r9 = some (.int 0) ∧ ∃ w8, (w8 = (wCl g ap ad (r.set_dq (sp_cdm r.kp r.ke r.kr r.kt r.kh r.kc r.xn r.xs r.xv r.xh r.xo r.xc r.dq 6)) po pn pl tx rp rl rs rm rn rz sv mm)) ∧ w9 = wOu g ao (vp_updL fo 0 (Int32.toInt64 (sp_X6_mixValue r qa))) ++ w8) ∨ (∃ E cd, (er_X6_mixValue r qa) = some E ∧ ((E = xIO ∧ cd = 1)) ∧ r9 = some (.int cd) ∧ w9 = wOu g ao fo ++ (wCl g ap ad r po pn pl tx rp rl rs rm rn rz sv mm))) (fun _ _ => False) := by
  refine x_startH (own := RL) (nm := "mixValue") rfl rfl (by decide +kernel) rfl (nle rfl) (fun p e σ m args below meth c A C htab hr => ?_)
  refine x_lve (lv' := [(0, .ref (ap 0)), (1, .int qa), (2, .ref ao)]) rfl ?_
  refine x_aload_n C 2 rfl rfl dL_mixValue_0 ?_
  refine x_iconst C 0 (by decide) dL_mixValue_1 ?_
  refine x_aload_n C 0 rfl rfl dL_mixValue_2 ?_
  refine x_iload_n C 1 rfl rfl dL_mixValue_3 ?_
  refine x_EV1 (w1 := wOu g ao fo) (wc := (wCl g ap ad r po pn pl tx rp rl rs rm rn rz sv mm)) [.int qa] [.int 0, .ref ao] C (k_X6_mixValue l g ap ad r po pn pl tx rp rl rs rm rn rz sv mm qa hc) rfl yV_X6_mixValue wML_L_64 1 rfl rfl rfl rfl (nle rfl) (nle rfl) (nle rfl) (nle rfl) (nle rfl) dL_mixValue_4 (fun E w h => ?_) (fun r0 w h => ?_)
  · obtain ⟨hE, rfl⟩ := h
    obtain rfl := erc_X6_mixValue hE
    refine x_catch (hh := [(0, 9, 12, 13)]) C htab 12 [] ⟨0, 9, 12, 13⟩ [] rfl pass0 (by decide) (by decide) wCL_L_13 (by decide) rfl (fun q1 => ?_)
    refine x_astore_n C [(3, .ref q1), (0, .ref (ap 0)), (1, .int qa), (2, .ref ao)] rfl rfl (by decide) dL_mixValue_12 ?_
    refine x_iconst C 1 (by decide) dL_mixValue_13 ?_
    exact x_iret C hr (nle rfl) (nle rfl) dL_mixValue_14 (Or.inr ⟨xIO, 1, hE, ⟨rfl, rfl⟩, rfl, rfl⟩)
  · obtain ⟨h1, rfl, hw⟩ := h
    refine x_st (st' := [.int (sp_X6_mixValue r qa), .int 0, .ref ao]) rfl ?_
    refine x_i2l C dL_mixValue_7 ?_
    refine x_last (f := fo) C 0 3 (wOu g ao (vp_updL fo 0 (Int32.toInt64 (sp_X6_mixValue r qa))) ++ w) rfl rfl rfl in1 dL_mixValue_8 ?_
    refine x_goto C 15 (by decide) dL_mixValue_9 ?_
    refine x_iconst C 0 (by decide) dL_mixValue_15 ?_
    exact x_iret C hr (nle rfl) (nle rfl) dL_mixValue_16 (Or.inl ⟨h1, rfl, w, hw, rfl⟩)
theorem erc_X6_isActive {r : xR} {qa : Int32} {E : String} (h : (er_X6_isActive r qa) = some E) : E = xIO := by
  unfold er_X6_isActive at h
  (repeat' split at h) <;> cases h <;> first | exact rfl | exact Or.inl rfl | exact Or.inr rfl | exact Or.inr (Or.inl rfl) | exact Or.inr (Or.inr rfl)
theorem yH_L_isActive : xYH yL_isActive cL_isActive 4 (some .int) [(0, 16, 19, 13)] 3 := ⟨wCo_L_isActive, wIn_L, ⟨by decide, by decide, by decide +kernel⟩, wSta_L_isActive⟩
set_option maxRecDepth 100000 in
set_option maxHeartbeats 1000000 in
theorem k_L_isActive (l : Launch) (g : xGt) (ao : Nat) (fo : Nat → Int64) (ap ad : Nat → Nat) (r : xR) (po : Int32) (pn : Int32) (pl : Int32) (tx : Nat → Int32) (rp : Int32) (rl : Int32) (rs : Int32) (rm : Int32) (rn : Int32) (rz : Int32) (sv : xPl) (mm : xPl) (qa : Int32) (hc : clO r po pn) : xM l g.1 (xT g) yL_isActive (ws_H yL_isActive cL_isActive 4 (some .int) [(0, 16, 19, 13)]) (xRm 8 136 1 6) 1 6 [.ref (ap 0), .int qa, .ref ao] (wOu g ao fo ++ (wCl g ap ad r po pn pl tx rp rl rs rm rn rz sv mm)) (fun r9 w9 => ((er_X6_isActive r qa) = none ∧ r9 = some (.int 0) ∧ ∃ w8, (w8 = (wCl g ap ad r po pn pl tx rp rl rs rm rn rz sv mm)) ∧ w9 = wOu g ao (vp_updL fo 0 (if (sp_X2_holds r.xc (Int32.toNatClampNeg qa) r.kh) = 0 then (0 : Int64) else 1)) ++ w8) ∨ (∃ E cd, (er_X6_isActive r qa) = some E ∧ ((E = xIO ∧ cd = 1)) ∧ r9 = some (.int cd) ∧ w9 = wOu g ao fo ++ (wCl g ap ad r po pn pl tx rp rl rs rm rn rz sv mm))) (fun _ _ => False) := by
  refine x_startH (own := RL) (nm := "isActive") rfl rfl (by decide +kernel) rfl (nle rfl) (fun p e σ m args below meth c A C htab hr => ?_)
  refine x_lve (lv' := [(0, .ref (ap 0)), (1, .int qa), (2, .ref ao)]) rfl ?_
  refine x_aload_n C 2 rfl rfl dL_isActive_0 ?_
  refine x_iconst C 0 (by decide) dL_isActive_1 ?_
  refine x_aload_n C 0 rfl rfl dL_isActive_2 ?_
  refine x_iload_n C 1 rfl rfl dL_isActive_3 ?_
  refine x_EV1 (w1 := wOu g ao fo) (wc := (wCl g ap ad r po pn pl tx rp rl rs rm rn rz sv mm)) [.int qa] [.int 0, .ref ao] C (k_X6_isActive l g ap ad r po pn pl tx rp rl rs rm rn rz sv mm qa hc) rfl yV_X6_isActive wML_L_67 1 rfl rfl rfl rfl (nle rfl) (nle rfl) (nle rfl) (nle rfl) (nle rfl) dL_isActive_4 (fun E w h => ?_) (fun r0 w h => ?_)
  · obtain ⟨hE, rfl⟩ := h
    obtain rfl := erc_X6_isActive hE
    refine x_catch (hh := [(0, 16, 19, 13)]) C htab 19 [] ⟨0, 16, 19, 13⟩ [] rfl pass0 (by decide) (by decide) wCL_L_13 (by decide) rfl (fun q1 => ?_)
    refine x_astore_n C [(3, .ref q1), (0, .ref (ap 0)), (1, .int qa), (2, .ref ao)] rfl rfl (by decide) dL_isActive_19 ?_
    refine x_iconst C 1 (by decide) dL_isActive_20 ?_
    exact x_iret C hr (nle rfl) (nle rfl) dL_isActive_21 (Or.inr ⟨xIO, 1, hE, ⟨rfl, rfl⟩, rfl, rfl⟩)
  · obtain ⟨h1, rfl, hw⟩ := h
    refine x_st (st' := [.int (sp_X2_holds r.xc (Int32.toNatClampNeg qa) r.kh), .int 0, .ref ao]) rfl ?_
    refine x_if_eq C 14 (by decide) dL_isActive_7 (fun hz => ?_) (fun hz => ?_)
    · refine x_lconst C 0 (by decide) dL_isActive_14 ?_
      refine x_last (f := fo) C 0 3 (wOu g ao (vp_updL fo 0 0) ++ w) rfl rfl rfl in1 dL_isActive_15 ?_
      refine x_goto C 22 (by decide) dL_isActive_16 ?_
      refine x_iconst C 0 (by decide) dL_isActive_22 ?_
      exact x_iret C hr (nle rfl) (nle rfl) dL_isActive_23 (Or.inl ⟨h1, rfl, w, hw, by rw [if_pos hz]⟩)
    · refine x_lconst C 1 (by decide) dL_isActive_10 ?_
      refine x_goto C 15 (by decide) dL_isActive_11 ?_
      refine x_last (f := fo) C 0 3 (wOu g ao (vp_updL fo 0 1) ++ w) rfl rfl rfl in1 dL_isActive_15 ?_
      refine x_goto C 22 (by decide) dL_isActive_16 ?_
      refine x_iconst C 0 (by decide) dL_isActive_22 ?_
      exact x_iret C hr (nle rfl) (nle rfl) dL_isActive_23 (Or.inl ⟨h1, rfl, w, hw, by rw [if_neg hz]⟩)
theorem erc_X6_reverse {qa : Int32} {E : String} (h : (er_X6_reverse qa) = some E) : E = xIO := by
  unfold er_X6_reverse at h
  (repeat' split at h) <;> cases h <;> first | exact rfl | exact Or.inl rfl | exact Or.inr rfl | exact Or.inr (Or.inl rfl) | exact Or.inr (Or.inr rfl)
theorem yH_L_reverse : xYH yL_reverse cL_reverse 4 (some .int) [(0, 16, 19, 13)] 3 := ⟨wCo_L_reverse, wIn_L, ⟨by decide, by decide, by decide +kernel⟩, wSta_L_reverse⟩
set_option maxRecDepth 100000 in
set_option maxHeartbeats 1000000 in
theorem k_L_reverse (l : Launch) (g : xGt) (ao : Nat) (fo : Nat → Int64) (ap ad : Nat → Nat) (r : xR) (po : Int32) (pn : Int32) (pl : Int32) (tx : Nat → Int32) (rp : Int32) (rl : Int32) (rs : Int32) (rm : Int32) (rn : Int32) (rz : Int32) (sv : xPl) (mm : xPl) (qa : Int32) (hc : clO r po pn) : xM l g.1 (xT g) yL_reverse (ws_H yL_reverse cL_reverse 4 (some .int) [(0, 16, 19, 13)]) (xRm 8 135 26 192) 26 192 [.ref (ap 0), .int qa, .ref ao] (wOu g ao fo ++ (wCl g ap ad r po pn pl tx rp rl rs rm rn rz sv mm)) (fun r9 w9 => ((er_X6_reverse qa) = none ∧ r9 = some (.int 0) ∧ ∃ w8, (∃ adn : Nat → Nat, w8 = (wCl g ap ad (r.set_vd (upd r.vd (Int32.toNatClampNeg qa) (-(r.vd (Int32.toNatClampNeg qa))))) (sp_spo2 po pn) (sp_spn2 pn) pl tx rp rl rs rm rn rz (svS sv adn r po pn) mm)) ∧ w9 = wOu g ao (vp_updL fo 0 (if (sp_X6_reverse r qa) = 0 then (0 : Int64) else 1)) ++ w8) ∨ (∃ E cd, (er_X6_reverse qa) = some E ∧ ((E = xIO ∧ cd = 1)) ∧ r9 = some (.int cd) ∧ w9 = wOu g ao fo ++ (wCl g ap ad r po pn pl tx rp rl rs rm rn rz sv mm))) (fun _ _ => False) := by
  refine x_startH (own := RL) (nm := "reverse") rfl rfl (by decide +kernel) rfl (nle rfl) (fun p e σ m args below meth c A C htab hr => ?_)
  refine x_lve (lv' := [(0, .ref (ap 0)), (1, .int qa), (2, .ref ao)]) rfl ?_
  refine x_aload_n C 2 rfl rfl dL_reverse_0 ?_
  refine x_iconst C 0 (by decide) dL_reverse_1 ?_
  refine x_aload_n C 0 rfl rfl dL_reverse_2 ?_
  refine x_iload_n C 1 rfl rfl dL_reverse_3 ?_
  refine x_EV1 (w1 := wOu g ao fo) (wc := (wCl g ap ad r po pn pl tx rp rl rs rm rn rz sv mm)) [.int qa] [.int 0, .ref ao] C (k_X6_reverse l g ap ad r po pn pl tx rp rl rs rm rn rz sv mm qa hc) rfl yV_X6_reverse wML_L_71 1 rfl rfl rfl rfl (nle rfl) (nle rfl) (nle rfl) (nle rfl) (nle rfl) dL_reverse_4 (fun E w h => ?_) (fun r0 w h => ?_)
  · obtain ⟨hE, rfl⟩ := h
    obtain rfl := erc_X6_reverse hE
    refine x_catch (hh := [(0, 16, 19, 13)]) C htab 19 [] ⟨0, 16, 19, 13⟩ [] rfl pass0 (by decide) (by decide) wCL_L_13 (by decide) rfl (fun q1 => ?_)
    refine x_astore_n C [(3, .ref q1), (0, .ref (ap 0)), (1, .int qa), (2, .ref ao)] rfl rfl (by decide) dL_reverse_19 ?_
    refine x_iconst C 1 (by decide) dL_reverse_20 ?_
    exact x_iret C hr (nle rfl) (nle rfl) dL_reverse_21 (Or.inr ⟨xIO, 1, hE, ⟨rfl, rfl⟩, rfl, rfl⟩)
  · obtain ⟨h1, rfl, hw⟩ := h
    refine x_st (st' := [.int (sp_X6_reverse r qa), .int 0, .ref ao]) rfl ?_
    refine x_if_eq C 14 (by decide) dL_reverse_7 (fun hz => ?_) (fun hz => ?_)
    · refine x_lconst C 0 (by decide) dL_reverse_14 ?_
      refine x_last (f := fo) C 0 3 (wOu g ao (vp_updL fo 0 0) ++ w) rfl rfl rfl in1 dL_reverse_15 ?_
      refine x_goto C 22 (by decide) dL_reverse_16 ?_
      refine x_iconst C 0 (by decide) dL_reverse_22 ?_
      exact x_iret C hr (nle rfl) (nle rfl) dL_reverse_23 (Or.inl ⟨h1, rfl, w, hw, by rw [if_pos hz]⟩)
    · refine x_lconst C 1 (by decide) dL_reverse_10 ?_
      refine x_goto C 15 (by decide) dL_reverse_11 ?_
      refine x_last (f := fo) C 0 3 (wOu g ao (vp_updL fo 0 1) ++ w) rfl rfl rfl in1 dL_reverse_15 ?_
      refine x_goto C 22 (by decide) dL_reverse_16 ?_
      refine x_iconst C 0 (by decide) dL_reverse_22 ?_
      exact x_iret C hr (nle rfl) (nle rfl) dL_reverse_23 (Or.inl ⟨h1, rfl, w, hw, by rw [if_neg hz]⟩)
theorem erc_X6_setNeutral {qa : Int32} {qb : Int32} {E : String} (h : (er_X6_setNeutral qa qb) = some E) : E = xIA ∨ E = xIO := by
  unfold er_X6_setNeutral at h
  (repeat' split at h) <;> cases h <;> first | exact rfl | exact Or.inl rfl | exact Or.inr rfl | exact Or.inr (Or.inl rfl) | exact Or.inr (Or.inr rfl)
theorem yH_L_setNeutral : xYH yL_setNeutral cL_setNeutral 5 (some .int) [(0, 10, 13, 13), (0, 10, 17, 15)] 4 := ⟨wCo_L_setNeutral, wIn_L, ⟨by decide, by decide, by decide +kernel⟩, wSta_L_setNeutral⟩
set_option maxRecDepth 100000 in
set_option maxHeartbeats 1000000 in
theorem k_L_setNeutral (l : Launch) (g : xGt) (ao : Nat) (fo : Nat → Int64) (ap ad : Nat → Nat) (r : xR) (po : Int32) (pn : Int32) (pl : Int32) (tx : Nat → Int32) (rp : Int32) (rl : Int32) (rs : Int32) (rm : Int32) (rn : Int32) (rz : Int32) (sv : xPl) (mm : xPl) (qa : Int32) (qb : Int32) (hc : clO r po pn) : xM l g.1 (xT g) yL_setNeutral (ws_H yL_setNeutral cL_setNeutral 5 (some .int) [(0, 10, 13, 13), (0, 10, 17, 15)]) (xRm 8 139 27 198) 27 198 [.ref (ap 0), .int qa, .int qb, .ref ao] (wOu g ao fo ++ (wCl g ap ad r po pn pl tx rp rl rs rm rn rz sv mm)) (fun r9 w9 => ((er_X6_setNeutral qa qb) = none ∧ r9 = some (.int 0) ∧ ∃ w8, (∃ adn : Nat → Nat, w8 = (wCl g ap ad (r.set_vn (upd r.vn (Int32.toNatClampNeg qa) qb)) (sp_spo2 po pn) (sp_spn2 pn) pl tx rp rl rs rm rn rz (svS sv adn r po pn) mm)) ∧ w9 = wOu g ao (vp_updL fo 0 (Int32.toInt64 (r.vn (Int32.toNatClampNeg qa)))) ++ w8) ∨ (∃ E cd, (er_X6_setNeutral qa qb) = some E ∧ ((E = xIA ∧ cd = 2) ∨ (E = xIO ∧ cd = 1)) ∧ r9 = some (.int cd) ∧ w9 = wOu g ao fo ++ (wCl g ap ad r po pn pl tx rp rl rs rm rn rz sv mm))) (fun _ _ => False) := by
  refine x_startH (own := RL) (nm := "setNeutral") rfl rfl (by decide +kernel) rfl (nle rfl) (fun p e σ m args below meth c A C htab hr => ?_)
  refine x_lve (lv' := [(0, .ref (ap 0)), (1, .int qa), (2, .int qb), (3, .ref ao)]) rfl ?_
  refine x_aload_n C 3 rfl rfl dL_setNeutral_0 ?_
  refine x_iconst C 0 (by decide) dL_setNeutral_1 ?_
  refine x_aload_n C 0 rfl rfl dL_setNeutral_2 ?_
  refine x_iload_n C 1 rfl rfl dL_setNeutral_3 ?_
  refine x_iload_n C 2 rfl rfl dL_setNeutral_4 ?_
  refine x_EV1 (w1 := wOu g ao fo) (wc := (wCl g ap ad r po pn pl tx rp rl rs rm rn rz sv mm)) [.int qa, .int qb] [.int 0, .ref ao] C (k_X6_setNeutral l g ap ad r po pn pl tx rp rl rs rm rn rz sv mm qa qb hc) rfl yV_X6_setNeutral wML_L_74 1 rfl rfl rfl rfl (nle rfl) (nle rfl) (nle rfl) (nle rfl) (nle rfl) dL_setNeutral_5 (fun E w h => ?_) (fun r0 w h => ?_)
  · obtain ⟨hE, rfl⟩ := h
    rcases erc_X6_setNeutral hE with rfl | rfl
    · refine x_catch (hh := [(0, 10, 13, 13), (0, 10, 17, 15)]) C htab 17 [⟨0, 10, 13, 13⟩] ⟨0, 10, 17, 15⟩ [] rfl (passC (by decide) wCL_L_13 (by decide) pass0) (by decide) (by decide) wCL_L_15 (by decide) rfl (fun q1 => ?_)
      refine x_astore C [(4, .ref q1), (0, .ref (ap 0)), (1, .int qa), (2, .int qb), (3, .ref ao)] rfl (by decide) dL_setNeutral_17 ?_
      refine x_iconst C 2 (by decide) dL_setNeutral_19 ?_
      exact x_iret C hr (nle rfl) (nle rfl) dL_setNeutral_20 (Or.inr ⟨xIA, 2, hE, Or.inl ⟨rfl, rfl⟩, rfl, rfl⟩)
    · refine x_catch (hh := [(0, 10, 13, 13), (0, 10, 17, 15)]) C htab 13 [] ⟨0, 10, 13, 13⟩ [⟨0, 10, 17, 15⟩] rfl pass0 (by decide) (by decide) wCL_L_13 (by decide) rfl (fun q1 => ?_)
      refine x_astore C [(4, .ref q1), (0, .ref (ap 0)), (1, .int qa), (2, .int qb), (3, .ref ao)] rfl (by decide) dL_setNeutral_13 ?_
      refine x_iconst C 1 (by decide) dL_setNeutral_15 ?_
      exact x_iret C hr (nle rfl) (nle rfl) dL_setNeutral_16 (Or.inr ⟨xIO, 1, hE, Or.inr (⟨rfl, rfl⟩), rfl, rfl⟩)
  · obtain ⟨h1, rfl, hw⟩ := h
    refine x_st (st' := [.int (r.vn (Int32.toNatClampNeg qa)), .int 0, .ref ao]) rfl ?_
    refine x_i2l C dL_setNeutral_8 ?_
    refine x_last (f := fo) C 0 3 (wOu g ao (vp_updL fo 0 (Int32.toInt64 (r.vn (Int32.toNatClampNeg qa)))) ++ w) rfl rfl rfl in1 dL_setNeutral_9 ?_
    refine x_goto C 21 (by decide) dL_setNeutral_10 ?_
    refine x_iconst C 0 (by decide) dL_setNeutral_21 ?_
    exact x_iret C hr (nle rfl) (nle rfl) dL_setNeutral_22 (Or.inl ⟨h1, rfl, w, hw, rfl⟩)
theorem erc_X6_setLimits {qa : Int32} {qb : Int32} {qc : Int32} {E : String} (h : (er_X6_setLimits qa qb qc) = some E) : E = xIA ∨ E = xIO := by
  unfold er_X6_setLimits at h
  (repeat' split at h) <;> cases h <;> first | exact rfl | exact Or.inl rfl | exact Or.inr rfl | exact Or.inr (Or.inl rfl) | exact Or.inr (Or.inr rfl)
theorem yH_L_setLimits : xYH yL_setLimits cL_setLimits 6 (some .int) [(0, 12, 15, 13), (0, 12, 19, 15)] 5 := ⟨wCo_L_setLimits, wIn_L, ⟨by decide, by decide, by decide +kernel⟩, wSta_L_setLimits⟩
set_option maxRecDepth 100000 in
set_option maxHeartbeats 1000000 in
theorem k_L_setLimits (l : Launch) (g : xGt) (ao : Nat) (fo : Nat → Int64) (ap ad : Nat → Nat) (r : xR) (po : Int32) (pn : Int32) (pl : Int32) (tx : Nat → Int32) (rp : Int32) (rl : Int32) (rs : Int32) (rm : Int32) (rn : Int32) (rz : Int32) (sv : xPl) (mm : xPl) (qa : Int32) (qb : Int32) (qc : Int32) (hc : clO r po pn) : xM l g.1 (xT g) yL_setLimits (ws_H yL_setLimits cL_setLimits 6 (some .int) [(0, 12, 15, 13), (0, 12, 19, 15)]) (xRm 8 140 28 204) 28 204 [.ref (ap 0), .int qa, .int qb, .int qc, .ref ao] (wOu g ao fo ++ (wCl g ap ad r po pn pl tx rp rl rs rm rn rz sv mm)) (fun r9 w9 => ((er_X6_setLimits qa qb qc) = none ∧ r9 = some (.int 0) ∧ ∃ w8, (∃ adn : Nat → Nat, w8 = (wCl g ap ad (xRk r.kp r.ke r.kr r.kt r.kh r.kc r.xn r.xs r.xv r.xh r.xo r.xc r.vd r.vn (upd r.vl (Int32.toNatClampNeg qa) qb) (upd r.vu (Int32.toNatClampNeg qa) qc) r.vs r.vm r.vp r.vt r.va r.vw r.jd r.jb r.jc r.js r.jl r.jx r.ji r.jf r.jn r.dq) (sp_spo2 po pn) (sp_spn2 pn) pl tx rp rl rs rm rn rz (svS sv adn r po pn) mm)) ∧ w9 = wOu g ao (vp_updL fo 0 (Int32.toInt64 ((r.vu (Int32.toNatClampNeg qa)) - (r.vl (Int32.toNatClampNeg qa))))) ++ w8) ∨ (∃ E cd, (er_X6_setLimits qa qb qc) = some E ∧ ((E = xIA ∧ cd = 2) ∨ (E = xIO ∧ cd = 1)) ∧ r9 = some (.int cd) ∧ w9 = wOu g ao fo ++ (wCl g ap ad r po pn pl tx rp rl rs rm rn rz sv mm))) (fun _ _ => False) := by
  refine x_startH (own := RL) (nm := "setLimits") rfl rfl (by decide +kernel) rfl (nle rfl) (fun p e σ m args below meth c A C htab hr => ?_)
  refine x_lve (lv' := [(0, .ref (ap 0)), (1, .int qa), (2, .int qb), (3, .int qc), (4, .ref ao)]) rfl ?_
  refine x_aload C 4 rfl dL_setLimits_0 ?_
  refine x_iconst C 0 (by decide) dL_setLimits_2 ?_
  refine x_aload_n C 0 rfl rfl dL_setLimits_3 ?_
  refine x_iload_n C 1 rfl rfl dL_setLimits_4 ?_
  refine x_iload_n C 2 rfl rfl dL_setLimits_5 ?_
  refine x_iload_n C 3 rfl rfl dL_setLimits_6 ?_
  refine x_EV1 (w1 := wOu g ao fo) (wc := (wCl g ap ad r po pn pl tx rp rl rs rm rn rz sv mm)) [.int qa, .int qb, .int qc] [.int 0, .ref ao] C (k_X6_setLimits l g ap ad r po pn pl tx rp rl rs rm rn rz sv mm qa qb qc hc) rfl yV_X6_setLimits wML_L_77 1 rfl rfl rfl rfl (nle rfl) (nle rfl) (nle rfl) (nle rfl) (nle rfl) dL_setLimits_7 (fun E w h => ?_) (fun r0 w h => ?_)
  · obtain ⟨hE, rfl⟩ := h
    rcases erc_X6_setLimits hE with rfl | rfl
    · refine x_catch (hh := [(0, 12, 15, 13), (0, 12, 19, 15)]) C htab 19 [⟨0, 12, 15, 13⟩] ⟨0, 12, 19, 15⟩ [] rfl (passC (by decide) wCL_L_13 (by decide) pass0) (by decide) (by decide) wCL_L_15 (by decide) rfl (fun q1 => ?_)
      refine x_astore C [(5, .ref q1), (0, .ref (ap 0)), (1, .int qa), (2, .int qb), (3, .int qc), (4, .ref ao)] rfl (by decide) dL_setLimits_19 ?_
      refine x_iconst C 2 (by decide) dL_setLimits_21 ?_
      exact x_iret C hr (nle rfl) (nle rfl) dL_setLimits_22 (Or.inr ⟨xIA, 2, hE, Or.inl ⟨rfl, rfl⟩, rfl, rfl⟩)
    · refine x_catch (hh := [(0, 12, 15, 13), (0, 12, 19, 15)]) C htab 15 [] ⟨0, 12, 15, 13⟩ [⟨0, 12, 19, 15⟩] rfl pass0 (by decide) (by decide) wCL_L_13 (by decide) rfl (fun q1 => ?_)
      refine x_astore C [(5, .ref q1), (0, .ref (ap 0)), (1, .int qa), (2, .int qb), (3, .int qc), (4, .ref ao)] rfl (by decide) dL_setLimits_15 ?_
      refine x_iconst C 1 (by decide) dL_setLimits_17 ?_
      exact x_iret C hr (nle rfl) (nle rfl) dL_setLimits_18 (Or.inr ⟨xIO, 1, hE, Or.inr (⟨rfl, rfl⟩), rfl, rfl⟩)
  · obtain ⟨h1, rfl, hw⟩ := h
    refine x_st (st' := [.int ((r.vu (Int32.toNatClampNeg qa)) - (r.vl (Int32.toNatClampNeg qa))), .int 0, .ref ao]) rfl ?_
    refine x_i2l C dL_setLimits_10 ?_
    refine x_last (f := fo) C 0 3 (wOu g ao (vp_updL fo 0 (Int32.toInt64 ((r.vu (Int32.toNatClampNeg qa)) - (r.vl (Int32.toNatClampNeg qa))))) ++ w) rfl rfl rfl in1 dL_setLimits_11 ?_
    refine x_goto C 23 (by decide) dL_setLimits_12 ?_
    refine x_iconst C 0 (by decide) dL_setLimits_23 ?_
    exact x_iret C hr (nle rfl) (nle rfl) dL_setLimits_24 (Or.inl ⟨h1, rfl, w, hw, rfl⟩)
theorem erc_X6_setSpeed {qa : Int32} {qb : Int32} {E : String} (h : (er_X6_setSpeed qa qb) = some E) : E = xIA ∨ E = xIO := by
  unfold er_X6_setSpeed at h
  (repeat' split at h) <;> cases h <;> first | exact rfl | exact Or.inl rfl | exact Or.inr rfl | exact Or.inr (Or.inl rfl) | exact Or.inr (Or.inr rfl)
theorem yH_L_setSpeed : xYH yL_setSpeed cL_setSpeed 5 (some .int) [(0, 10, 13, 13), (0, 10, 17, 15)] 4 := ⟨wCo_L_setSpeed, wIn_L, ⟨by decide, by decide, by decide +kernel⟩, wSta_L_setSpeed⟩
set_option maxRecDepth 100000 in
set_option maxHeartbeats 1000000 in
theorem k_L_setSpeed (l : Launch) (g : xGt) (ao : Nat) (fo : Nat → Int64) (ap ad : Nat → Nat) (r : xR) (po : Int32) (pn : Int32) (pl : Int32) (tx : Nat → Int32) (rp : Int32) (rl : Int32) (rs : Int32) (rm : Int32) (rn : Int32) (rz : Int32) (sv : xPl) (mm : xPl) (qa : Int32) (qb : Int32) (hc : clO r po pn) : xM l g.1 (xT g) yL_setSpeed (ws_H yL_setSpeed cL_setSpeed 5 (some .int) [(0, 10, 13, 13), (0, 10, 17, 15)]) (xRm 8 139 27 198) 27 198 [.ref (ap 0), .int qa, .int qb, .ref ao] (wOu g ao fo ++ (wCl g ap ad r po pn pl tx rp rl rs rm rn rz sv mm)) (fun r9 w9 => ((er_X6_setSpeed qa qb) = none ∧ r9 = some (.int 0) ∧ ∃ w8, (∃ adn : Nat → Nat, w8 = (wCl g ap ad (r.set_vs (upd r.vs (Int32.toNatClampNeg qa) qb)) (sp_spo2 po pn) (sp_spn2 pn) pl tx rp rl rs rm rn rz (svS sv adn r po pn) mm)) ∧ w9 = wOu g ao (vp_updL fo 0 (Int32.toInt64 (r.vs (Int32.toNatClampNeg qa)))) ++ w8) ∨ (∃ E cd, (er_X6_setSpeed qa qb) = some E ∧ ((E = xIA ∧ cd = 2) ∨ (E = xIO ∧ cd = 1)) ∧ r9 = some (.int cd) ∧ w9 = wOu g ao fo ++ (wCl g ap ad r po pn pl tx rp rl rs rm rn rz sv mm))) (fun _ _ => False) := by
  refine x_startH (own := RL) (nm := "setSpeed") rfl rfl (by decide +kernel) rfl (nle rfl) (fun p e σ m args below meth c A C htab hr => ?_)
  refine x_lve (lv' := [(0, .ref (ap 0)), (1, .int qa), (2, .int qb), (3, .ref ao)]) rfl ?_
  refine x_aload_n C 3 rfl rfl dL_setSpeed_0 ?_
  refine x_iconst C 0 (by decide) dL_setSpeed_1 ?_
  refine x_aload_n C 0 rfl rfl dL_setSpeed_2 ?_
  refine x_iload_n C 1 rfl rfl dL_setSpeed_3 ?_
  refine x_iload_n C 2 rfl rfl dL_setSpeed_4 ?_
  refine x_EV1 (w1 := wOu g ao fo) (wc := (wCl g ap ad r po pn pl tx rp rl rs rm rn rz sv mm)) [.int qa, .int qb] [.int 0, .ref ao] C (k_X6_setSpeed l g ap ad r po pn pl tx rp rl rs rm rn rz sv mm qa qb hc) rfl yV_X6_setSpeed wML_L_80 1 rfl rfl rfl rfl (nle rfl) (nle rfl) (nle rfl) (nle rfl) (nle rfl) dL_setSpeed_5 (fun E w h => ?_) (fun r0 w h => ?_)
  · obtain ⟨hE, rfl⟩ := h
    rcases erc_X6_setSpeed hE with rfl | rfl
    · refine x_catch (hh := [(0, 10, 13, 13), (0, 10, 17, 15)]) C htab 17 [⟨0, 10, 13, 13⟩] ⟨0, 10, 17, 15⟩ [] rfl (passC (by decide) wCL_L_13 (by decide) pass0) (by decide) (by decide) wCL_L_15 (by decide) rfl (fun q1 => ?_)
      refine x_astore C [(4, .ref q1), (0, .ref (ap 0)), (1, .int qa), (2, .int qb), (3, .ref ao)] rfl (by decide) dL_setSpeed_17 ?_
      refine x_iconst C 2 (by decide) dL_setSpeed_19 ?_
      exact x_iret C hr (nle rfl) (nle rfl) dL_setSpeed_20 (Or.inr ⟨xIA, 2, hE, Or.inl ⟨rfl, rfl⟩, rfl, rfl⟩)
    · refine x_catch (hh := [(0, 10, 13, 13), (0, 10, 17, 15)]) C htab 13 [] ⟨0, 10, 13, 13⟩ [⟨0, 10, 17, 15⟩] rfl pass0 (by decide) (by decide) wCL_L_13 (by decide) rfl (fun q1 => ?_)
      refine x_astore C [(4, .ref q1), (0, .ref (ap 0)), (1, .int qa), (2, .int qb), (3, .ref ao)] rfl (by decide) dL_setSpeed_13 ?_
      refine x_iconst C 1 (by decide) dL_setSpeed_15 ?_
      exact x_iret C hr (nle rfl) (nle rfl) dL_setSpeed_16 (Or.inr ⟨xIO, 1, hE, Or.inr (⟨rfl, rfl⟩), rfl, rfl⟩)
  · obtain ⟨h1, rfl, hw⟩ := h
    refine x_st (st' := [.int (r.vs (Int32.toNatClampNeg qa)), .int 0, .ref ao]) rfl ?_
    refine x_i2l C dL_setSpeed_8 ?_
    refine x_last (f := fo) C 0 3 (wOu g ao (vp_updL fo 0 (Int32.toInt64 (r.vs (Int32.toNatClampNeg qa)))) ++ w) rfl rfl rfl in1 dL_setSpeed_9 ?_
    refine x_goto C 21 (by decide) dL_setSpeed_10 ?_
    refine x_iconst C 0 (by decide) dL_setSpeed_21 ?_
    exact x_iret C hr (nle rfl) (nle rfl) dL_setSpeed_22 (Or.inl ⟨h1, rfl, w, hw, rfl⟩)
theorem erc_X6_setFailsafe {qa : Int32} {qb : Int32} {qc : Int32} {E : String} (h : (er_X6_setFailsafe qa qb qc) = some E) : E = xIA ∨ E = xIO := by
  unfold er_X6_setFailsafe at h
  (repeat' split at h) <;> cases h <;> first | exact rfl | exact Or.inl rfl | exact Or.inr rfl | exact Or.inr (Or.inl rfl) | exact Or.inr (Or.inr rfl)
theorem yH_L_setFailsafe : xYH yL_setFailsafe cL_setFailsafe 6 (some .int) [(0, 12, 15, 13), (0, 12, 19, 15)] 5 := ⟨wCo_L_setFailsafe, wIn_L, ⟨by decide, by decide, by decide +kernel⟩, wSta_L_setFailsafe⟩
set_option maxRecDepth 100000 in
set_option maxHeartbeats 1000000 in
theorem k_L_setFailsafe (l : Launch) (g : xGt) (ao : Nat) (fo : Nat → Int64) (ap ad : Nat → Nat) (r : xR) (po : Int32) (pn : Int32) (pl : Int32) (tx : Nat → Int32) (rp : Int32) (rl : Int32) (rs : Int32) (rm : Int32) (rn : Int32) (rz : Int32) (sv : xPl) (mm : xPl) (qa : Int32) (qb : Int32) (qc : Int32) (hc : clO r po pn) : xM l g.1 (xT g) yL_setFailsafe (ws_H yL_setFailsafe cL_setFailsafe 6 (some .int) [(0, 12, 15, 13), (0, 12, 19, 15)]) (xRm 8 140 28 204) 28 204 [.ref (ap 0), .int qa, .int qb, .int qc, .ref ao] (wOu g ao fo ++ (wCl g ap ad r po pn pl tx rp rl rs rm rn rz sv mm)) (fun r9 w9 => ((er_X6_setFailsafe qa qb qc) = none ∧ r9 = some (.int 0) ∧ ∃ w8, (∃ adn : Nat → Nat, w8 = (wCl g ap ad (xRk r.kp r.ke r.kr r.kt r.kh r.kc r.xn r.xs r.xv r.xh r.xo r.xc r.vd r.vn r.vl r.vu r.vs (upd r.vm (Int32.toNatClampNeg qa) qb) (upd r.vp (Int32.toNatClampNeg qa) qc) r.vt r.va r.vw r.jd r.jb r.jc r.js r.jl r.jx r.ji r.jf r.jn r.dq) (sp_spo2 po pn) (sp_spn2 pn) pl tx rp rl rs rm rn rz (svS sv adn r po pn) mm)) ∧ w9 = wOu g ao (vp_updL fo 0 (Int32.toInt64 (r.vm (Int32.toNatClampNeg qa)))) ++ w8) ∨ (∃ E cd, (er_X6_setFailsafe qa qb qc) = some E ∧ ((E = xIA ∧ cd = 2) ∨ (E = xIO ∧ cd = 1)) ∧ r9 = some (.int cd) ∧ w9 = wOu g ao fo ++ (wCl g ap ad r po pn pl tx rp rl rs rm rn rz sv mm))) (fun _ _ => False) := by
  refine x_startH (own := RL) (nm := "setFailsafe") rfl rfl (by decide +kernel) rfl (nle rfl) (fun p e σ m args below meth c A C htab hr => ?_)
  refine x_lve (lv' := [(0, .ref (ap 0)), (1, .int qa), (2, .int qb), (3, .int qc), (4, .ref ao)]) rfl ?_
  refine x_aload C 4 rfl dL_setFailsafe_0 ?_
  refine x_iconst C 0 (by decide) dL_setFailsafe_2 ?_
  refine x_aload_n C 0 rfl rfl dL_setFailsafe_3 ?_
  refine x_iload_n C 1 rfl rfl dL_setFailsafe_4 ?_
  refine x_iload_n C 2 rfl rfl dL_setFailsafe_5 ?_
  refine x_iload_n C 3 rfl rfl dL_setFailsafe_6 ?_
  refine x_EV1 (w1 := wOu g ao fo) (wc := (wCl g ap ad r po pn pl tx rp rl rs rm rn rz sv mm)) [.int qa, .int qb, .int qc] [.int 0, .ref ao] C (k_X6_setFailsafe l g ap ad r po pn pl tx rp rl rs rm rn rz sv mm qa qb qc hc) rfl yV_X6_setFailsafe wML_L_83 1 rfl rfl rfl rfl (nle rfl) (nle rfl) (nle rfl) (nle rfl) (nle rfl) dL_setFailsafe_7 (fun E w h => ?_) (fun r0 w h => ?_)
  · obtain ⟨hE, rfl⟩ := h
    rcases erc_X6_setFailsafe hE with rfl | rfl
    · refine x_catch (hh := [(0, 12, 15, 13), (0, 12, 19, 15)]) C htab 19 [⟨0, 12, 15, 13⟩] ⟨0, 12, 19, 15⟩ [] rfl (passC (by decide) wCL_L_13 (by decide) pass0) (by decide) (by decide) wCL_L_15 (by decide) rfl (fun q1 => ?_)
      refine x_astore C [(5, .ref q1), (0, .ref (ap 0)), (1, .int qa), (2, .int qb), (3, .int qc), (4, .ref ao)] rfl (by decide) dL_setFailsafe_19 ?_
      refine x_iconst C 2 (by decide) dL_setFailsafe_21 ?_
      exact x_iret C hr (nle rfl) (nle rfl) dL_setFailsafe_22 (Or.inr ⟨xIA, 2, hE, Or.inl ⟨rfl, rfl⟩, rfl, rfl⟩)
    · refine x_catch (hh := [(0, 12, 15, 13), (0, 12, 19, 15)]) C htab 15 [] ⟨0, 12, 15, 13⟩ [⟨0, 12, 19, 15⟩] rfl pass0 (by decide) (by decide) wCL_L_13 (by decide) rfl (fun q1 => ?_)
      refine x_astore C [(5, .ref q1), (0, .ref (ap 0)), (1, .int qa), (2, .int qb), (3, .int qc), (4, .ref ao)] rfl (by decide) dL_setFailsafe_15 ?_
      refine x_iconst C 1 (by decide) dL_setFailsafe_17 ?_
      exact x_iret C hr (nle rfl) (nle rfl) dL_setFailsafe_18 (Or.inr ⟨xIO, 1, hE, Or.inr (⟨rfl, rfl⟩), rfl, rfl⟩)
  · obtain ⟨h1, rfl, hw⟩ := h
    refine x_st (st' := [.int (r.vm (Int32.toNatClampNeg qa)), .int 0, .ref ao]) rfl ?_
    refine x_i2l C dL_setFailsafe_10 ?_
    refine x_last (f := fo) C 0 3 (wOu g ao (vp_updL fo 0 (Int32.toInt64 (r.vm (Int32.toNatClampNeg qa)))) ++ w) rfl rfl rfl in1 dL_setFailsafe_11 ?_
    refine x_goto C 23 (by decide) dL_setFailsafe_12 ?_
    refine x_iconst C 0 (by decide) dL_setFailsafe_23 ?_
    exact x_iret C hr (nle rfl) (nle rfl) dL_setFailsafe_24 (Or.inl ⟨h1, rfl, w, hw, rfl⟩)
theorem erc_X6_demand {qa : Int32} {E : String} (h : (er_X6_demand qa) = some E) : E = xIO := by
  unfold er_X6_demand at h
  (repeat' split at h) <;> cases h <;> first | exact rfl | exact Or.inl rfl | exact Or.inr rfl | exact Or.inr (Or.inl rfl) | exact Or.inr (Or.inr rfl)
theorem yH_L_demand : xYH yL_demand cL_demand 4 (some .int) [(0, 9, 12, 13)] 3 := ⟨wCo_L_demand, wIn_L, ⟨by decide, by decide, by decide +kernel⟩, wSta_L_demand⟩
set_option maxRecDepth 100000 in
set_option maxHeartbeats 1000000 in
theorem k_L_demand (l : Launch) (g : xGt) (ao : Nat) (fo : Nat → Int64) (ap ad : Nat → Nat) (r : xR) (po : Int32) (pn : Int32) (pl : Int32) (tx : Nat → Int32) (rp : Int32) (rl : Int32) (rs : Int32) (rm : Int32) (rn : Int32) (rz : Int32) (sv : xPl) (mm : xPl) (qa : Int32) (hc : clO r po pn) : xM l g.1 (xT g) yL_demand (ws_H yL_demand cL_demand 4 (some .int) [(0, 9, 12, 13)]) (xRm 8 135 1 6) 1 6 [.ref (ap 0), .int qa, .ref ao] (wOu g ao fo ++ (wCl g ap ad r po pn pl tx rp rl rs rm rn rz sv mm)) (fun r9 w9 => ((er_X6_demand qa) = none ∧ r9 = some (.int 0) ∧ ∃ w8, (w8 = (wCl g ap ad (r.set_dq (sp_cdm r.kp r.ke r.kr r.kt r.kh r.kc r.xn r.xs r.xv r.xh r.xo r.xc r.dq 6)) po pn pl tx rp rl rs rm rn rz sv mm)) ∧ w9 = wOu g ao (vp_updL fo 0 (Int32.toInt64 (sp_X6_demand r qa))) ++ w8) ∨ (∃ E cd, (er_X6_demand qa) = some E ∧ ((E = xIO ∧ cd = 1)) ∧ r9 = some (.int cd) ∧ w9 = wOu g ao fo ++ (wCl g ap ad r po pn pl tx rp rl rs rm rn rz sv mm))) (fun _ _ => False) := by
  refine x_startH (own := RL) (nm := "demand") rfl rfl (by decide +kernel) rfl (nle rfl) (fun p e σ m args below meth c A C htab hr => ?_)
  refine x_lve (lv' := [(0, .ref (ap 0)), (1, .int qa), (2, .ref ao)]) rfl ?_
  refine x_aload_n C 2 rfl rfl dL_demand_0 ?_
  refine x_iconst C 0 (by decide) dL_demand_1 ?_
  refine x_aload_n C 0 rfl rfl dL_demand_2 ?_
  refine x_iload_n C 1 rfl rfl dL_demand_3 ?_
  refine x_EV1 (w1 := wOu g ao fo) (wc := (wCl g ap ad r po pn pl tx rp rl rs rm rn rz sv mm)) [.int qa] [.int 0, .ref ao] C (k_X6_demand l g ap ad r po pn pl tx rp rl rs rm rn rz sv mm qa hc) rfl yV_X6_demand wML_L_86 1 rfl rfl rfl rfl (nle rfl) (nle rfl) (nle rfl) (nle rfl) (nle rfl) dL_demand_4 (fun E w h => ?_) (fun r0 w h => ?_)
  · obtain ⟨hE, rfl⟩ := h
    obtain rfl := erc_X6_demand hE
    refine x_catch (hh := [(0, 9, 12, 13)]) C htab 12 [] ⟨0, 9, 12, 13⟩ [] rfl pass0 (by decide) (by decide) wCL_L_13 (by decide) rfl (fun q1 => ?_)
    refine x_astore_n C [(3, .ref q1), (0, .ref (ap 0)), (1, .int qa), (2, .ref ao)] rfl rfl (by decide) dL_demand_12 ?_
    refine x_iconst C 1 (by decide) dL_demand_13 ?_
    exact x_iret C hr (nle rfl) (nle rfl) dL_demand_14 (Or.inr ⟨xIO, 1, hE, ⟨rfl, rfl⟩, rfl, rfl⟩)
  · obtain ⟨h1, rfl, hw⟩ := h
    refine x_st (st' := [.int (sp_X6_demand r qa), .int 0, .ref ao]) rfl ?_
    refine x_i2l C dL_demand_7 ?_
    refine x_last (f := fo) C 0 3 (wOu g ao (vp_updL fo 0 (Int32.toInt64 (sp_X6_demand r qa))) ++ w) rfl rfl rfl in1 dL_demand_8 ?_
    refine x_goto C 15 (by decide) dL_demand_9 ?_
    refine x_iconst C 0 (by decide) dL_demand_15 ?_
    exact x_iret C hr (nle rfl) (nle rfl) dL_demand_16 (Or.inl ⟨h1, rfl, w, hw, rfl⟩)
theorem erc_X6_aim {qa : Int32} {E : String} (h : (er_X6_aim qa) = some E) : E = xIO := by
  unfold er_X6_aim at h
  (repeat' split at h) <;> cases h <;> first | exact rfl | exact Or.inl rfl | exact Or.inr rfl | exact Or.inr (Or.inl rfl) | exact Or.inr (Or.inr rfl)
theorem yH_L_aim : xYH yL_aim cL_aim 4 (some .int) [(0, 9, 12, 13)] 3 := ⟨wCo_L_aim, wIn_L, ⟨by decide, by decide, by decide +kernel⟩, wSta_L_aim⟩
set_option maxRecDepth 100000 in
set_option maxHeartbeats 1000000 in
theorem k_L_aim (l : Launch) (g : xGt) (ao : Nat) (fo : Nat → Int64) (ap ad : Nat → Nat) (r : xR) (po : Int32) (pn : Int32) (pl : Int32) (tx : Nat → Int32) (rp : Int32) (rl : Int32) (rs : Int32) (rm : Int32) (rn : Int32) (rz : Int32) (sv : xPl) (mm : xPl) (qa : Int32) (hc : clO r po pn) : xM l g.1 (xT g) yL_aim (ws_H yL_aim cL_aim 4 (some .int) [(0, 9, 12, 13)]) (xRm 8 135 1 6) 1 6 [.ref (ap 0), .int qa, .ref ao] (wOu g ao fo ++ (wCl g ap ad r po pn pl tx rp rl rs rm rn rz sv mm)) (fun r9 w9 => ((er_X6_aim qa) = none ∧ r9 = some (.int 0) ∧ ∃ w8, (w8 = (wCl g ap ad (r.set_dq (sp_cdm r.kp r.ke r.kr r.kt r.kh r.kc r.xn r.xs r.xv r.xh r.xo r.xc r.dq 6)) po pn pl tx rp rl rs rm rn rz sv mm)) ∧ w9 = wOu g ao (vp_updL fo 0 (Int32.toInt64 (sp_X6_aim r qa))) ++ w8) ∨ (∃ E cd, (er_X6_aim qa) = some E ∧ ((E = xIO ∧ cd = 1)) ∧ r9 = some (.int cd) ∧ w9 = wOu g ao fo ++ (wCl g ap ad r po pn pl tx rp rl rs rm rn rz sv mm))) (fun _ _ => False) := by
  refine x_startH (own := RL) (nm := "aim") rfl rfl (by decide +kernel) rfl (nle rfl) (fun p e σ m args below meth c A C htab hr => ?_)
  refine x_lve (lv' := [(0, .ref (ap 0)), (1, .int qa), (2, .ref ao)]) rfl ?_
  refine x_aload_n C 2 rfl rfl dL_aim_0 ?_
  refine x_iconst C 0 (by decide) dL_aim_1 ?_
  refine x_aload_n C 0 rfl rfl dL_aim_2 ?_
  refine x_iload_n C 1 rfl rfl dL_aim_3 ?_
  refine x_EV1 (w1 := wOu g ao fo) (wc := (wCl g ap ad r po pn pl tx rp rl rs rm rn rz sv mm)) [.int qa] [.int 0, .ref ao] C (k_X6_aim l g ap ad r po pn pl tx rp rl rs rm rn rz sv mm qa hc) rfl yV_X6_aim wML_L_89 1 rfl rfl rfl rfl (nle rfl) (nle rfl) (nle rfl) (nle rfl) (nle rfl) dL_aim_4 (fun E w h => ?_) (fun r0 w h => ?_)
  · obtain ⟨hE, rfl⟩ := h
    obtain rfl := erc_X6_aim hE
    refine x_catch (hh := [(0, 9, 12, 13)]) C htab 12 [] ⟨0, 9, 12, 13⟩ [] rfl pass0 (by decide) (by decide) wCL_L_13 (by decide) rfl (fun q1 => ?_)
    refine x_astore_n C [(3, .ref q1), (0, .ref (ap 0)), (1, .int qa), (2, .ref ao)] rfl rfl (by decide) dL_aim_12 ?_
    refine x_iconst C 1 (by decide) dL_aim_13 ?_
    exact x_iret C hr (nle rfl) (nle rfl) dL_aim_14 (Or.inr ⟨xIO, 1, hE, ⟨rfl, rfl⟩, rfl, rfl⟩)
  · obtain ⟨h1, rfl, hw⟩ := h
    refine x_st (st' := [.int (sp_X6_aim r qa), .int 0, .ref ao]) rfl ?_
    refine x_i2l C dL_aim_7 ?_
    refine x_last (f := fo) C 0 3 (wOu g ao (vp_updL fo 0 (Int32.toInt64 (sp_X6_aim r qa))) ++ w) rfl rfl rfl in1 dL_aim_8 ?_
    refine x_goto C 15 (by decide) dL_aim_9 ?_
    refine x_iconst C 0 (by decide) dL_aim_15 ?_
    exact x_iret C hr (nle rfl) (nle rfl) dL_aim_16 (Or.inl ⟨h1, rfl, w, hw, rfl⟩)
theorem erc_X6_excess {qa : Int32} {E : String} (h : (er_X6_excess qa) = some E) : E = xIO := by
  unfold er_X6_excess at h
  (repeat' split at h) <;> cases h <;> first | exact rfl | exact Or.inl rfl | exact Or.inr rfl | exact Or.inr (Or.inl rfl) | exact Or.inr (Or.inr rfl)
theorem yH_L_excess : xYH yL_excess cL_excess 4 (some .int) [(0, 9, 12, 13)] 3 := ⟨wCo_L_excess, wIn_L, ⟨by decide, by decide, by decide +kernel⟩, wSta_L_excess⟩
set_option maxRecDepth 100000 in
set_option maxHeartbeats 1000000 in
theorem k_L_excess (l : Launch) (g : xGt) (ao : Nat) (fo : Nat → Int64) (ap ad : Nat → Nat) (r : xR) (po : Int32) (pn : Int32) (pl : Int32) (tx : Nat → Int32) (rp : Int32) (rl : Int32) (rs : Int32) (rm : Int32) (rn : Int32) (rz : Int32) (sv : xPl) (mm : xPl) (qa : Int32) (hc : clO r po pn) : xM l g.1 (xT g) yL_excess (ws_H yL_excess cL_excess 4 (some .int) [(0, 9, 12, 13)]) (xRm 8 135 1 6) 1 6 [.ref (ap 0), .int qa, .ref ao] (wOu g ao fo ++ (wCl g ap ad r po pn pl tx rp rl rs rm rn rz sv mm)) (fun r9 w9 => ((er_X6_excess qa) = none ∧ r9 = some (.int 0) ∧ ∃ w8, (w8 = (wCl g ap ad (r.set_dq (sp_cdm r.kp r.ke r.kr r.kt r.kh r.kc r.xn r.xs r.xv r.xh r.xo r.xc r.dq 6)) po pn pl tx rp rl rs rm rn rz sv mm)) ∧ w9 = wOu g ao (vp_updL fo 0 (Int32.toInt64 (sp_X6_excess r qa))) ++ w8) ∨ (∃ E cd, (er_X6_excess qa) = some E ∧ ((E = xIO ∧ cd = 1)) ∧ r9 = some (.int cd) ∧ w9 = wOu g ao fo ++ (wCl g ap ad r po pn pl tx rp rl rs rm rn rz sv mm))) (fun _ _ => False) := by
  refine x_startH (own := RL) (nm := "excess") rfl rfl (by decide +kernel) rfl (nle rfl) (fun p e σ m args below meth c A C htab hr => ?_)
  refine x_lve (lv' := [(0, .ref (ap 0)), (1, .int qa), (2, .ref ao)]) rfl ?_
  refine x_aload_n C 2 rfl rfl dL_excess_0 ?_
  refine x_iconst C 0 (by decide) dL_excess_1 ?_
  refine x_aload_n C 0 rfl rfl dL_excess_2 ?_
  refine x_iload_n C 1 rfl rfl dL_excess_3 ?_
  refine x_EV1 (w1 := wOu g ao fo) (wc := (wCl g ap ad r po pn pl tx rp rl rs rm rn rz sv mm)) [.int qa] [.int 0, .ref ao] C (k_X6_excess l g ap ad r po pn pl tx rp rl rs rm rn rz sv mm qa hc) rfl yV_X6_excess wML_L_92 1 rfl rfl rfl rfl (nle rfl) (nle rfl) (nle rfl) (nle rfl) (nle rfl) dL_excess_4 (fun E w h => ?_) (fun r0 w h => ?_)
  · obtain ⟨hE, rfl⟩ := h
    obtain rfl := erc_X6_excess hE
    refine x_catch (hh := [(0, 9, 12, 13)]) C htab 12 [] ⟨0, 9, 12, 13⟩ [] rfl pass0 (by decide) (by decide) wCL_L_13 (by decide) rfl (fun q1 => ?_)
    refine x_astore_n C [(3, .ref q1), (0, .ref (ap 0)), (1, .int qa), (2, .ref ao)] rfl rfl (by decide) dL_excess_12 ?_
    refine x_iconst C 1 (by decide) dL_excess_13 ?_
    exact x_iret C hr (nle rfl) (nle rfl) dL_excess_14 (Or.inr ⟨xIO, 1, hE, ⟨rfl, rfl⟩, rfl, rfl⟩)
  · obtain ⟨h1, rfl, hw⟩ := h
    refine x_st (st' := [.int (sp_X6_excess r qa), .int 0, .ref ao]) rfl ?_
    refine x_i2l C dL_excess_7 ?_
    refine x_last (f := fo) C 0 3 (wOu g ao (vp_updL fo 0 (Int32.toInt64 (sp_X6_excess r qa))) ++ w) rfl rfl rfl in1 dL_excess_8 ?_
    refine x_goto C 15 (by decide) dL_excess_9 ?_
    refine x_iconst C 0 (by decide) dL_excess_15 ?_
    exact x_iret C hr (nle rfl) (nle rfl) dL_excess_16 (Or.inl ⟨h1, rfl, w, hw, rfl⟩)
theorem erc_X6_target {qa : Int32} {E : String} (h : (er_X6_target qa) = some E) : E = xIO := by
  unfold er_X6_target at h
  (repeat' split at h) <;> cases h <;> first | exact rfl | exact Or.inl rfl | exact Or.inr rfl | exact Or.inr (Or.inl rfl) | exact Or.inr (Or.inr rfl)
theorem yH_L_target : xYH yL_target cL_target 4 (some .int) [(0, 9, 12, 13)] 3 := ⟨wCo_L_target, wIn_L, ⟨by decide, by decide, by decide +kernel⟩, wSta_L_target⟩
set_option maxRecDepth 100000 in
set_option maxHeartbeats 1000000 in
theorem k_L_target (l : Launch) (g : xGt) (ao : Nat) (fo : Nat → Int64) (ap ad : Nat → Nat) (r : xR) (po : Int32) (pn : Int32) (pl : Int32) (tx : Nat → Int32) (rp : Int32) (rl : Int32) (rs : Int32) (rm : Int32) (rn : Int32) (rz : Int32) (sv : xPl) (mm : xPl) (qa : Int32) (hc : clO r po pn) : xM l g.1 (xT g) yL_target (ws_H yL_target cL_target 4 (some .int) [(0, 9, 12, 13)]) (xRm 8 135 1 6) 1 6 [.ref (ap 0), .int qa, .ref ao] (wOu g ao fo ++ (wCl g ap ad r po pn pl tx rp rl rs rm rn rz sv mm)) (fun r9 w9 => ((er_X6_target qa) = none ∧ r9 = some (.int 0) ∧ ∃ w8, (w8 = (wCl g ap ad r po pn pl tx rp rl rs rm rn rz sv mm)) ∧ w9 = wOu g ao (vp_updL fo 0 (Int32.toInt64 (r.vt (Int32.toNatClampNeg qa)))) ++ w8) ∨ (∃ E cd, (er_X6_target qa) = some E ∧ ((E = xIO ∧ cd = 1)) ∧ r9 = some (.int cd) ∧ w9 = wOu g ao fo ++ (wCl g ap ad r po pn pl tx rp rl rs rm rn rz sv mm))) (fun _ _ => False) := by
  refine x_startH (own := RL) (nm := "target") rfl rfl (by decide +kernel) rfl (nle rfl) (fun p e σ m args below meth c A C htab hr => ?_)
  refine x_lve (lv' := [(0, .ref (ap 0)), (1, .int qa), (2, .ref ao)]) rfl ?_
  refine x_aload_n C 2 rfl rfl dL_target_0 ?_
  refine x_iconst C 0 (by decide) dL_target_1 ?_
  refine x_aload_n C 0 rfl rfl dL_target_2 ?_
  refine x_iload_n C 1 rfl rfl dL_target_3 ?_
  refine x_EV1 (w1 := wOu g ao fo) (wc := (wCl g ap ad r po pn pl tx rp rl rs rm rn rz sv mm)) [.int qa] [.int 0, .ref ao] C (k_X6_target l g ap ad r po pn pl tx rp rl rs rm rn rz sv mm qa hc) rfl yV_X6_target wML_L_95 1 rfl rfl rfl rfl (nle rfl) (nle rfl) (nle rfl) (nle rfl) (nle rfl) dL_target_4 (fun E w h => ?_) (fun r0 w h => ?_)
  · obtain ⟨hE, rfl⟩ := h
    obtain rfl := erc_X6_target hE
    refine x_catch (hh := [(0, 9, 12, 13)]) C htab 12 [] ⟨0, 9, 12, 13⟩ [] rfl pass0 (by decide) (by decide) wCL_L_13 (by decide) rfl (fun q1 => ?_)
    refine x_astore_n C [(3, .ref q1), (0, .ref (ap 0)), (1, .int qa), (2, .ref ao)] rfl rfl (by decide) dL_target_12 ?_
    refine x_iconst C 1 (by decide) dL_target_13 ?_
    exact x_iret C hr (nle rfl) (nle rfl) dL_target_14 (Or.inr ⟨xIO, 1, hE, ⟨rfl, rfl⟩, rfl, rfl⟩)
  · obtain ⟨h1, rfl, hw⟩ := h
    refine x_st (st' := [.int (r.vt (Int32.toNatClampNeg qa)), .int 0, .ref ao]) rfl ?_
    refine x_i2l C dL_target_7 ?_
    refine x_last (f := fo) C 0 3 (wOu g ao (vp_updL fo 0 (Int32.toInt64 (r.vt (Int32.toNatClampNeg qa)))) ++ w) rfl rfl rfl in1 dL_target_8 ?_
    refine x_goto C 15 (by decide) dL_target_9 ?_
    refine x_iconst C 0 (by decide) dL_target_15 ?_
    exact x_iret C hr (nle rfl) (nle rfl) dL_target_16 (Or.inl ⟨h1, rfl, w, hw, rfl⟩)
theorem erc_X6_servoPosition {qa : Int32} {E : String} (h : (er_X6_servoPosition qa) = some E) : E = xIO := by
  unfold er_X6_servoPosition at h
  (repeat' split at h) <;> cases h <;> first | exact rfl | exact Or.inl rfl | exact Or.inr rfl | exact Or.inr (Or.inl rfl) | exact Or.inr (Or.inr rfl)
theorem yH_L_servoPosition : xYH yL_servoPosition cL_servoPosition 4 (some .int) [(0, 9, 12, 13)] 3 := ⟨wCo_L_servoPosition, wIn_L, ⟨by decide, by decide, by decide +kernel⟩, wSta_L_servoPosition⟩
set_option maxRecDepth 100000 in
set_option maxHeartbeats 1000000 in
theorem k_L_servoPosition (l : Launch) (g : xGt) (ao : Nat) (fo : Nat → Int64) (ap ad : Nat → Nat) (r : xR) (po : Int32) (pn : Int32) (pl : Int32) (tx : Nat → Int32) (rp : Int32) (rl : Int32) (rs : Int32) (rm : Int32) (rn : Int32) (rz : Int32) (sv : xPl) (mm : xPl) (qa : Int32) (hc : clO r po pn) : xM l g.1 (xT g) yL_servoPosition (ws_H yL_servoPosition cL_servoPosition 4 (some .int) [(0, 9, 12, 13)]) (xRm 8 135 1 6) 1 6 [.ref (ap 0), .int qa, .ref ao] (wOu g ao fo ++ (wCl g ap ad r po pn pl tx rp rl rs rm rn rz sv mm)) (fun r9 w9 => ((er_X6_servoPosition qa) = none ∧ r9 = some (.int 0) ∧ ∃ w8, (w8 = (wCl g ap ad r po pn pl tx rp rl rs rm rn rz sv mm)) ∧ w9 = wOu g ao (vp_updL fo 0 (Int32.toInt64 (r.va (Int32.toNatClampNeg qa)))) ++ w8) ∨ (∃ E cd, (er_X6_servoPosition qa) = some E ∧ ((E = xIO ∧ cd = 1)) ∧ r9 = some (.int cd) ∧ w9 = wOu g ao fo ++ (wCl g ap ad r po pn pl tx rp rl rs rm rn rz sv mm))) (fun _ _ => False) := by
  refine x_startH (own := RL) (nm := "servoPosition") rfl rfl (by decide +kernel) rfl (nle rfl) (fun p e σ m args below meth c A C htab hr => ?_)
  refine x_lve (lv' := [(0, .ref (ap 0)), (1, .int qa), (2, .ref ao)]) rfl ?_
  refine x_aload_n C 2 rfl rfl dL_servoPosition_0 ?_
  refine x_iconst C 0 (by decide) dL_servoPosition_1 ?_
  refine x_aload_n C 0 rfl rfl dL_servoPosition_2 ?_
  refine x_iload_n C 1 rfl rfl dL_servoPosition_3 ?_
  refine x_EV1 (w1 := wOu g ao fo) (wc := (wCl g ap ad r po pn pl tx rp rl rs rm rn rz sv mm)) [.int qa] [.int 0, .ref ao] C (k_X6_servoPosition l g ap ad r po pn pl tx rp rl rs rm rn rz sv mm qa hc) rfl yV_X6_servoPosition wML_L_98 1 rfl rfl rfl rfl (nle rfl) (nle rfl) (nle rfl) (nle rfl) (nle rfl) dL_servoPosition_4 (fun E w h => ?_) (fun r0 w h => ?_)
  · obtain ⟨hE, rfl⟩ := h
    obtain rfl := erc_X6_servoPosition hE
    refine x_catch (hh := [(0, 9, 12, 13)]) C htab 12 [] ⟨0, 9, 12, 13⟩ [] rfl pass0 (by decide) (by decide) wCL_L_13 (by decide) rfl (fun q1 => ?_)
    refine x_astore_n C [(3, .ref q1), (0, .ref (ap 0)), (1, .int qa), (2, .ref ao)] rfl rfl (by decide) dL_servoPosition_12 ?_
    refine x_iconst C 1 (by decide) dL_servoPosition_13 ?_
    exact x_iret C hr (nle rfl) (nle rfl) dL_servoPosition_14 (Or.inr ⟨xIO, 1, hE, ⟨rfl, rfl⟩, rfl, rfl⟩)
  · obtain ⟨h1, rfl, hw⟩ := h
    refine x_st (st' := [.int (r.va (Int32.toNatClampNeg qa)), .int 0, .ref ao]) rfl ?_
    refine x_i2l C dL_servoPosition_7 ?_
    refine x_last (f := fo) C 0 3 (wOu g ao (vp_updL fo 0 (Int32.toInt64 (r.va (Int32.toNatClampNeg qa)))) ++ w) rfl rfl rfl in1 dL_servoPosition_8 ?_
    refine x_goto C 15 (by decide) dL_servoPosition_9 ?_
    refine x_iconst C 0 (by decide) dL_servoPosition_15 ?_
    exact x_iret C hr (nle rfl) (nle rfl) dL_servoPosition_16 (Or.inl ⟨h1, rfl, w, hw, rfl⟩)
theorem erc_X6_wear {qa : Int32} {E : String} (h : (er_X6_wear qa) = some E) : E = xIO := by
  unfold er_X6_wear at h
  (repeat' split at h) <;> cases h <;> first | exact rfl | exact Or.inl rfl | exact Or.inr rfl | exact Or.inr (Or.inl rfl) | exact Or.inr (Or.inr rfl)
theorem yH_L_wear : xYH yL_wear cL_wear 4 (some .int) [(0, 9, 12, 13)] 3 := ⟨wCo_L_wear, wIn_L, ⟨by decide, by decide, by decide +kernel⟩, wSta_L_wear⟩
set_option maxRecDepth 100000 in
set_option maxHeartbeats 1000000 in
theorem k_L_wear (l : Launch) (g : xGt) (ao : Nat) (fo : Nat → Int64) (ap ad : Nat → Nat) (r : xR) (po : Int32) (pn : Int32) (pl : Int32) (tx : Nat → Int32) (rp : Int32) (rl : Int32) (rs : Int32) (rm : Int32) (rn : Int32) (rz : Int32) (sv : xPl) (mm : xPl) (qa : Int32) (hc : clO r po pn) : xM l g.1 (xT g) yL_wear (ws_H yL_wear cL_wear 4 (some .int) [(0, 9, 12, 13)]) (xRm 8 135 1 6) 1 6 [.ref (ap 0), .int qa, .ref ao] (wOu g ao fo ++ (wCl g ap ad r po pn pl tx rp rl rs rm rn rz sv mm)) (fun r9 w9 => ((er_X6_wear qa) = none ∧ r9 = some (.int 0) ∧ ∃ w8, (w8 = (wCl g ap ad r po pn pl tx rp rl rs rm rn rz sv mm)) ∧ w9 = wOu g ao (vp_updL fo 0 (Int32.toInt64 (r.vw (Int32.toNatClampNeg qa)))) ++ w8) ∨ (∃ E cd, (er_X6_wear qa) = some E ∧ ((E = xIO ∧ cd = 1)) ∧ r9 = some (.int cd) ∧ w9 = wOu g ao fo ++ (wCl g ap ad r po pn pl tx rp rl rs rm rn rz sv mm))) (fun _ _ => False) := by
  refine x_startH (own := RL) (nm := "wear") rfl rfl (by decide +kernel) rfl (nle rfl) (fun p e σ m args below meth c A C htab hr => ?_)
  refine x_lve (lv' := [(0, .ref (ap 0)), (1, .int qa), (2, .ref ao)]) rfl ?_
  refine x_aload_n C 2 rfl rfl dL_wear_0 ?_
  refine x_iconst C 0 (by decide) dL_wear_1 ?_
  refine x_aload_n C 0 rfl rfl dL_wear_2 ?_
  refine x_iload_n C 1 rfl rfl dL_wear_3 ?_
  refine x_EV1 (w1 := wOu g ao fo) (wc := (wCl g ap ad r po pn pl tx rp rl rs rm rn rz sv mm)) [.int qa] [.int 0, .ref ao] C (k_X6_wear l g ap ad r po pn pl tx rp rl rs rm rn rz sv mm qa hc) rfl yV_X6_wear wML_L_101 1 rfl rfl rfl rfl (nle rfl) (nle rfl) (nle rfl) (nle rfl) (nle rfl) dL_wear_4 (fun E w h => ?_) (fun r0 w h => ?_)
  · obtain ⟨hE, rfl⟩ := h
    obtain rfl := erc_X6_wear hE
    refine x_catch (hh := [(0, 9, 12, 13)]) C htab 12 [] ⟨0, 9, 12, 13⟩ [] rfl pass0 (by decide) (by decide) wCL_L_13 (by decide) rfl (fun q1 => ?_)
    refine x_astore_n C [(3, .ref q1), (0, .ref (ap 0)), (1, .int qa), (2, .ref ao)] rfl rfl (by decide) dL_wear_12 ?_
    refine x_iconst C 1 (by decide) dL_wear_13 ?_
    exact x_iret C hr (nle rfl) (nle rfl) dL_wear_14 (Or.inr ⟨xIO, 1, hE, ⟨rfl, rfl⟩, rfl, rfl⟩)
  · obtain ⟨h1, rfl, hw⟩ := h
    refine x_st (st' := [.int (r.vw (Int32.toNatClampNeg qa)), .int 0, .ref ao]) rfl ?_
    refine x_i2l C dL_wear_7 ?_
    refine x_last (f := fo) C 0 3 (wOu g ao (vp_updL fo 0 (Int32.toInt64 (r.vw (Int32.toNatClampNeg qa)))) ++ w) rfl rfl rfl in1 dL_wear_8 ?_
    refine x_goto C 15 (by decide) dL_wear_9 ?_
    refine x_iconst C 0 (by decide) dL_wear_15 ?_
    exact x_iret C hr (nle rfl) (nle rfl) dL_wear_16 (Or.inl ⟨h1, rfl, w, hw, rfl⟩)
theorem erc_X6_send {qa : Int32} {E : String} (h : (er_X6_send qa) = some E) : E = xIA := by
  unfold er_X6_send at h
  (repeat' split at h) <;> cases h <;> first | exact rfl | exact Or.inl rfl | exact Or.inr rfl | exact Or.inr (Or.inl rfl) | exact Or.inr (Or.inr rfl)
theorem yH_L_send : xYH yL_send cL_send 4 (some .int) [(0, 9, 12, 15)] 3 := ⟨wCo_L_send, wIn_L, ⟨by decide, by decide, by decide +kernel⟩, wSta_L_send⟩
set_option maxRecDepth 100000 in
set_option maxHeartbeats 1000000 in
theorem k_L_send (l : Launch) (g : xGt) (ao : Nat) (fo : Nat → Int64) (ap ad : Nat → Nat) (r : xR) (po : Int32) (pn : Int32) (pl : Int32) (tx : Nat → Int32) (rp : Int32) (rl : Int32) (rs : Int32) (rm : Int32) (rn : Int32) (rz : Int32) (sv : xPl) (mm : xPl) (qa : Int32) (hc : clO r po pn) : xM l g.1 (xT g) yL_send (ws_H yL_send cL_send 4 (some .int) [(0, 9, 12, 15)]) (xRm 8 152 26 192) 26 192 [.ref (ap 0), .int qa, .ref ao] (wOu g ao fo ++ (wCl g ap ad r po pn pl tx rp rl rs rm rn rz sv mm)) (fun r9 w9 => ((er_X6_send qa) = none ∧ r9 = some (.int 0) ∧ ∃ w8, (∃ adn : Nat → Nat, w8 = (wCl g ap ad (xRk r.kp r.ke r.kr r.kt r.kh r.kc r.xn r.xs r.xv r.xh r.xo r.xc r.vd r.vn r.vl r.vu r.vs r.vm r.vp (sp_X6_send_vt r qa) (sp_X6_send_va r qa) (sp_X6_send_vw r qa) r.jd (sp_X6_send_jb r qa) r.jc (sp_X6_send_js r qa) (sp_X6_send_jl r qa) (sp_X6_send_jx r qa) (sp_X6_send_ji r qa) (sp_X6_send_jf r qa) (sp_X6_send_jn r qa) (sp_cdm r.kp r.ke r.kr r.kt r.kh r.kc r.xn r.xs r.xv r.xh r.xo r.xc r.dq 6)) (sp_spo2 po pn) (sp_spn2 pn) pl tx rp rl rs rm rn rz (svS sv adn r po pn) mm)) ∧ w9 = wOu g ao (vp_updL fo 0 (Int32.toInt64 (sp_X6_send r qa))) ++ w8) ∨ (∃ E cd, (er_X6_send qa) = some E ∧ ((E = xIA ∧ cd = 1)) ∧ r9 = some (.int cd) ∧ w9 = wOu g ao fo ++ (wCl g ap ad r po pn pl tx rp rl rs rm rn rz sv mm))) (fun _ _ => False) := by
  refine x_startH (own := RL) (nm := "send") rfl rfl (by decide +kernel) rfl (nle rfl) (fun p e σ m args below meth c A C htab hr => ?_)
  refine x_lve (lv' := [(0, .ref (ap 0)), (1, .int qa), (2, .ref ao)]) rfl ?_
  refine x_aload_n C 2 rfl rfl dL_send_0 ?_
  refine x_iconst C 0 (by decide) dL_send_1 ?_
  refine x_aload_n C 0 rfl rfl dL_send_2 ?_
  refine x_iload_n C 1 rfl rfl dL_send_3 ?_
  refine x_EV1 (w1 := wOu g ao fo) (wc := (wCl g ap ad r po pn pl tx rp rl rs rm rn rz sv mm)) [.int qa] [.int 0, .ref ao] C (k_X6_send l g ap ad r po pn pl tx rp rl rs rm rn rz sv mm qa hc) rfl yV_X6_send wML_L_104 1 rfl rfl rfl rfl (nle rfl) (nle rfl) (nle rfl) (nle rfl) (nle rfl) dL_send_4 (fun E w h => ?_) (fun r0 w h => ?_)
  · obtain ⟨hE, rfl⟩ := h
    obtain rfl := erc_X6_send hE
    refine x_catch (hh := [(0, 9, 12, 15)]) C htab 12 [] ⟨0, 9, 12, 15⟩ [] rfl pass0 (by decide) (by decide) wCL_L_15 (by decide) rfl (fun q1 => ?_)
    refine x_astore_n C [(3, .ref q1), (0, .ref (ap 0)), (1, .int qa), (2, .ref ao)] rfl rfl (by decide) dL_send_12 ?_
    refine x_iconst C 1 (by decide) dL_send_13 ?_
    exact x_iret C hr (nle rfl) (nle rfl) dL_send_14 (Or.inr ⟨xIA, 1, hE, ⟨rfl, rfl⟩, rfl, rfl⟩)
  · obtain ⟨h1, rfl, hw⟩ := h
    refine x_st (st' := [.int (sp_X6_send r qa), .int 0, .ref ao]) rfl ?_
    refine x_i2l C dL_send_7 ?_
    refine x_last (f := fo) C 0 3 (wOu g ao (vp_updL fo 0 (Int32.toInt64 (sp_X6_send r qa))) ++ w) rfl rfl rfl in1 dL_send_8 ?_
    refine x_goto C 15 (by decide) dL_send_9 ?_
    refine x_iconst C 0 (by decide) dL_send_15 ?_
    exact x_iret C hr (nle rfl) (nle rfl) dL_send_16 (Or.inl ⟨h1, rfl, w, hw, rfl⟩)
theorem erc_X6_lose {qa : Int32} {E : String} (h : (er_X6_lose qa) = some E) : E = xIA := by
  unfold er_X6_lose at h
  (repeat' split at h) <;> cases h <;> first | exact rfl | exact Or.inl rfl | exact Or.inr rfl | exact Or.inr (Or.inl rfl) | exact Or.inr (Or.inr rfl)
theorem yH_L_lose : xYH yL_lose cL_lose 4 (some .int) [(0, 9, 12, 15)] 3 := ⟨wCo_L_lose, wIn_L, ⟨by decide, by decide, by decide +kernel⟩, wSta_L_lose⟩
set_option maxRecDepth 100000 in
set_option maxHeartbeats 1000000 in
theorem k_L_lose (l : Launch) (g : xGt) (ao : Nat) (fo : Nat → Int64) (ap ad : Nat → Nat) (r : xR) (po : Int32) (pn : Int32) (pl : Int32) (tx : Nat → Int32) (rp : Int32) (rl : Int32) (rs : Int32) (rm : Int32) (rn : Int32) (rz : Int32) (sv : xPl) (mm : xPl) (qa : Int32) (hc : clO r po pn) : xM l g.1 (xT g) yL_lose (ws_H yL_lose cL_lose 4 (some .int) [(0, 9, 12, 15)]) (xRm 8 152 26 192) 26 192 [.ref (ap 0), .int qa, .ref ao] (wOu g ao fo ++ (wCl g ap ad r po pn pl tx rp rl rs rm rn rz sv mm)) (fun r9 w9 => ((er_X6_lose qa) = none ∧ r9 = some (.int 0) ∧ ∃ w8, (∃ adn : Nat → Nat, w8 = (wCl g ap ad (xRk r.kp r.ke r.kr r.kt r.kh r.kc r.xn r.xs r.xv r.xh r.xo r.xc r.vd r.vn r.vl r.vu r.vs r.vm r.vp (sp_X6_lose_vt r qa) (sp_X6_lose_va r qa) (sp_X6_lose_vw r qa) r.jd (sp_X6_lose_jb r qa) r.jc (sp_X6_lose_js r qa) (sp_X6_lose_jl r qa) (sp_X6_lose_jx r qa) (sp_X6_lose_ji r qa) (sp_X6_lose_jf r qa) (sp_X6_lose_jn r qa) (sp_cdm r.kp r.ke r.kr r.kt r.kh r.kc r.xn r.xs r.xv r.xh r.xo r.xc r.dq 6)) (sp_spo2 po pn) (sp_spn2 pn) pl tx rp rl rs rm rn rz (svS sv adn r po pn) mm)) ∧ w9 = wOu g ao (vp_updL fo 0 (Int32.toInt64 (sp_X6_lose r qa))) ++ w8) ∨ (∃ E cd, (er_X6_lose qa) = some E ∧ ((E = xIA ∧ cd = 1)) ∧ r9 = some (.int cd) ∧ w9 = wOu g ao fo ++ (wCl g ap ad r po pn pl tx rp rl rs rm rn rz sv mm))) (fun _ _ => False) := by
  refine x_startH (own := RL) (nm := "lose") rfl rfl (by decide +kernel) rfl (nle rfl) (fun p e σ m args below meth c A C htab hr => ?_)
  refine x_lve (lv' := [(0, .ref (ap 0)), (1, .int qa), (2, .ref ao)]) rfl ?_
  refine x_aload_n C 2 rfl rfl dL_lose_0 ?_
  refine x_iconst C 0 (by decide) dL_lose_1 ?_
  refine x_aload_n C 0 rfl rfl dL_lose_2 ?_
  refine x_iload_n C 1 rfl rfl dL_lose_3 ?_
  refine x_EV1 (w1 := wOu g ao fo) (wc := (wCl g ap ad r po pn pl tx rp rl rs rm rn rz sv mm)) [.int qa] [.int 0, .ref ao] C (k_X6_lose l g ap ad r po pn pl tx rp rl rs rm rn rz sv mm qa hc) rfl yV_X6_lose wML_L_107 1 rfl rfl rfl rfl (nle rfl) (nle rfl) (nle rfl) (nle rfl) (nle rfl) dL_lose_4 (fun E w h => ?_) (fun r0 w h => ?_)
  · obtain ⟨hE, rfl⟩ := h
    obtain rfl := erc_X6_lose hE
    refine x_catch (hh := [(0, 9, 12, 15)]) C htab 12 [] ⟨0, 9, 12, 15⟩ [] rfl pass0 (by decide) (by decide) wCL_L_15 (by decide) rfl (fun q1 => ?_)
    refine x_astore_n C [(3, .ref q1), (0, .ref (ap 0)), (1, .int qa), (2, .ref ao)] rfl rfl (by decide) dL_lose_12 ?_
    refine x_iconst C 1 (by decide) dL_lose_13 ?_
    exact x_iret C hr (nle rfl) (nle rfl) dL_lose_14 (Or.inr ⟨xIA, 1, hE, ⟨rfl, rfl⟩, rfl, rfl⟩)
  · obtain ⟨h1, rfl, hw⟩ := h
    refine x_st (st' := [.int (sp_X6_lose r qa), .int 0, .ref ao]) rfl ?_
    refine x_i2l C dL_lose_7 ?_
    refine x_last (f := fo) C 0 3 (wOu g ao (vp_updL fo 0 (Int32.toInt64 (sp_X6_lose r qa))) ++ w) rfl rfl rfl in1 dL_lose_8 ?_
    refine x_goto C 15 (by decide) dL_lose_9 ?_
    refine x_iconst C 0 (by decide) dL_lose_15 ?_
    exact x_iret C hr (nle rfl) (nle rfl) dL_lose_16 (Or.inl ⟨h1, rfl, w, hw, rfl⟩)
theorem erc_X6_setDelay {qa : Int32} {E : String} (h : (er_X6_setDelay qa) = some E) : E = xIA := by
  unfold er_X6_setDelay at h
  (repeat' split at h) <;> cases h <;> first | exact rfl | exact Or.inl rfl | exact Or.inr rfl | exact Or.inr (Or.inl rfl) | exact Or.inr (Or.inr rfl)
theorem yH_L_setDelay : xYH yL_setDelay cL_setDelay 4 (some .int) [(0, 9, 12, 15)] 3 := ⟨wCo_L_setDelay, wIn_L, ⟨by decide, by decide, by decide +kernel⟩, wSta_L_setDelay⟩
set_option maxRecDepth 100000 in
set_option maxHeartbeats 1000000 in
theorem k_L_setDelay (l : Launch) (g : xGt) (ao : Nat) (fo : Nat → Int64) (ap ad : Nat → Nat) (r : xR) (po : Int32) (pn : Int32) (pl : Int32) (tx : Nat → Int32) (rp : Int32) (rl : Int32) (rs : Int32) (rm : Int32) (rn : Int32) (rz : Int32) (sv : xPl) (mm : xPl) (qa : Int32) (hc : clO r po pn) : xM l g.1 (xT g) yL_setDelay (ws_H yL_setDelay cL_setDelay 4 (some .int) [(0, 9, 12, 15)]) (xRm 8 138 26 192) 26 192 [.ref (ap 0), .int qa, .ref ao] (wOu g ao fo ++ (wCl g ap ad r po pn pl tx rp rl rs rm rn rz sv mm)) (fun r9 w9 => ((er_X6_setDelay qa) = none ∧ r9 = some (.int 0) ∧ ∃ w8, (∃ adn : Nat → Nat, w8 = (wCl g ap ad (r.set_jd qa) (sp_spo2 po pn) (sp_spn2 pn) pl tx rp rl rs rm rn rz (svS sv adn r po pn) mm)) ∧ w9 = wOu g ao (vp_updL fo 0 (Int32.toInt64 r.jd)) ++ w8) ∨ (∃ E cd, (er_X6_setDelay qa) = some E ∧ ((E = xIA ∧ cd = 1)) ∧ r9 = some (.int cd) ∧ w9 = wOu g ao fo ++ (wCl g ap ad r po pn pl tx rp rl rs rm rn rz sv mm))) (fun _ _ => False) := by
  refine x_startH (own := RL) (nm := "setDelay") rfl rfl (by decide +kernel) rfl (nle rfl) (fun p e σ m args below meth c A C htab hr => ?_)
  refine x_lve (lv' := [(0, .ref (ap 0)), (1, .int qa), (2, .ref ao)]) rfl ?_
  refine x_aload_n C 2 rfl rfl dL_setDelay_0 ?_
  refine x_iconst C 0 (by decide) dL_setDelay_1 ?_
  refine x_aload_n C 0 rfl rfl dL_setDelay_2 ?_
  refine x_iload_n C 1 rfl rfl dL_setDelay_3 ?_
  refine x_EV1 (w1 := wOu g ao fo) (wc := (wCl g ap ad r po pn pl tx rp rl rs rm rn rz sv mm)) [.int qa] [.int 0, .ref ao] C (k_X6_setDelay l g ap ad r po pn pl tx rp rl rs rm rn rz sv mm qa hc) rfl yV_X6_setDelay wML_L_110 1 rfl rfl rfl rfl (nle rfl) (nle rfl) (nle rfl) (nle rfl) (nle rfl) dL_setDelay_4 (fun E w h => ?_) (fun r0 w h => ?_)
  · obtain ⟨hE, rfl⟩ := h
    obtain rfl := erc_X6_setDelay hE
    refine x_catch (hh := [(0, 9, 12, 15)]) C htab 12 [] ⟨0, 9, 12, 15⟩ [] rfl pass0 (by decide) (by decide) wCL_L_15 (by decide) rfl (fun q1 => ?_)
    refine x_astore_n C [(3, .ref q1), (0, .ref (ap 0)), (1, .int qa), (2, .ref ao)] rfl rfl (by decide) dL_setDelay_12 ?_
    refine x_iconst C 1 (by decide) dL_setDelay_13 ?_
    exact x_iret C hr (nle rfl) (nle rfl) dL_setDelay_14 (Or.inr ⟨xIA, 1, hE, ⟨rfl, rfl⟩, rfl, rfl⟩)
  · obtain ⟨h1, rfl, hw⟩ := h
    refine x_st (st' := [.int r.jd, .int 0, .ref ao]) rfl ?_
    refine x_i2l C dL_setDelay_7 ?_
    refine x_last (f := fo) C 0 3 (wOu g ao (vp_updL fo 0 (Int32.toInt64 r.jd)) ++ w) rfl rfl rfl in1 dL_setDelay_8 ?_
    refine x_goto C 15 (by decide) dL_setDelay_9 ?_
    refine x_iconst C 0 (by decide) dL_setDelay_15 ?_
    exact x_iret C hr (nle rfl) (nle rfl) dL_setDelay_16 (Or.inl ⟨h1, rfl, w, hw, rfl⟩)
theorem erc_X6_reason {qa : Int32} {E : String} (h : (er_X6_reason qa) = some E) : E = xIO := by
  unfold er_X6_reason at h
  (repeat' split at h) <;> cases h <;> first | exact rfl | exact Or.inl rfl | exact Or.inr rfl | exact Or.inr (Or.inl rfl) | exact Or.inr (Or.inr rfl)
theorem yH_L_reason : xYH yL_reason cL_reason 4 (some .int) [(0, 9, 12, 13)] 3 := ⟨wCo_L_reason, wIn_L, ⟨by decide, by decide, by decide +kernel⟩, wSta_L_reason⟩
set_option maxRecDepth 100000 in
set_option maxHeartbeats 1000000 in
theorem k_L_reason (l : Launch) (g : xGt) (ao : Nat) (fo : Nat → Int64) (ap ad : Nat → Nat) (r : xR) (po : Int32) (pn : Int32) (pl : Int32) (tx : Nat → Int32) (rp : Int32) (rl : Int32) (rs : Int32) (rm : Int32) (rn : Int32) (rz : Int32) (sv : xPl) (mm : xPl) (qa : Int32) (hc : clO r po pn) : xM l g.1 (xT g) yL_reason (ws_H yL_reason cL_reason 4 (some .int) [(0, 9, 12, 13)]) (xRm 8 135 1 6) 1 6 [.ref (ap 0), .int qa, .ref ao] (wOu g ao fo ++ (wCl g ap ad r po pn pl tx rp rl rs rm rn rz sv mm)) (fun r9 w9 => ((er_X6_reason qa) = none ∧ r9 = some (.int 0) ∧ ∃ w8, (w8 = (wCl g ap ad (r.set_dq (sp_cdm r.kp r.ke r.kr r.kt r.kh r.kc r.xn r.xs r.xv r.xh r.xo r.xc r.dq 6)) po pn pl tx rp rl rs rm rn rz sv mm)) ∧ w9 = wOu g ao (vp_updL fo 0 (Int32.toInt64 (sp_X6_reason r qa))) ++ w8) ∨ (∃ E cd, (er_X6_reason qa) = some E ∧ ((E = xIO ∧ cd = 1)) ∧ r9 = some (.int cd) ∧ w9 = wOu g ao fo ++ (wCl g ap ad r po pn pl tx rp rl rs rm rn rz sv mm))) (fun _ _ => False) := by
  refine x_startH (own := RL) (nm := "reason") rfl rfl (by decide +kernel) rfl (nle rfl) (fun p e σ m args below meth c A C htab hr => ?_)
  refine x_lve (lv' := [(0, .ref (ap 0)), (1, .int qa), (2, .ref ao)]) rfl ?_
  refine x_aload_n C 2 rfl rfl dL_reason_0 ?_
  refine x_iconst C 0 (by decide) dL_reason_1 ?_
  refine x_aload_n C 0 rfl rfl dL_reason_2 ?_
  refine x_iload_n C 1 rfl rfl dL_reason_3 ?_
  refine x_EV1 (w1 := wOu g ao fo) (wc := (wCl g ap ad r po pn pl tx rp rl rs rm rn rz sv mm)) [.int qa] [.int 0, .ref ao] C (k_X6_reason l g ap ad r po pn pl tx rp rl rs rm rn rz sv mm qa hc) rfl yV_X6_reason wML_L_113 1 rfl rfl rfl rfl (nle rfl) (nle rfl) (nle rfl) (nle rfl) (nle rfl) dL_reason_4 (fun E w h => ?_) (fun r0 w h => ?_)
  · obtain ⟨hE, rfl⟩ := h
    obtain rfl := erc_X6_reason hE
    refine x_catch (hh := [(0, 9, 12, 13)]) C htab 12 [] ⟨0, 9, 12, 13⟩ [] rfl pass0 (by decide) (by decide) wCL_L_13 (by decide) rfl (fun q1 => ?_)
    refine x_astore_n C [(3, .ref q1), (0, .ref (ap 0)), (1, .int qa), (2, .ref ao)] rfl rfl (by decide) dL_reason_12 ?_
    refine x_iconst C 1 (by decide) dL_reason_13 ?_
    exact x_iret C hr (nle rfl) (nle rfl) dL_reason_14 (Or.inr ⟨xIO, 1, hE, ⟨rfl, rfl⟩, rfl, rfl⟩)
  · obtain ⟨h1, rfl, hw⟩ := h
    refine x_st (st' := [.int (sp_X6_reason r qa), .int 0, .ref ao]) rfl ?_
    refine x_i2l C dL_reason_7 ?_
    refine x_last (f := fo) C 0 3 (wOu g ao (vp_updL fo 0 (Int32.toInt64 (sp_X6_reason r qa))) ++ w) rfl rfl rfl in1 dL_reason_8 ?_
    refine x_goto C 15 (by decide) dL_reason_9 ?_
    refine x_iconst C 0 (by decide) dL_reason_15 ?_
    exact x_iret C hr (nle rfl) (nle rfl) dL_reason_16 (Or.inl ⟨h1, rfl, w, hw, rfl⟩)
theorem erc_X6_framesToAim {qa : Int32} {E : String} (h : (er_X6_framesToAim qa) = some E) : E = xIO := by
  unfold er_X6_framesToAim at h
  (repeat' split at h) <;> cases h <;> first | exact rfl | exact Or.inl rfl | exact Or.inr rfl | exact Or.inr (Or.inl rfl) | exact Or.inr (Or.inr rfl)
theorem yH_L_framesToAim : xYH yL_framesToAim cL_framesToAim 4 (some .int) [(0, 9, 12, 13)] 3 := ⟨wCo_L_framesToAim, wIn_L, ⟨by decide, by decide, by decide +kernel⟩, wSta_L_framesToAim⟩
set_option maxRecDepth 100000 in
set_option maxHeartbeats 1000000 in
theorem k_L_framesToAim (l : Launch) (g : xGt) (ao : Nat) (fo : Nat → Int64) (ap ad : Nat → Nat) (r : xR) (po : Int32) (pn : Int32) (pl : Int32) (tx : Nat → Int32) (rp : Int32) (rl : Int32) (rs : Int32) (rm : Int32) (rn : Int32) (rz : Int32) (sv : xPl) (mm : xPl) (qa : Int32) (hc : clO r po pn) : xM l g.1 (xT g) yL_framesToAim (ws_H yL_framesToAim cL_framesToAim 4 (some .int) [(0, 9, 12, 13)]) (xRm 8 137 1 6) 1 6 [.ref (ap 0), .int qa, .ref ao] (wOu g ao fo ++ (wCl g ap ad r po pn pl tx rp rl rs rm rn rz sv mm)) (fun r9 w9 => ((er_X6_framesToAim qa) = none ∧ r9 = some (.int 0) ∧ ∃ w8, (w8 = (wCl g ap ad (r.set_dq (sp_cdm r.kp r.ke r.kr r.kt r.kh r.kc r.xn r.xs r.xv r.xh r.xo r.xc r.dq 6)) po pn pl tx rp rl rs rm rn rz sv mm)) ∧ w9 = wOu g ao (vp_updL fo 0 (Int32.toInt64 (sp_X6_framesToAim r qa))) ++ w8) ∨ (∃ E cd, (er_X6_framesToAim qa) = some E ∧ ((E = xIO ∧ cd = 1)) ∧ r9 = some (.int cd) ∧ w9 = wOu g ao fo ++ (wCl g ap ad r po pn pl tx rp rl rs rm rn rz sv mm))) (fun _ _ => False) := by
  refine x_startH (own := RL) (nm := "framesToAim") rfl rfl (by decide +kernel) rfl (nle rfl) (fun p e σ m args below meth c A C htab hr => ?_)
  refine x_lve (lv' := [(0, .ref (ap 0)), (1, .int qa), (2, .ref ao)]) rfl ?_
  refine x_aload_n C 2 rfl rfl dL_framesToAim_0 ?_
  refine x_iconst C 0 (by decide) dL_framesToAim_1 ?_
  refine x_aload_n C 0 rfl rfl dL_framesToAim_2 ?_
  refine x_iload_n C 1 rfl rfl dL_framesToAim_3 ?_
  refine x_EV1 (w1 := wOu g ao fo) (wc := (wCl g ap ad r po pn pl tx rp rl rs rm rn rz sv mm)) [.int qa] [.int 0, .ref ao] C (k_X6_framesToAim l g ap ad r po pn pl tx rp rl rs rm rn rz sv mm qa hc) rfl yV_X6_framesToAim wML_L_116 1 rfl rfl rfl rfl (nle rfl) (nle rfl) (nle rfl) (nle rfl) (nle rfl) dL_framesToAim_4 (fun E w h => ?_) (fun r0 w h => ?_)
  · obtain ⟨hE, rfl⟩ := h
    obtain rfl := erc_X6_framesToAim hE
    refine x_catch (hh := [(0, 9, 12, 13)]) C htab 12 [] ⟨0, 9, 12, 13⟩ [] rfl pass0 (by decide) (by decide) wCL_L_13 (by decide) rfl (fun q1 => ?_)
    refine x_astore_n C [(3, .ref q1), (0, .ref (ap 0)), (1, .int qa), (2, .ref ao)] rfl rfl (by decide) dL_framesToAim_12 ?_
    refine x_iconst C 1 (by decide) dL_framesToAim_13 ?_
    exact x_iret C hr (nle rfl) (nle rfl) dL_framesToAim_14 (Or.inr ⟨xIO, 1, hE, ⟨rfl, rfl⟩, rfl, rfl⟩)
  · obtain ⟨h1, rfl, hw⟩ := h
    refine x_st (st' := [.int (sp_X6_framesToAim r qa), .int 0, .ref ao]) rfl ?_
    refine x_i2l C dL_framesToAim_7 ?_
    refine x_last (f := fo) C 0 3 (wOu g ao (vp_updL fo 0 (Int32.toInt64 (sp_X6_framesToAim r qa))) ++ w) rfl rfl rfl in1 dL_framesToAim_8 ?_
    refine x_goto C 15 (by decide) dL_framesToAim_9 ?_
    refine x_iconst C 0 (by decide) dL_framesToAim_15 ?_
    exact x_iret C hr (nle rfl) (nle rfl) dL_framesToAim_16 (Or.inl ⟨h1, rfl, w, hw, rfl⟩)
theorem erc_X6_aimIfMoved {qa : Int32} {qb : Int32} {qc : Int32} {E : String} (h : (er_X6_aimIfMoved qa qb qc) = some E) : E = xIA ∨ E = xIO := by
  unfold er_X6_aimIfMoved at h
  (repeat' split at h) <;> cases h <;> first | exact rfl | exact Or.inl rfl | exact Or.inr rfl | exact Or.inr (Or.inl rfl) | exact Or.inr (Or.inr rfl)
theorem yH_L_aimIfMoved : xYH yL_aimIfMoved cL_aimIfMoved 6 (some .int) [(0, 12, 15, 13), (0, 12, 19, 15)] 5 := ⟨wCo_L_aimIfMoved, wIn_L, ⟨by decide, by decide, by decide +kernel⟩, wSta_L_aimIfMoved⟩
set_option maxRecDepth 100000 in
set_option maxHeartbeats 1000000 in
theorem k_L_aimIfMoved (l : Launch) (g : xGt) (ao : Nat) (fo : Nat → Int64) (ap ad : Nat → Nat) (r : xR) (po : Int32) (pn : Int32) (pl : Int32) (tx : Nat → Int32) (rp : Int32) (rl : Int32) (rs : Int32) (rm : Int32) (rn : Int32) (rz : Int32) (sv : xPl) (mm : xPl) (qa : Int32) (qb : Int32) (qc : Int32) (hc : clO r po pn) : xM l g.1 (xT g) yL_aimIfMoved (ws_H yL_aimIfMoved cL_aimIfMoved 6 (some .int) [(0, 12, 15, 13), (0, 12, 19, 15)]) (xRm 8 141 3 18) 3 18 [.ref (ap 0), .int qa, .int qb, .int qc, .ref ao] (wOu g ao fo ++ (wCl g ap ad r po pn pl tx rp rl rs rm rn rz sv mm)) (fun r9 w9 => ((er_X6_aimIfMoved qa qb qc) = none ∧ r9 = some (.int 0) ∧ ∃ w8, (w8 = (wCl g ap ad (xRk (sp_X6_aimIfMoved_kp r qa qb) r.ke r.kr r.kt r.kh r.kc r.xn r.xs r.xv r.xh r.xo r.xc r.vd r.vn r.vl r.vu r.vs r.vm r.vp r.vt r.va r.vw r.jd r.jb r.jc r.js r.jl r.jx r.ji r.jf r.jn (sp_X6_aimIfMoved_dq r qa qb)) po pn pl tx rp rl rs rm rn rz sv mm)) ∧ w9 = wOu g ao (vp_updL fo 0 (Int32.toInt64 (sp_X6_aimIfMoved r qa qb qc))) ++ w8) ∨ (∃ E cd, (er_X6_aimIfMoved qa qb qc) = some E ∧ ((E = xIA ∧ cd = 2) ∨ (E = xIO ∧ cd = 1)) ∧ r9 = some (.int cd) ∧ w9 = wOu g ao fo ++ (wCl g ap ad r po pn pl tx rp rl rs rm rn rz sv mm))) (fun _ _ => False) := by
  refine x_startH (own := RL) (nm := "aimIfMoved") rfl rfl (by decide +kernel) rfl (nle rfl) (fun p e σ m args below meth c A C htab hr => ?_)
  refine x_lve (lv' := [(0, .ref (ap 0)), (1, .int qa), (2, .int qb), (3, .int qc), (4, .ref ao)]) rfl ?_
  refine x_aload C 4 rfl dL_aimIfMoved_0 ?_
  refine x_iconst C 0 (by decide) dL_aimIfMoved_2 ?_
  refine x_aload_n C 0 rfl rfl dL_aimIfMoved_3 ?_
  refine x_iload_n C 1 rfl rfl dL_aimIfMoved_4 ?_
  refine x_iload_n C 2 rfl rfl dL_aimIfMoved_5 ?_
  refine x_iload_n C 3 rfl rfl dL_aimIfMoved_6 ?_
  refine x_EV1 (w1 := wOu g ao fo) (wc := (wCl g ap ad r po pn pl tx rp rl rs rm rn rz sv mm)) [.int qa, .int qb, .int qc] [.int 0, .ref ao] C (k_X6_aimIfMoved l g ap ad r po pn pl tx rp rl rs rm rn rz sv mm qa qb qc hc) rfl yV_X6_aimIfMoved wML_L_119 1 rfl rfl rfl rfl (nle rfl) (nle rfl) (nle rfl) (nle rfl) (nle rfl) dL_aimIfMoved_7 (fun E w h => ?_) (fun r0 w h => ?_)
  · obtain ⟨hE, rfl⟩ := h
    rcases erc_X6_aimIfMoved hE with rfl | rfl
    · refine x_catch (hh := [(0, 12, 15, 13), (0, 12, 19, 15)]) C htab 19 [⟨0, 12, 15, 13⟩] ⟨0, 12, 19, 15⟩ [] rfl (passC (by decide) wCL_L_13 (by decide) pass0) (by decide) (by decide) wCL_L_15 (by decide) rfl (fun q1 => ?_)
      refine x_astore C [(5, .ref q1), (0, .ref (ap 0)), (1, .int qa), (2, .int qb), (3, .int qc), (4, .ref ao)] rfl (by decide) dL_aimIfMoved_19 ?_
      refine x_iconst C 2 (by decide) dL_aimIfMoved_21 ?_
      exact x_iret C hr (nle rfl) (nle rfl) dL_aimIfMoved_22 (Or.inr ⟨xIA, 2, hE, Or.inl ⟨rfl, rfl⟩, rfl, rfl⟩)
    · refine x_catch (hh := [(0, 12, 15, 13), (0, 12, 19, 15)]) C htab 15 [] ⟨0, 12, 15, 13⟩ [⟨0, 12, 19, 15⟩] rfl pass0 (by decide) (by decide) wCL_L_13 (by decide) rfl (fun q1 => ?_)
      refine x_astore C [(5, .ref q1), (0, .ref (ap 0)), (1, .int qa), (2, .int qb), (3, .int qc), (4, .ref ao)] rfl (by decide) dL_aimIfMoved_15 ?_
      refine x_iconst C 1 (by decide) dL_aimIfMoved_17 ?_
      exact x_iret C hr (nle rfl) (nle rfl) dL_aimIfMoved_18 (Or.inr ⟨xIO, 1, hE, Or.inr (⟨rfl, rfl⟩), rfl, rfl⟩)
  · obtain ⟨h1, rfl, hw⟩ := h
    refine x_st (st' := [.int (sp_X6_aimIfMoved r qa qb qc), .int 0, .ref ao]) rfl ?_
    refine x_i2l C dL_aimIfMoved_10 ?_
    refine x_last (f := fo) C 0 3 (wOu g ao (vp_updL fo 0 (Int32.toInt64 (sp_X6_aimIfMoved r qa qb qc))) ++ w) rfl rfl rfl in1 dL_aimIfMoved_11 ?_
    refine x_goto C 23 (by decide) dL_aimIfMoved_12 ?_
    refine x_iconst C 0 (by decide) dL_aimIfMoved_23 ?_
    exact x_iret C hr (nle rfl) (nle rfl) dL_aimIfMoved_24 (Or.inl ⟨h1, rfl, w, hw, rfl⟩)
theorem erc_X6_drivenBy {qa : Int32} {E : String} (h : (er_X6_drivenBy qa) = some E) : E = xIO := by
  unfold er_X6_drivenBy at h
  (repeat' split at h) <;> cases h <;> first | exact rfl | exact Or.inl rfl | exact Or.inr rfl | exact Or.inr (Or.inl rfl) | exact Or.inr (Or.inr rfl)
theorem yH_L_drivenBy : xYH yL_drivenBy cL_drivenBy 4 (some .int) [(0, 9, 12, 13)] 3 := ⟨wCo_L_drivenBy, wIn_L, ⟨by decide, by decide, by decide +kernel⟩, wSta_L_drivenBy⟩
set_option maxRecDepth 100000 in
set_option maxHeartbeats 1000000 in
theorem k_L_drivenBy (l : Launch) (g : xGt) (ao : Nat) (fo : Nat → Int64) (ap ad : Nat → Nat) (r : xR) (po : Int32) (pn : Int32) (pl : Int32) (tx : Nat → Int32) (rp : Int32) (rl : Int32) (rs : Int32) (rm : Int32) (rn : Int32) (rz : Int32) (sv : xPl) (mm : xPl) (qa : Int32) (hc : clO r po pn) : xM l g.1 (xT g) yL_drivenBy (ws_H yL_drivenBy cL_drivenBy 4 (some .int) [(0, 9, 12, 13)]) (xRm 8 137 1 6) 1 6 [.ref (ap 0), .int qa, .ref ao] (wOu g ao fo ++ (wCl g ap ad r po pn pl tx rp rl rs rm rn rz sv mm)) (fun r9 w9 => ((er_X6_drivenBy qa) = none ∧ r9 = some (.int 0) ∧ ∃ w8, (w8 = (wCl g ap ad r po pn pl tx rp rl rs rm rn rz sv mm)) ∧ w9 = wOu g ao (vp_updL fo 0 (Int32.toInt64 (sp_dby r qa 0 6))) ++ w8) ∨ (∃ E cd, (er_X6_drivenBy qa) = some E ∧ ((E = xIO ∧ cd = 1)) ∧ r9 = some (.int cd) ∧ w9 = wOu g ao fo ++ (wCl g ap ad r po pn pl tx rp rl rs rm rn rz sv mm))) (fun _ _ => False) := by
  refine x_startH (own := RL) (nm := "drivenBy") rfl rfl (by decide +kernel) rfl (nle rfl) (fun p e σ m args below meth c A C htab hr => ?_)
  refine x_lve (lv' := [(0, .ref (ap 0)), (1, .int qa), (2, .ref ao)]) rfl ?_
  refine x_aload_n C 2 rfl rfl dL_drivenBy_0 ?_
  refine x_iconst C 0 (by decide) dL_drivenBy_1 ?_
  refine x_aload_n C 0 rfl rfl dL_drivenBy_2 ?_
  refine x_iload_n C 1 rfl rfl dL_drivenBy_3 ?_
  refine x_EV1 (w1 := wOu g ao fo) (wc := (wCl g ap ad r po pn pl tx rp rl rs rm rn rz sv mm)) [.int qa] [.int 0, .ref ao] C (k_X6_drivenBy l g ap ad r po pn pl tx rp rl rs rm rn rz sv mm qa hc) rfl yV_X6_drivenBy wML_L_122 1 rfl rfl rfl rfl (nle rfl) (nle rfl) (nle rfl) (nle rfl) (nle rfl) dL_drivenBy_4 (fun E w h => ?_) (fun r0 w h => ?_)
  · obtain ⟨hE, rfl⟩ := h
    obtain rfl := erc_X6_drivenBy hE
    refine x_catch (hh := [(0, 9, 12, 13)]) C htab 12 [] ⟨0, 9, 12, 13⟩ [] rfl pass0 (by decide) (by decide) wCL_L_13 (by decide) rfl (fun q1 => ?_)
    refine x_astore_n C [(3, .ref q1), (0, .ref (ap 0)), (1, .int qa), (2, .ref ao)] rfl rfl (by decide) dL_drivenBy_12 ?_
    refine x_iconst C 1 (by decide) dL_drivenBy_13 ?_
    exact x_iret C hr (nle rfl) (nle rfl) dL_drivenBy_14 (Or.inr ⟨xIO, 1, hE, ⟨rfl, rfl⟩, rfl, rfl⟩)
  · obtain ⟨h1, rfl, hw⟩ := h
    refine x_st (st' := [.int (sp_dby r qa 0 6), .int 0, .ref ao]) rfl ?_
    refine x_i2l C dL_drivenBy_7 ?_
    refine x_last (f := fo) C 0 3 (wOu g ao (vp_updL fo 0 (Int32.toInt64 (sp_dby r qa 0 6))) ++ w) rfl rfl rfl in1 dL_drivenBy_8 ?_
    refine x_goto C 15 (by decide) dL_drivenBy_9 ?_
    refine x_iconst C 0 (by decide) dL_drivenBy_15 ?_
    exact x_iret C hr (nle rfl) (nle rfl) dL_drivenBy_16 (Or.inl ⟨h1, rfl, w, hw, rfl⟩)
theorem erc_X6_bestTrim {qa : Int32} {qb : Int32} {E : String} (h : (er_X6_bestTrim qa qb) = some E) : E = xIO := by
  unfold er_X6_bestTrim at h
  (repeat' split at h) <;> cases h <;> first | exact rfl | exact Or.inl rfl | exact Or.inr rfl | exact Or.inr (Or.inl rfl) | exact Or.inr (Or.inr rfl)
theorem yH_L_bestTrim : xYH yL_bestTrim cL_bestTrim 5 (some .int) [(0, 10, 13, 13)] 4 := ⟨wCo_L_bestTrim, wIn_L, ⟨by decide, by decide, by decide +kernel⟩, wSta_L_bestTrim⟩
set_option maxRecDepth 100000 in
set_option maxHeartbeats 1000000 in
theorem k_L_bestTrim (l : Launch) (g : xGt) (ao : Nat) (fo : Nat → Int64) (ap ad : Nat → Nat) (r : xR) (po : Int32) (pn : Int32) (pl : Int32) (tx : Nat → Int32) (rp : Int32) (rl : Int32) (rs : Int32) (rm : Int32) (rn : Int32) (rz : Int32) (sv : xPl) (mm : xPl) (qa : Int32) (qb : Int32) (hc : clO r po pn) : xM l g.1 (xT g) yL_bestTrim (ws_H yL_bestTrim cL_bestTrim 5 (some .int) [(0, 10, 13, 13)]) (xRm 8 144 2 12) 2 12 [.ref (ap 0), .int qa, .int qb, .ref ao] (wOu g ao fo ++ (wCl g ap ad r po pn pl tx rp rl rs rm rn rz sv mm)) (fun r9 w9 => ((er_X6_bestTrim qa qb) = none ∧ r9 = some (.int 0) ∧ ∃ w8, (w8 = (wCl g ap ad (rTD r (sp_X6_bestTrim_kt r qa qb) (sp_X6_bestTrim_dq r qa qb)) po pn pl tx rp rl rs rm rn rz sv mm)) ∧ w9 = wOu g ao (vp_updL fo 0 (Int32.toInt64 (sp_X6_bestTrim r qa qb))) ++ w8) ∨ (∃ E cd, (er_X6_bestTrim qa qb) = some E ∧ ((E = xIO ∧ cd = 1)) ∧ r9 = some (.int cd) ∧ w9 = wOu g ao fo ++ (wCl g ap ad r po pn pl tx rp rl rs rm rn rz sv mm))) (fun _ _ => False) := by
  refine x_startH (own := RL) (nm := "bestTrim") rfl rfl (by decide +kernel) rfl (nle rfl) (fun p e σ m args below meth c A C htab hr => ?_)
  refine x_lve (lv' := [(0, .ref (ap 0)), (1, .int qa), (2, .int qb), (3, .ref ao)]) rfl ?_
  refine x_aload_n C 3 rfl rfl dL_bestTrim_0 ?_
  refine x_iconst C 0 (by decide) dL_bestTrim_1 ?_
  refine x_aload_n C 0 rfl rfl dL_bestTrim_2 ?_
  refine x_iload_n C 1 rfl rfl dL_bestTrim_3 ?_
  refine x_iload_n C 2 rfl rfl dL_bestTrim_4 ?_
  refine x_EV1 (w1 := wOu g ao fo) (wc := (wCl g ap ad r po pn pl tx rp rl rs rm rn rz sv mm)) [.int qa, .int qb] [.int 0, .ref ao] C (k_X6_bestTrim l g ap ad r po pn pl tx rp rl rs rm rn rz sv mm qa qb hc) rfl yV_X6_bestTrim wML_L_125 1 rfl rfl rfl rfl (nle rfl) (nle rfl) (nle rfl) (nle rfl) (nle rfl) dL_bestTrim_5 (fun E w h => ?_) (fun r0 w h => ?_)
  · obtain ⟨hE, rfl⟩ := h
    obtain rfl := erc_X6_bestTrim hE
    refine x_catch (hh := [(0, 10, 13, 13)]) C htab 13 [] ⟨0, 10, 13, 13⟩ [] rfl pass0 (by decide) (by decide) wCL_L_13 (by decide) rfl (fun q1 => ?_)
    refine x_astore C [(4, .ref q1), (0, .ref (ap 0)), (1, .int qa), (2, .int qb), (3, .ref ao)] rfl (by decide) dL_bestTrim_13 ?_
    refine x_iconst C 1 (by decide) dL_bestTrim_15 ?_
    exact x_iret C hr (nle rfl) (nle rfl) dL_bestTrim_16 (Or.inr ⟨xIO, 1, hE, ⟨rfl, rfl⟩, rfl, rfl⟩)
  · obtain ⟨h1, rfl, hw⟩ := h
    refine x_st (st' := [.int (sp_X6_bestTrim r qa qb), .int 0, .ref ao]) rfl ?_
    refine x_i2l C dL_bestTrim_8 ?_
    refine x_last (f := fo) C 0 3 (wOu g ao (vp_updL fo 0 (Int32.toInt64 (sp_X6_bestTrim r qa qb))) ++ w) rfl rfl rfl in1 dL_bestTrim_9 ?_
    refine x_goto C 17 (by decide) dL_bestTrim_10 ?_
    refine x_iconst C 0 (by decide) dL_bestTrim_17 ?_
    exact x_iret C hr (nle rfl) (nle rfl) dL_bestTrim_18 (Or.inl ⟨h1, rfl, w, hw, rfl⟩)
theorem erc_X6_append {pl : Int32} {qa : Int32} {E : String} (h : (er_X6_append pl qa) = some E) : E = xIA ∨ E = xIS := by
  unfold er_X6_append at h
  (repeat' split at h) <;> cases h <;> first | exact rfl | exact Or.inl rfl | exact Or.inr rfl | exact Or.inr (Or.inl rfl) | exact Or.inr (Or.inr rfl)
theorem yH_L_append : xYH yL_append cL_append 4 (some .int) [(0, 9, 12, 15), (0, 9, 15, 46)] 3 := ⟨wCo_L_append, wIn_L, ⟨by decide, by decide, by decide +kernel⟩, wSta_L_append⟩
set_option maxRecDepth 100000 in
set_option maxHeartbeats 1000000 in
theorem k_L_append (l : Launch) (g : xGt) (ao : Nat) (fo : Nat → Int64) (ap ad : Nat → Nat) (r : xR) (po : Int32) (pn : Int32) (pl : Int32) (tx : Nat → Int32) (rp : Int32) (rl : Int32) (rs : Int32) (rm : Int32) (rn : Int32) (rz : Int32) (sv : xPl) (mm : xPl) (qa : Int32) (hc : clO r po pn) (hpl : pl = nI (Int32.toNatClampNeg pl) ∧ Int32.toNatClampNeg pl ≤ 60) : xM l g.1 (xT g) yL_append (ws_H yL_append cL_append 4 (some .int) [(0, 9, 12, 15), (0, 9, 15, 46)]) (xRm 8 137 2 12) 2 12 [.ref (ap 0), .int qa, .ref ao] (wOu g ao fo ++ (wCl g ap ad r po pn pl tx rp rl rs rm rn rz sv mm)) (fun r9 w9 => ((er_X6_append pl qa) = none ∧ r9 = some (.int 0) ∧ ∃ w8, (w8 = (wCl g ap ad r po pn (pl + 1) (upd tx (Int32.toNatClampNeg pl) qa) rp rl rs rm rn rz sv mm)) ∧ w9 = wOu g ao (vp_updL fo 0 (Int32.toInt64 (pl + 1))) ++ w8) ∨ (∃ E cd, (er_X6_append pl qa) = some E ∧ ((E = xIA ∧ cd = 1) ∨ (E = xIS ∧ cd = 2)) ∧ r9 = some (.int cd) ∧ w9 = wOu g ao fo ++ (wCl g ap ad r po pn pl tx rp rl rs rm rn rz sv mm))) (fun _ _ => False) := by
  refine x_startH (own := RL) (nm := "append") rfl rfl (by decide +kernel) rfl (nle rfl) (fun p e σ m args below meth c A C htab hr => ?_)
  refine x_lve (lv' := [(0, .ref (ap 0)), (1, .int qa), (2, .ref ao)]) rfl ?_
  refine x_aload_n C 2 rfl rfl dL_append_0 ?_
  refine x_iconst C 0 (by decide) dL_append_1 ?_
  refine x_aload_n C 0 rfl rfl dL_append_2 ?_
  refine x_iload_n C 1 rfl rfl dL_append_3 ?_
  refine x_EV1 (w1 := wOu g ao fo) (wc := (wCl g ap ad r po pn pl tx rp rl rs rm rn rz sv mm)) [.int qa] [.int 0, .ref ao] C (k_X6_append l g ap ad r po pn pl tx rp rl rs rm rn rz sv mm qa hc hpl) rfl yV_X6_append wML_L_128 1 rfl rfl rfl rfl (nle rfl) (nle rfl) (nle rfl) (nle rfl) (nle rfl) dL_append_4 (fun E w h => ?_) (fun r0 w h => ?_)
  · obtain ⟨hE, rfl⟩ := h
    rcases erc_X6_append hE with rfl | rfl
    · refine x_catch (hh := [(0, 9, 12, 15), (0, 9, 15, 46)]) C htab 12 [] ⟨0, 9, 12, 15⟩ [⟨0, 9, 15, 46⟩] rfl pass0 (by decide) (by decide) wCL_L_15 (by decide) rfl (fun q1 => ?_)
      refine x_astore_n C [(3, .ref q1), (0, .ref (ap 0)), (1, .int qa), (2, .ref ao)] rfl rfl (by decide) dL_append_12 ?_
      refine x_iconst C 1 (by decide) dL_append_13 ?_
      exact x_iret C hr (nle rfl) (nle rfl) dL_append_14 (Or.inr ⟨xIA, 1, hE, Or.inl ⟨rfl, rfl⟩, rfl, rfl⟩)
    · refine x_catch (hh := [(0, 9, 12, 15), (0, 9, 15, 46)]) C htab 15 [⟨0, 9, 12, 15⟩] ⟨0, 9, 15, 46⟩ [] rfl (passC (by decide) wCL_L_15 (by decide) pass0) (by decide) (by decide) wCL_L_46 (by decide) rfl (fun q1 => ?_)
      refine x_astore_n C [(3, .ref q1), (0, .ref (ap 0)), (1, .int qa), (2, .ref ao)] rfl rfl (by decide) dL_append_15 ?_
      refine x_iconst C 2 (by decide) dL_append_16 ?_
      exact x_iret C hr (nle rfl) (nle rfl) dL_append_17 (Or.inr ⟨xIS, 2, hE, Or.inr (⟨rfl, rfl⟩), rfl, rfl⟩)
  · obtain ⟨h1, rfl, hw⟩ := h
    refine x_st (st' := [.int (pl + 1), .int 0, .ref ao]) rfl ?_
    refine x_i2l C dL_append_7 ?_
    refine x_last (f := fo) C 0 3 (wOu g ao (vp_updL fo 0 (Int32.toInt64 (pl + 1))) ++ w) rfl rfl rfl in1 dL_append_8 ?_
    refine x_goto C 18 (by decide) dL_append_9 ?_
    refine x_iconst C 0 (by decide) dL_append_18 ?_
    exact x_iret C hr (nle rfl) (nle rfl) dL_append_19 (Or.inl ⟨h1, rfl, w, hw, rfl⟩)
theorem erc_X6_run {pl : Int32} {tx : Nat → Int32} {rl : Int32} {rs : Int32} {rm : Int32} {E : String} (h : (er_X6_run pl tx rl rs rm) = some E) : E = xIA := by
  unfold er_X6_run at h
  (repeat' split at h) <;> cases h <;> first | exact rfl | exact Or.inl rfl | exact Or.inr rfl | exact Or.inr (Or.inl rfl) | exact Or.inr (Or.inr rfl)
theorem yH_L_run : xYH yL_run cL_run 3 (some .int) [(0, 8, 11, 15)] 2 := ⟨wCo_L_run, wIn_L, ⟨by decide, by decide, by decide +kernel⟩, wSta_L_run⟩
set_option maxRecDepth 100000 in
set_option maxHeartbeats 1000000 in
theorem k_L_run (l : Launch) (g : xGt) (ao : Nat) (fo : Nat → Int64) (ap ad : Nat → Nat) (r : xR) (po : Int32) (pn : Int32) (pl : Int32) (tx : Nat → Int32) (rp : Int32) (rl : Int32) (rs : Int32) (rm : Int32) (rn : Int32) (rz : Int32) (sv : xPl) (mm : xPl) (hc : clO r po pn) (hpl : pl = nI (Int32.toNatClampNeg pl) ∧ Int32.toNatClampNeg pl ≤ 60) (hrd : ¬ (sp_fer pl tx 61 0 0 rl rs rm 0 0).1 < pl → ¬ sp_X0_isAtCommandEnd (sp_fer pl tx 61 0 0 rl rs rm 0 0).2.2.1 = 0 → (∀ i, i < pl.toNatClampNeg → tx i = 59 → qOk (rdI tx (ferQ pl tx rl rs rm) i)) ∧ qOk (rdI tx (ferQ pl tx rl rs rm) pl.toNatClampNeg)) : xM l g.1 (xT g) yL_run (ws_H yL_run cL_run 3 (some .int) [(0, 8, 11, 15)]) (xRm 8 174 25 186) 25 186 [.ref (ap 0), .ref ao] (wOu g ao fo ++ (wCl g ap ad r po pn pl tx rp rl rs rm rn rz sv mm)) (fun r9 w9 => ((er_X6_run pl tx rl rs rm) = none ∧ r9 = some (.int 0) ∧ ∃ w8, (∃ adn : Nat → Nat, w8 = (wCl g ap ad (ruR r pl tx rl rs rm) (sp_spo2 po pn) (sp_spn2 pn) 0 tx ((rdI tx (ferQ pl tx rl rs rm) (Int32.toNatClampNeg pl)).1) ((rdI tx (ferQ pl tx rl rs rm) (Int32.toNatClampNeg pl)).2.1) ((rdI tx (ferQ pl tx rl rs rm) (Int32.toNatClampNeg pl)).2.2.1) ((rdI tx (ferQ pl tx rl rs rm) (Int32.toNatClampNeg pl)).2.2.2.1) ((rdI tx (ferQ pl tx rl rs rm) (Int32.toNatClampNeg pl)).2.2.2.2.1) ((rdI tx (ferQ pl tx rl rs rm) (Int32.toNatClampNeg pl)).2.2.2.2.2) (svS sv adn r po pn) mm)) ∧ w9 = wOu g ao (vp_updL fo 0 (Int32.toInt64 (ruV r pl tx rl rs rm))) ++ w8) ∨ (∃ E cd, (er_X6_run pl tx rl rs rm) = some E ∧ ((E = xIA ∧ cd = 1)) ∧ r9 = some (.int cd) ∧ w9 = wOu g ao fo ++ (wCl g ap ad r po pn pl tx ((sp_fer pl tx 61 0 0 rl rs rm 0 0).2.2.1) ((sp_fer pl tx 61 0 0 rl rs rm 0 0).2.2.2.1) ((sp_fer pl tx 61 0 0 rl rs rm 0 0).2.2.2.2.1) ((sp_fer pl tx 61 0 0 rl rs rm 0 0).2.2.2.2.2.1) ((sp_fer pl tx 61 0 0 rl rs rm 0 0).2.2.2.2.2.2.1) ((sp_fer pl tx 61 0 0 rl rs rm 0 0).2.2.2.2.2.2.2) sv mm))) (fun _ _ => False) := by
  refine x_startH (own := RL) (nm := "run") rfl rfl (by decide +kernel) rfl (nle rfl) (fun p e σ m args below meth c A C htab hr => ?_)
  refine x_lve (lv' := [(0, .ref (ap 0)), (1, .ref ao)]) rfl ?_
  refine x_aload_n C 1 rfl rfl dL_run_0 ?_
  refine x_iconst C 0 (by decide) dL_run_1 ?_
  refine x_aload_n C 0 rfl rfl dL_run_2 ?_
  refine x_EV1 (w1 := wOu g ao fo) (wc := (wCl g ap ad r po pn pl tx rp rl rs rm rn rz sv mm)) [] [.int 0, .ref ao] C (k_X6_run l g ap ad r po pn pl tx rp rl rs rm rn rz sv mm  hc hpl hrd) rfl yV_X6_run wML_L_131 1 rfl rfl rfl rfl (nle rfl) (nle rfl) (nle rfl) (nle rfl) (nle rfl) dL_run_3 (fun E w h => ?_) (fun r0 w h => ?_)
  · obtain ⟨hE, rfl⟩ := h
    obtain rfl := erc_X6_run hE
    refine x_catch (hh := [(0, 8, 11, 15)]) C htab 11 [] ⟨0, 8, 11, 15⟩ [] rfl pass0 (by decide) (by decide) wCL_L_15 (by decide) rfl (fun q1 => ?_)
    refine x_astore_n C [(2, .ref q1), (0, .ref (ap 0)), (1, .ref ao)] rfl rfl (by decide) dL_run_11 ?_
    refine x_iconst C 1 (by decide) dL_run_12 ?_
    exact x_iret C hr (nle rfl) (nle rfl) dL_run_13 (Or.inr ⟨xIA, 1, hE, ⟨rfl, rfl⟩, rfl, rfl⟩)
  · obtain ⟨h1, rfl, hw⟩ := h
    refine x_st (st' := [.int (ruV r pl tx rl rs rm), .int 0, .ref ao]) rfl ?_
    refine x_i2l C dL_run_6 ?_
    refine x_last (f := fo) C 0 3 (wOu g ao (vp_updL fo 0 (Int32.toInt64 (ruV r pl tx rl rs rm))) ++ w) rfl rfl rfl in1 dL_run_7 ?_
    refine x_goto C 14 (by decide) dL_run_8 ?_
    refine x_iconst C 0 (by decide) dL_run_14 ?_
    exact x_iret C hr (nle rfl) (nle rfl) dL_run_15 (Or.inl ⟨h1, rfl, w, hw, rfl⟩)
theorem erc_X6_undo {pn : Int32} {E : String} (h : (er_X6_undo pn) = some E) : E = xIS := by
  unfold er_X6_undo at h
  (repeat' split at h) <;> cases h <;> first | exact rfl | exact Or.inl rfl | exact Or.inr rfl | exact Or.inr (Or.inl rfl) | exact Or.inr (Or.inr rfl)
theorem yH_L_undo : xYH yL_undo cL_undo 3 (some .int) [(0, 8, 11, 46)] 2 := ⟨wCo_L_undo, wIn_L, ⟨by decide, by decide, by decide +kernel⟩, wSta_L_undo⟩
set_option maxRecDepth 100000 in
set_option maxHeartbeats 1000000 in
theorem k_L_undo (l : Launch) (g : xGt) (ao : Nat) (fo : Nat → Int64) (ap ad : Nat → Nat) (r : xR) (po : Int32) (pn : Int32) (pl : Int32) (tx : Nat → Int32) (rp : Int32) (rl : Int32) (rs : Int32) (rm : Int32) (rn : Int32) (rz : Int32) (sv : xPl) (mm : xPl) (hc : clO r po pn) (hsvk : svK sv po pn) : xM l g.1 (xT g) yL_undo (ws_H yL_undo cL_undo 3 (some .int) [(0, 8, 11, 46)]) (xRm 7 115 1 6) 1 6 [.ref (ap 0), .ref ao] (wOu g ao fo ++ (wCl g ap ad r po pn pl tx rp rl rs rm rn rz sv mm)) (fun r9 w9 => ((er_X6_undo pn) = none ∧ r9 = some (.int 0) ∧ ∃ w8, (w8 = (wCl g ap ad (cpR (svR sv (unK po pn) r) r) po (pn - 1) pl tx rp rl rs rm rn rz sv mm)) ∧ w9 = wOu g ao (vp_updL fo 0 (Int32.toInt64 (pn - 1))) ++ w8) ∨ (∃ E cd, (er_X6_undo pn) = some E ∧ ((E = xIS ∧ cd = 1)) ∧ r9 = some (.int cd) ∧ w9 = wOu g ao fo ++ (wCl g ap ad r po pn pl tx rp rl rs rm rn rz sv mm))) (fun _ _ => False) := by
  refine x_startH (own := RL) (nm := "undo") rfl rfl (by decide +kernel) rfl (nle rfl) (fun p e σ m args below meth c A C htab hr => ?_)
  refine x_lve (lv' := [(0, .ref (ap 0)), (1, .ref ao)]) rfl ?_
  refine x_aload_n C 1 rfl rfl dL_undo_0 ?_
  refine x_iconst C 0 (by decide) dL_undo_1 ?_
  refine x_aload_n C 0 rfl rfl dL_undo_2 ?_
  refine x_EV1 (w1 := wOu g ao fo) (wc := (wCl g ap ad r po pn pl tx rp rl rs rm rn rz sv mm)) [] [.int 0, .ref ao] C (k_X6_undo l g ap ad r po pn pl tx rp rl rs rm rn rz sv mm  hc hsvk) rfl yV_X6_undo wML_L_135 1 rfl rfl rfl rfl (nle rfl) (nle rfl) (nle rfl) (nle rfl) (nle rfl) dL_undo_3 (fun E w h => ?_) (fun r0 w h => ?_)
  · obtain ⟨hE, rfl⟩ := h
    obtain rfl := erc_X6_undo hE
    refine x_catch (hh := [(0, 8, 11, 46)]) C htab 11 [] ⟨0, 8, 11, 46⟩ [] rfl pass0 (by decide) (by decide) wCL_L_46 (by decide) rfl (fun q1 => ?_)
    refine x_astore_n C [(2, .ref q1), (0, .ref (ap 0)), (1, .ref ao)] rfl rfl (by decide) dL_undo_11 ?_
    refine x_iconst C 1 (by decide) dL_undo_12 ?_
    exact x_iret C hr (nle rfl) (nle rfl) dL_undo_13 (Or.inr ⟨xIS, 1, hE, ⟨rfl, rfl⟩, rfl, rfl⟩)
  · obtain ⟨h1, rfl, hw⟩ := h
    refine x_st (st' := [.int (pn - 1), .int 0, .ref ao]) rfl ?_
    refine x_i2l C dL_undo_6 ?_
    refine x_last (f := fo) C 0 3 (wOu g ao (vp_updL fo 0 (Int32.toInt64 (pn - 1))) ++ w) rfl rfl rfl in1 dL_undo_7 ?_
    refine x_goto C 14 (by decide) dL_undo_8 ?_
    refine x_iconst C 0 (by decide) dL_undo_14 ?_
    exact x_iret C hr (nle rfl) (nle rfl) dL_undo_15 (Or.inl ⟨h1, rfl, w, hw, rfl⟩)
theorem erc_X6_store {qa : Int32} {E : String} (h : (er_X6_store qa) = some E) : E = xIA := by
  unfold er_X6_store at h
  (repeat' split at h) <;> cases h <;> first | exact rfl | exact Or.inl rfl | exact Or.inr rfl | exact Or.inr (Or.inl rfl) | exact Or.inr (Or.inr rfl)
theorem yH_L_store : xYH yL_store cL_store 4 (some .int) [(0, 9, 12, 15)] 3 := ⟨wCo_L_store, wIn_L, ⟨by decide, by decide, by decide +kernel⟩, wSta_L_store⟩
set_option maxRecDepth 100000 in
set_option maxHeartbeats 1000000 in
theorem k_L_store (l : Launch) (g : xGt) (ao : Nat) (fo : Nat → Int64) (ap ad : Nat → Nat) (r : xR) (po : Int32) (pn : Int32) (pl : Int32) (tx : Nat → Int32) (rp : Int32) (rl : Int32) (rs : Int32) (rm : Int32) (rn : Int32) (rz : Int32) (sv : xPl) (mm : xPl) (qa : Int32) (hc : clO r po pn) : xM l g.1 (xT g) yL_store (ws_H yL_store cL_store 4 (some .int) [(0, 9, 12, 15)]) (xRm 8 137 26 192) 26 192 [.ref (ap 0), .int qa, .ref ao] (wOu g ao fo ++ (wCl g ap ad r po pn pl tx rp rl rs rm rn rz sv mm)) (fun r9 w9 => ((er_X6_store qa) = none ∧ r9 = some (.int 0) ∧ ∃ w8, (∃ adn : Nat → Nat, w8 = (wCl g ap ad r po pn pl tx rp rl rs rm rn rz sv (stS mm adn r (Int32.toNatClampNeg qa)))) ∧ w9 = wOu g ao (vp_updL fo 0 (Int32.toInt64 r.xn)) ++ w8) ∨ (∃ E cd, (er_X6_store qa) = some E ∧ ((E = xIA ∧ cd = 1)) ∧ r9 = some (.int cd) ∧ w9 = wOu g ao fo ++ (wCl g ap ad r po pn pl tx rp rl rs rm rn rz sv mm))) (fun _ _ => False) := by
  refine x_startH (own := RL) (nm := "store") rfl rfl (by decide +kernel) rfl (nle rfl) (fun p e σ m args below meth c A C htab hr => ?_)
  refine x_lve (lv' := [(0, .ref (ap 0)), (1, .int qa), (2, .ref ao)]) rfl ?_
  refine x_aload_n C 2 rfl rfl dL_store_0 ?_
  refine x_iconst C 0 (by decide) dL_store_1 ?_
  refine x_aload_n C 0 rfl rfl dL_store_2 ?_
  refine x_iload_n C 1 rfl rfl dL_store_3 ?_
  refine x_EV1 (w1 := wOu g ao fo) (wc := (wCl g ap ad r po pn pl tx rp rl rs rm rn rz sv mm)) [.int qa] [.int 0, .ref ao] C (k_X6_store l g ap ad r po pn pl tx rp rl rs rm rn rz sv mm qa hc) rfl yV_X6_store wML_L_138 1 rfl rfl rfl rfl (nle rfl) (nle rfl) (nle rfl) (nle rfl) (nle rfl) dL_store_4 (fun E w h => ?_) (fun r0 w h => ?_)
  · obtain ⟨hE, rfl⟩ := h
    obtain rfl := erc_X6_store hE
    refine x_catch (hh := [(0, 9, 12, 15)]) C htab 12 [] ⟨0, 9, 12, 15⟩ [] rfl pass0 (by decide) (by decide) wCL_L_15 (by decide) rfl (fun q1 => ?_)
    refine x_astore_n C [(3, .ref q1), (0, .ref (ap 0)), (1, .int qa), (2, .ref ao)] rfl rfl (by decide) dL_store_12 ?_
    refine x_iconst C 1 (by decide) dL_store_13 ?_
    exact x_iret C hr (nle rfl) (nle rfl) dL_store_14 (Or.inr ⟨xIA, 1, hE, ⟨rfl, rfl⟩, rfl, rfl⟩)
  · obtain ⟨h1, rfl, hw⟩ := h
    refine x_st (st' := [.int r.xn, .int 0, .ref ao]) rfl ?_
    refine x_i2l C dL_store_7 ?_
    refine x_last (f := fo) C 0 3 (wOu g ao (vp_updL fo 0 (Int32.toInt64 r.xn)) ++ w) rfl rfl rfl in1 dL_store_8 ?_
    refine x_goto C 15 (by decide) dL_store_9 ?_
    refine x_iconst C 0 (by decide) dL_store_15 ?_
    exact x_iret C hr (nle rfl) (nle rfl) dL_store_16 (Or.inl ⟨h1, rfl, w, hw, rfl⟩)
theorem erc_X6_recall {mm : xPl} {qa : Int32} {E : String} (h : (er_X6_recall mm qa) = some E) : E = xIA ∨ E = xIS := by
  unfold er_X6_recall at h
  (repeat' split at h) <;> cases h <;> first | exact rfl | exact Or.inl rfl | exact Or.inr rfl | exact Or.inr (Or.inl rfl) | exact Or.inr (Or.inr rfl)
theorem yH_L_recall : xYH yL_recall cL_recall 4 (some .int) [(0, 9, 12, 15), (0, 9, 15, 46)] 3 := ⟨wCo_L_recall, wIn_L, ⟨by decide, by decide, by decide +kernel⟩, wSta_L_recall⟩
set_option maxRecDepth 100000 in
set_option maxHeartbeats 1000000 in
theorem k_L_recall (l : Launch) (g : xGt) (ao : Nat) (fo : Nat → Int64) (ap ad : Nat → Nat) (r : xR) (po : Int32) (pn : Int32) (pl : Int32) (tx : Nat → Int32) (rp : Int32) (rl : Int32) (rs : Int32) (rm : Int32) (rn : Int32) (rz : Int32) (sv : xPl) (mm : xPl) (qa : Int32) (hc : clO r po pn) (hmk : ∀ k x, mm k = some x → rB x.2) : xM l g.1 (xT g) yL_recall (ws_H yL_recall cL_recall 4 (some .int) [(0, 9, 12, 15), (0, 9, 15, 46)]) (xRm 8 138 26 192) 26 192 [.ref (ap 0), .int qa, .ref ao] (wOu g ao fo ++ (wCl g ap ad r po pn pl tx rp rl rs rm rn rz sv mm)) (fun r9 w9 => ((er_X6_recall mm qa) = none ∧ r9 = some (.int 0) ∧ ∃ w8, (∃ adn : Nat → Nat, w8 = (wCl g ap ad (cpR (svR mm (Int32.toNatClampNeg qa) r) r) (sp_spo2 po pn) (sp_spn2 pn) pl tx rp rl rs rm rn rz (svS sv adn r po pn) mm)) ∧ w9 = wOu g ao (vp_updL fo 0 (Int32.toInt64 ((cpR (svR mm (Int32.toNatClampNeg qa) r) r).xn))) ++ w8) ∨ (∃ E cd, (er_X6_recall mm qa) = some E ∧ ((E = xIA ∧ cd = 1) ∨ (E = xIS ∧ cd = 2)) ∧ r9 = some (.int cd) ∧ w9 = wOu g ao fo ++ (wCl g ap ad r po pn pl tx rp rl rs rm rn rz sv mm))) (fun _ _ => False) := by
  refine x_startH (own := RL) (nm := "recall") rfl rfl (by decide +kernel) rfl (nle rfl) (fun p e σ m args below meth c A C htab hr => ?_)
  refine x_lve (lv' := [(0, .ref (ap 0)), (1, .int qa), (2, .ref ao)]) rfl ?_
  refine x_aload_n C 2 rfl rfl dL_recall_0 ?_
  refine x_iconst C 0 (by decide) dL_recall_1 ?_
  refine x_aload_n C 0 rfl rfl dL_recall_2 ?_
  refine x_iload_n C 1 rfl rfl dL_recall_3 ?_
  refine x_EV1 (w1 := wOu g ao fo) (wc := (wCl g ap ad r po pn pl tx rp rl rs rm rn rz sv mm)) [.int qa] [.int 0, .ref ao] C (k_X6_recall l g ap ad r po pn pl tx rp rl rs rm rn rz sv mm qa hc hmk) rfl yV_X6_recall wML_L_141 1 rfl rfl rfl rfl (nle rfl) (nle rfl) (nle rfl) (nle rfl) (nle rfl) dL_recall_4 (fun E w h => ?_) (fun r0 w h => ?_)
  · obtain ⟨hE, rfl⟩ := h
    rcases erc_X6_recall hE with rfl | rfl
    · refine x_catch (hh := [(0, 9, 12, 15), (0, 9, 15, 46)]) C htab 12 [] ⟨0, 9, 12, 15⟩ [⟨0, 9, 15, 46⟩] rfl pass0 (by decide) (by decide) wCL_L_15 (by decide) rfl (fun q1 => ?_)
      refine x_astore_n C [(3, .ref q1), (0, .ref (ap 0)), (1, .int qa), (2, .ref ao)] rfl rfl (by decide) dL_recall_12 ?_
      refine x_iconst C 1 (by decide) dL_recall_13 ?_
      exact x_iret C hr (nle rfl) (nle rfl) dL_recall_14 (Or.inr ⟨xIA, 1, hE, Or.inl ⟨rfl, rfl⟩, rfl, rfl⟩)
    · refine x_catch (hh := [(0, 9, 12, 15), (0, 9, 15, 46)]) C htab 15 [⟨0, 9, 12, 15⟩] ⟨0, 9, 15, 46⟩ [] rfl (passC (by decide) wCL_L_15 (by decide) pass0) (by decide) (by decide) wCL_L_46 (by decide) rfl (fun q1 => ?_)
      refine x_astore_n C [(3, .ref q1), (0, .ref (ap 0)), (1, .int qa), (2, .ref ao)] rfl rfl (by decide) dL_recall_15 ?_
      refine x_iconst C 2 (by decide) dL_recall_16 ?_
      exact x_iret C hr (nle rfl) (nle rfl) dL_recall_17 (Or.inr ⟨xIS, 2, hE, Or.inr (⟨rfl, rfl⟩), rfl, rfl⟩)
  · obtain ⟨h1, rfl, hw⟩ := h
    refine x_st (st' := [.int ((cpR (svR mm (Int32.toNatClampNeg qa) r) r).xn), .int 0, .ref ao]) rfl ?_
    refine x_i2l C dL_recall_7 ?_
    refine x_last (f := fo) C 0 3 (wOu g ao (vp_updL fo 0 (Int32.toInt64 ((cpR (svR mm (Int32.toNatClampNeg qa) r) r).xn))) ++ w) rfl rfl rfl in1 dL_recall_8 ?_
    refine x_goto C 18 (by decide) dL_recall_9 ?_
    refine x_iconst C 0 (by decide) dL_recall_18 ?_
    exact x_iret C hr (nle rfl) (nle rfl) dL_recall_19 (Or.inl ⟨h1, rfl, w, hw, rfl⟩)
