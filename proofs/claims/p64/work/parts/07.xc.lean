section XE
variable {D : va_G} {cl : List vw_C} {A : Nat → Prop}
theorem xD_iff {ws : va_W} : va_D A ws ↔ ws.Pairwise (fun p q => p.1 ≠ q.1) ∧ ∀ q ∈ ws, A q.1 := by
  constructor
  · intro h
    refine ⟨List.pairwise_iff_getElem.mpr fun i j hi hj hij e => ?_, fun q hq => ?_⟩
    · have := h.1 i j _ _ (List.getElem?_eq_getElem hi) (List.getElem?_eq_getElem hj) e
      omega
    · obtain ⟨k, hk⟩ := List.mem_iff_getElem?.mp hq
      exact h.2 k q hk
  · intro h
    refine ⟨fun i j p q hi hj e => ?_, fun k q hk => h.2 q (List.mem_of_getElem? hk)⟩
    obtain ⟨li, ei⟩ := List.getElem?_eq_some_iff.mp hi
    obtain ⟨lj, ej⟩ := List.getElem?_eq_some_iff.mp hj
    rcases Nat.lt_trichotomy i j with g | g | g
    · exact absurd (by rw [ei, ej]; exact e) (List.pairwise_iff_getElem.mp h.1 i j li lj g)
    · exact g
    · exact absurd (by rw [ei, ej]; exact e.symm) (List.pairwise_iff_getElem.mp h.1 j i lj li g)
theorem xP_iff {ws : va_W} {H : Heap} : va_P D cl ws H ↔ ∀ q ∈ ws, va_at D cl q H :=
  ⟨fun h q hq => (List.mem_iff_getElem?.mp hq).elim fun k hk => h k q hk, fun h k q hk => h q (List.mem_of_getElem? hk)⟩
theorem xA_mem {wc : va_W} {sz q : Nat} : va_A wc sz q ↔ (∃ e ∈ wc, e.1 = q) ∨ sz ≤ q := by
  constructor
  · rintro (⟨k, e, h⟩ | h)
    · exact Or.inl ⟨_, List.mem_of_getElem? h, rfl⟩
    · exact Or.inr h
  · rintro (⟨e, h, rfl⟩ | h)
    · obtain ⟨k, hk⟩ := List.mem_iff_getElem?.mp h
      exact Or.inl ⟨k, e.2, hk⟩
    · exact Or.inr h
/-- the callee's cells lie in the caller's area -/
theorem xFree {wc w1 w2 : va_W} {H0 H : Heap} {locs : List Loc} (hD : va_D A (w1 ++ (wc ++ w2))) (hS : va_S A H0 H locs) (hA : ∀ q, H0.size ≤ q → A q) : ∀ q, va_A wc H.size q → A q := by
  intro q h
  rcases xA_mem.mp h with ⟨e, he, rfl⟩ | h
  · exact (xD_iff.mp hD).2 e (List.mem_append_right _ (List.mem_append_left _ he))
  · exact hA q (Nat.le_trans hS.1 h)
/-- what a call brings back, beside what stays -/
theorem xJoin {wc w1 w2 w : va_W} {H H1 : Heap} (hP : va_P D cl (w1 ++ (wc ++ w2)) H) (hD : va_D A (w1 ++ (wc ++ w2))) (hk : ∀ q : Nat, q < H.size → ¬ va_A wc H.size q → H1[q]? = H[q]?) (hF : ∀ q, va_A wc H.size q → A q) (hP1 : va_P D cl w H1) (hD1 : va_D (va_A wc H.size) w) : va_P D cl (w1 ++ (w ++ w2)) H1 ∧ va_D A (w1 ++ (w ++ w2)) := by
  have hp := xP_iff.mp hP
  obtain ⟨hn, hm⟩ := xD_iff.mp hD
  obtain ⟨hn1, hm1⟩ := xD_iff.mp hD1
  obtain ⟨n1, n2, n3⟩ := List.pairwise_append.mp hn
  obtain ⟨n4, n5, n6⟩ := List.pairwise_append.mp n2
  have out1 : ∀ e ∈ w1, ¬ va_A wc H.size e.1 := by
    intro e he h
    rcases xA_mem.mp h with ⟨f, hf, ef⟩ | h
    · exact n3 e he f (List.mem_append_left _ hf) ef.symm
    · exact absurd (hp e (List.mem_append_left _ he)).lt (Nat.not_lt.mpr h)
  have out2 : ∀ e ∈ w2, ¬ va_A wc H.size e.1 := by
    intro e he h
    rcases xA_mem.mp h with ⟨f, hf, ef⟩ | h
    · exact n6 f hf e he ef
    · exact absurd (hp e (List.mem_append_right _ (List.mem_append_right _ he))).lt (Nat.not_lt.mpr h)
  constructor
  · refine xP_iff.mpr fun q hq => ?_
    rcases List.mem_append.mp hq with h | h
    · have h0 := hp q (List.mem_append_left _ h)
      exact h0.kept (hk _ h0.lt (out1 q h))
    · rcases List.mem_append.mp h with h | h
      · exact xP_iff.mp hP1 q h
      · have h0 := hp q (List.mem_append_right _ (List.mem_append_right _ h))
        exact h0.kept (hk _ h0.lt (out2 q h))
  · refine xD_iff.mpr ⟨List.pairwise_append.mpr ⟨n1, List.pairwise_append.mpr ⟨hn1, n5, fun e he f hf ef => out2 f hf (by rw [← ef]; exact hm1 e he)⟩, fun e he f hf ef => ?_⟩, fun q hq => ?_⟩
    · rcases List.mem_append.mp hf with h | h
      · exact out1 e he (by rw [ef]; exact hm1 f h)
      · exact n3 e he f (List.mem_append_right _ h) ef
    · rcases List.mem_append.mp hq with h | h
      · exact hm q (List.mem_append_left _ h)
      · rcases List.mem_append.mp h with h | h
        · exact hF _ (hm1 q h)
        · exact hm q (List.mem_append_right _ (List.mem_append_right _ h))
theorem xP_perm {ws ws' : va_W} {H : Heap} (h : ws.Perm ws') (hP : va_P D cl ws H) : va_P D cl ws' H := xP_iff.mpr fun q hq => xP_iff.mp hP q (h.mem_iff.mpr hq)
theorem xD_perm {ws ws' : va_W} (h : ws.Perm ws') (hD : va_D A ws) : va_D A ws' := xD_iff.mpr ⟨h.pairwise (xD_iff.mp hD).1 (fun e => Ne.symm e), fun q hq => (xD_iff.mp hD).2 q (h.mem_iff.mpr hq)⟩
end XE
theorem xAll_good : GoodIn xAll xAll := fun w h => ⟨h, good_of_word (List.mem_filter.mp h).2⟩
def xY (y : MethodName) (bytes : ByteArray) (maxL : Nat) (ret : Option FieldType) (n : Nat) : Prop := Cond.code y bytes maxL ret ∈ xAll ∧ Cond.initialized y.cls ∈ xAll ∧ y.cls ≠ "java/lang/invoke/MethodHandle" ∧ y.cls ≠ "java/lang/invoke/VarHandle" ∧ (parseMethodDescriptor y.desc).map (fun d => d.parameters.length) = some n
def xYV (y : MethodName) (bytes : ByteArray) (maxL : Nat) (ret : Option FieldType) (n : Nat) : Prop := xY y bytes maxL ret n ∧ Cond.instanceMethod y ∈ xAll ∧ Cond.selects y.cls y y ∈ xAll
def xYS (y : MethodName) (bytes : ByteArray) (maxL : Nat) (ret : Option FieldType) (n : Nat) : Prop := xY y bytes maxL ret n ∧ Cond.static y ∈ xAll
def xYI (y : MethodName) (bytes : ByteArray) (maxL : Nat) (n : Nat) : Prop := xY y bytes maxL none n ∧ Cond.instanceMethod y ∈ xAll ∧ y.name = "<init>"
theorem xGood {y : MethodName} {bytes : ByteArray} {maxL n : Nat} {ret : Option FieldType} (hy : xY y bytes maxL ret n) : GoodIn xAll (ws_ y bytes maxL ret) := fun w h => (List.mem_cons.mp h).elim (fun e => by rw [e]; exact xAll_good _ hy.1) (fun h => xAll_good w h)
theorem xGoodV {own : String} {idx : Nat} {y : MethodName} {bytes : ByteArray} {maxL n : Nat} {ret : Option FieldType} (hl : Cond.methodLink own idx y ∈ xAll) (hy : xYV y bytes maxL ret n) : GoodIn xAll (wsV own idx y.cls y (ws_ y bytes maxL ret)) := by
  intro w h
  rcases List.mem_append.mp h with h | h
  · simp only [List.mem_cons, List.not_mem_nil, or_false] at h
    rcases h with rfl | rfl | rfl | rfl
    · exact xAll_good _ hl
    · exact xAll_good _ hy.2.1
    · exact xAll_good _ hy.2.2
    · exact xAll_good _ hy.1.2.1
  · exact xGood hy.1 w h
theorem xGoodS {own : String} {idx : Nat} {y : MethodName} {bytes : ByteArray} {maxL n : Nat} {ret : Option FieldType} (hl : Cond.methodLink own idx y ∈ xAll) (hy : xYS y bytes maxL ret n) : GoodIn xAll (va_wsS own idx y (ws_ y bytes maxL ret)) := by
  intro w h
  rcases List.mem_append.mp h with h | h
  · simp only [List.mem_cons, List.not_mem_nil, or_false] at h
    rcases h with rfl | rfl | rfl
    · exact xAll_good _ hl
    · exact xAll_good _ hy.2
    · exact xAll_good _ hy.1.2.1
  · exact xGood hy.1 w h
abbrev xRm (fr lo mc ms : Nat) : Room := { frames := fr, cells := mc, slots := ms, locals := lo }
section XB
variable {p : Program} {l : Launch} {e : Env} {R : Room} {s : State} {m : MethodId} {args : Array Value} {below : List Frame} {meth : Method} {c : Code} {cells slots : Nat} {Q : State → Prop} {cc : ByteArray} {pc nL : Nat} {own nm : String} {D : va_G} {tys : List (ClassId × FieldType)} {A : Nat → Prop} {ws : va_W} {lv : List (Nat × Value)} {st : List Value}
/-- a body begins -/
theorem x_start {y : MethodName} {wl : List Cond} {rm : Room} {mc ms : Nat} {As : List Value} {W0 : va_W} {post : Option Value → va_W → Prop} {px : String → va_W → Prop} {ret : Option FieldType} (hown : y.cls = own) (hnam : y.name = nm) (hy : plainName y.cls = true) (hw : wl = Cond.code y cc nL ret :: xAll) (hlen : (lg_sl As).length ≤ nL)
    (body : ∀ (p : Program) (e : Env) (s : State) (m : MethodId) (args : Array Value) (below : List Frame) (meth : Method) (c : Code) (A : Nat → Prop), xC p l s m args meth c cc nL own nm D tys A → (∀ x ∈ c.exceptionTable.toList, False) → meth.sig.returnType = ret → xW p l e rm s m args below meth c D A nL 0 0 (vx_MQ below (xQc D A post) (xXC D A px) args s mc ms A) W0 (lv_args 0 As) 0 []) : xM l D tys y wl rm mc ms As W0 post px := by
  subst hown hnam
  intro hl sz
  refine vx_ofW (cc := cc) (maxL := nL) (ret := ret) hy hw ?_
  intro p e s m args below meth c s₁ B hml hno hv
  obtain ⟨rfl, hsz, hP, hD0, hE⟩ := hv
  have hts0 := atoms_spec (ws := wl) B.pre
  have hts : ∀ w ∈ xAll, w.before _ s = true := fun w h => hts0 w (by rw [hw]; exact List.mem_cons_of_mem _ h)
  have hown : s.vm.findClass y.cls = some m.cls := findClass_of_methodNamed B.named
  have hnm := (name_of_methodNamed B.named B.method).1
  subst hsz
  have hD := hD0.self (sz := s.heap.size)
  have hb := body p e s m _ below meth c (va_A W0 s.heap.size) ⟨B.exec, B.bytes, hml, hown, hts, hE, fun q h => Or.inr h, B.notSynchronized, hnm, hl⟩ hno B.returns
  have hl2 := lv_entry As hlen
  rw [lg_entry_eq]
  exact hb s.heap [] _ hP hD va_S.rf hl2
theorem x_iret {post : Option Value → va_W → Prop} {px : String → va_W → Prop} {mc ms : Nat} {v : Int32} (C : xC p l s m args meth c cc nL own nm D tys A) (hr : meth.sig.returnType = some .int) (hc : cells ≤ mc) (hs : slots ≤ ms) (hd : decode cc pc = .ok (.ireturn, 1)) (hp : post (some (.int v)) ws) : xW p l e R s m args below meth c D A nL cells slots (vx_MQ below (xQc D A post) (xXC D A px) args s mc ms A) ws lv pc [.int v] := fun H locs ls hP hD hS hl => vx_ret (W.widen hc hs (W.iret (hlocks := C.2.2.2.2.2.2.2.1) C.1 C.2.1 hr (fun t ht hW => ⟨⟨_, ws, rfl, hp, by rw [ht]; exact hP, hD⟩, hS.F ht⟩) hS.2.2 hd))
theorem x_zret {post : Option Value → va_W → Prop} {px : String → va_W → Prop} {mc ms : Nat} {v : Int32} (C : xC p l s m args meth c cc nL own nm D tys A) (hr : meth.sig.returnType = some .boolean) (hn : narrow .boolean (.int v) = .int v) (hc : cells ≤ mc) (hs : slots ≤ ms) (hd : decode cc pc = .ok (.ireturn, 1)) (hp : post (some (.int v)) ws) : xW p l e R s m args below meth c D A nL cells slots (vx_MQ below (xQc D A post) (xXC D A px) args s mc ms A) ws lv pc [.int v] := fun H locs ls hP hD hS hl => vx_ret (W.widen hc hs (W.zret (hlocks := C.2.2.2.2.2.2.2.1) C.1 C.2.1 hr hn (fun t ht hW => ⟨⟨_, ws, rfl, hp, by rw [ht]; exact hP, hD⟩, hS.F ht⟩) hS.2.2 hd))
theorem x_lret {post : Option Value → va_W → Prop} {px : String → va_W → Prop} {mc ms : Nat} {v : Int64} (C : xC p l s m args meth c cc nL own nm D tys A) (hr : meth.sig.returnType = some .long) (hc : cells ≤ mc) (hs : slots ≤ ms) (hd : decode cc pc = .ok (.lreturn, 1)) (hp : post (some (.long v)) ws) : xW p l e R s m args below meth c D A nL cells slots (vx_MQ below (xQc D A post) (xXC D A px) args s mc ms A) ws lv pc [.long v] := fun H locs ls hP hD hS hl => vx_ret (W.widen hc hs (W.lret (hlocks := C.2.2.2.2.2.2.2.1) C.1 C.2.1 hr (fun t ht hW => ⟨⟨_, ws, rfl, hp, by rw [ht]; exact hP, hD⟩, hS.F ht⟩) hS.2.2 hd))
theorem x_vret {post : Option Value → va_W → Prop} {px : String → va_W → Prop} {mc ms : Nat} (C : xC p l s m args meth c cc nL own nm D tys A) (hr : meth.sig.returnType = none) (hc : cells ≤ mc) (hs : slots ≤ ms) (hd : decode cc pc = .ok (.return_, 1)) (hp : post none ws) : xW p l e R s m args below meth c D A nL cells slots (vx_MQ below (xQc D A post) (xXC D A px) args s mc ms A) ws lv pc [] := fun H locs ls hP hD hS hl => vx_ret (W.widen hc hs (W.vret (hlocks := C.2.2.2.2.2.2.2.1) C.1 C.2.1 hr (fun t ht hW => ⟨⟨_, ws, rfl, hp, by rw [ht]; exact hP, hD⟩, hS.F ht⟩) hS.2.2 hd))
/-- an exception leaves the method -/
theorem x_out {post : Option Value → va_W → Prop} {px : String → va_W → Prop} {mc ms : Nat} {E : String} (C : xC p l s m args meth c cc nL own nm D tys A) (hno : ∀ x ∈ c.exceptionTable.toList, False) (hc : cells ≤ mc) (hs : slots ≤ ms) (hp : px E ws) : xX p l e R s m args below meth c D A nL cells slots (vx_MQ below (xQc D A post) (xXC D A px) args s mc ms A) ws lv pc E := fun H locs ls rest q ce hP hD hS hl hq hv hcl => vx_out (fun x hx => (hno x hx).elim) C.2.2.2.2.2.2.2.1 hq hv hcl (fun t ht hal => ⟨⟨ws, hp, by rw [ht]; exact hP, hD⟩, hS.F ht⟩) hS.2.2 hc hs
theorem x_ws {ws' : va_W} (h : ws = ws') (K : xW p l e R s m args below meth c D A nL cells slots Q ws' lv pc st) : xW p l e R s m args below meth c D A nL cells slots Q ws lv pc st := by subst h; exact K
theorem x_st {st' : List Value} (h : st = st') (K : xW p l e R s m args below meth c D A nL cells slots Q ws lv pc st') : xW p l e R s m args below meth c D A nL cells slots Q ws lv pc st := by subst h; exact K
theorem x_lve {lv' : List (Nat × Value)} (h : lv = lv') (K : xW p l e R s m args below meth c D A nL cells slots Q ws lv' pc st) : xW p l e R s m args below meth c D A nL cells slots Q ws lv pc st := by subst h; exact K
theorem x_perm {ws' : va_W} (h : ws.Perm ws') (K : xW p l e R s m args below meth c D A nL cells slots Q ws' lv pc st) : xW p l e R s m args below meth c D A nL cells slots Q ws lv pc st := fun H locs ls hP hD hS hl => K H locs ls (xP_perm h hP) (xD_perm h hD) hS hl
theorem x_wid {k n : Nat} (h1 : cells ≤ k) (h2 : slots ≤ n) (K : xW p l e R s m args below meth c D A nL k n Q ws lv pc st) : xW p l e R s m args below meth c D A nL cells slots Q ws lv pc st := fun H locs ls hP hD hS hl => W.widen h1 h2 (K H locs ls hP hD hS hl)
/-- what a call's run gives of the walk -/
theorem x_run {mc ms : Nat} {rest : List Value} {wc w1 w2 : va_W} {post : Option Value → va_W → Prop} {px : String → va_W → Prop} {a : Array Value} (C : xC p l s m args meth c cc nL own nm D tys A) (hws : ws = w1 ++ (wc ++ w2))
    (hr : ∀ (H : Heap) (locs : List Loc) (ls : Array Slot), va_P D vwCl ws H → va_D A ws → va_S A s.heap H locs → lv_has ls nL lv → vx_Run p l e R s m args below meth c H locs cells slots mc ms (F0 m pc ls st) rest (xQc D (va_A wc H.size) post a) (xXC D (va_A wc H.size) px) (va_A wc H.size))
    (Kr : ∀ (r : Option Value) (w : va_W), post r w → xW p l e R s m args below meth c D A nL (cells + mc) (slots + ms) Q (w1 ++ (w ++ w2)) lv (pc + 3) (r.toList ++ rest))
    (Kx : ∀ (E : String) (w : va_W), px E w → xX p l e R s m args below meth c D A nL (cells + mc) (slots + ms) Q (w1 ++ (w ++ w2)) lv pc E) : xW p l e R s m args below meth c D A nL cells slots Q ws lv pc st := by
  subst hws
  intro H locs ls hP hD hS hl T hT X
  have hF := xFree hD hS C.2.2.2.2.2.2.1
  rcases hr H locs ls hP hD hS hl T hT X with ⟨v, st₀, t, T', L, h0, X', hL, e1, e2, ⟨⟨r, w, hv, hp, hPw, hDw⟩, hf⟩, stp⟩ | ⟨q, st₀, t, T', L, E, ce, h0, X', hL, e1, e2, ⟨⟨w, hp, hPw, hDw⟩, hf⟩, hce, hcv, hcl, stp⟩
  · cases hv
    obtain ⟨k1, k2, k3⟩ := vx_keep h0 e1 hS (fun q _ h => hF q h) hF hL hf
    rw [← e1] at hPw
    obtain ⟨hP2, hD2⟩ := xJoin hP hD k2 hF hPw hDw
    obtain ⟨t2, a1, b1⟩ := Kr _ w hp T'.heap (locs ++ L) ls hP2 hD2 k3 hl T' rfl X'
    exact ⟨t2, stp t2 a1, b1⟩
  · obtain ⟨k1, k2, k3⟩ := vx_keep h0 e1 hS (fun q _ h => hF q h) hF hL hf
    rw [← e1] at hPw
    obtain ⟨hP2, hD2⟩ := xJoin hP hD k2 hF hPw hDw
    obtain ⟨t2, a1, b1⟩ := Kx E w hp T'.heap (locs ++ L) ls rest q ce hP2 hD2 k3 hl (by rw [e1]; exact hce) hcv hcl T' rfl X'
    exact ⟨t2, stp.trans a1, b1⟩
/-- the contract's start, out of the caller's -/
theorem x_pre {wc w1 w2 : va_W} {As : List Value} {H : Heap} {locs : List Loc} (C : xC p l s m args meth c cc nL own nm D tys A) (hP : va_P D vwCl (w1 ++ (wc ++ w2)) H) (hD : va_D A (w1 ++ (wc ++ w2))) (hS : va_S A s.heap H locs) (U : State) (hU : U.heap = H) (hW : s.WarmedH U.vm) : va_Pc As (fun U => U.heap.size = H.size ∧ va_P D vwCl wc U.heap ∧ va_D (fun _ => True) wc ∧ xEnv D tys (va_A wc H.size) U U.heap) As.toArray U := by
  have hF := xFree hD hS C.2.2.2.2.2.2.1
  refine ⟨rfl, by rw [hU], by rw [hU]; exact xP_iff.mpr fun q hq => xP_iff.mp hP q (List.mem_append_right _ (List.mem_append_left _ hq)), ?_, by rw [hU]; exact xEnv.kept hS.2.1 hF (xEnv.warm hW C.2.2.2.2.2.1)⟩
  have h2 := (List.pairwise_append.mp (List.pairwise_append.mp (xD_iff.mp hD).1).2.1).1
  exact xD_iff.mpr ⟨h2, fun _ _ => trivial⟩
theorem x_blind {wc : va_W} {As : List Value} {n : Nat} : FrameBlind (va_Pc As (fun U => U.heap.size = n ∧ va_P D vwCl wc U.heap ∧ va_D (fun _ => True) wc ∧ xEnv D tys (va_A wc n) U U.heap)) := fun a U g mk q => by
  obtain ⟨q0, q1, q2, q3, q4⟩ := q
  exact ⟨q0, q1, q2, q3, xEnv.same (u := U) (U := U.calling g mk a) rfl q4⟩
theorem x_callV {y : MethodName} {bytes : ByteArray} {maxL n idx fr lo mc ms b ci N : Nat} {ret : Option FieldType} {T : u_T} {fs : List Value} {w1 wc w2 : va_W} {post : Option Value → va_W → Prop} {px : String → va_W → Prop} (As rest : List Value) (C : xC p l s m args meth c cc nL own nm D tys A) (hM : xM l D tys y (ws_ y bytes maxL ret) (xRm fr lo mc ms) mc ms (.ref b :: As) wc post px) (hy : xYV y bytes maxL ret n) (hl : Cond.methodLink own idx y ∈ xAll) (hws : ws = w1 ++ (wc ++ w2)) (q0 : Nat) (hq : ws[q0]? = some (b, .inr (ci, fs))) (hcl : vwCl[ci]? = some (y.cls, T, N)) (hn : As.length = n) (hst : st = As.reverse ++ .ref b :: rest) (hW : (rest.map fun v => v.category).sum ≤ 8) (hf1 : fr + 1 ≤ R.frames) (hf2 : 8 + (maxL + 11) + lo ≤ R.locals) (hc : cells + mc ≤ R.cells) (hs : slots + ms ≤ R.slots) (hd : decode cc pc = .ok (.invokevirtual idx, 3))
    (Kx : ∀ (E : String) (w : va_W), px E w → xX p l e R s m args below meth c D A nL (cells + mc) (slots + ms) Q (w1 ++ (w ++ w2)) lv pc E)
    (Kr : ∀ (r : Option Value) (w : va_W), post r w → xW p l e R s m args below meth c D A nL (cells + mc) (slots + ms) Q (w1 ++ (w ++ w2)) lv (pc + 3) (r.toList ++ rest)) : xW p l e R s m args below meth c D A nL cells slots Q ws lv pc st := by
  refine x_run (rest := rest) (a := (Value.ref b :: As).toArray) C hws (fun H locs ls hP hD hS hlv => ?_) Kr Kx
  have hR := va_recv (s := s) C.2.2.2.2.2.1.1 hP hcl hq
  subst hws
  exact vx_runV (As := As) (rest := rest) ⟨C.1, C.2.1, C.2.2.1, C.2.2.2.1, C.2.2.2.2.1⟩ (hM C.2.2.2.2.2.2.2.2.2 H.size) (cwV n C.2.2.2.2.1 (xGoodV hl hy) rfl rfl rfl ⟨rfl, hy.1.2.2⟩ ⟨hf1, hf2⟩) ⟨x_blind, hR, fun U hU hW => x_pre C hP hD hS U hU hW⟩ rfl hn hlv.1 hst (lv_room hW) hd ⟨hc, hs⟩
theorem x_callS {y : MethodName} {bytes : ByteArray} {maxL n idx fr lo mc ms : Nat} {ret : Option FieldType} {w1 wc w2 : va_W} {post : Option Value → va_W → Prop} {px : String → va_W → Prop} (As rest : List Value) (C : xC p l s m args meth c cc nL own nm D tys A) (hM : xM l D tys y (ws_ y bytes maxL ret) (xRm fr lo mc ms) mc ms As wc post px) (hy : xYS y bytes maxL ret n) (hl : Cond.methodLink own idx y ∈ xAll) (hws : ws = w1 ++ (wc ++ w2)) (hn : As.length = n) (hst : st = As.reverse ++ rest) (hW : (rest.map fun v => v.category).sum ≤ 8) (hf1 : fr + 1 ≤ R.frames) (hf2 : 8 + (maxL + 11) + lo ≤ R.locals) (hc : cells + mc ≤ R.cells) (hs : slots + ms ≤ R.slots) (hd : decode cc pc = .ok (.invokestatic idx, 3))
    (Kx : ∀ (E : String) (w : va_W), px E w → xX p l e R s m args below meth c D A nL (cells + mc) (slots + ms) Q (w1 ++ (w ++ w2)) lv pc E)
    (Kr : ∀ (r : Option Value) (w : va_W), post r w → xW p l e R s m args below meth c D A nL (cells + mc) (slots + ms) Q (w1 ++ (w ++ w2)) lv (pc + 3) (r.toList ++ rest)) : xW p l e R s m args below meth c D A nL cells slots Q ws lv pc st := by
  refine x_run (rest := rest) (a := As.toArray) C hws (fun H locs ls hP hD hS hlv => ?_) Kr Kx
  subst hws
  exact vx_runS (As := As) (rest := rest) ⟨C.1, C.2.1, C.2.2.1, C.2.2.2.1, C.2.2.2.2.1⟩ (hM C.2.2.2.2.2.2.2.2.2 H.size) (va_cwS n C.2.2.2.2.1 (xGoodS hl hy) rfl rfl rfl hy.1.2.2 ⟨hf1, hf2⟩) ⟨x_blind, fun U hU hW => x_pre C hP hD hS U hU hW⟩ rfl hn hlv.1 hst (lv_room hW) hd ⟨hc, hs⟩
theorem x_callI {y : MethodName} {bytes : ByteArray} {maxL n idx fr lo mc ms b : Nat} {w1 wc w2 : va_W} {post : Option Value → va_W → Prop} {px : String → va_W → Prop} (As rest : List Value) (C : xC p l s m args meth c cc nL own nm D tys A) (hM : xM l D tys y (ws_ y bytes maxL none) (xRm fr lo mc ms) mc ms (.ref b :: As) wc post px) (hy : xYI y bytes maxL n) (hl : Cond.methodLink own idx y ∈ xAll) (hws : ws = w1 ++ (wc ++ w2)) (hn : As.length = n) (hst : st = As.reverse ++ .ref b :: rest) (hW : (rest.map fun v => v.category).sum ≤ 8) (hf1 : fr + 1 ≤ R.frames) (hf2 : 8 + (maxL + 11) + lo ≤ R.locals) (hc : cells + mc ≤ R.cells) (hs : slots + ms ≤ R.slots) (hd : decode cc pc = .ok (.invokespecial idx, 3))
    (Kx : ∀ (E : String) (w : va_W), px E w → xX p l e R s m args below meth c D A nL (cells + mc) (slots + ms) Q (w1 ++ (w ++ w2)) lv pc E)
    (Kr : ∀ (r : Option Value) (w : va_W), post r w → xW p l e R s m args below meth c D A nL (cells + mc) (slots + ms) Q (w1 ++ (w ++ w2)) lv (pc + 3) (r.toList ++ rest)) : xW p l e R s m args below meth c D A nL cells slots Q ws lv pc st := by
  refine x_run (rest := rest) (a := (Value.ref b :: As).toArray) C hws (fun H locs ls hP hD hS hlv => ?_) Kr Kx
  subst hws
  exact vx_runI (As := As) (rest := rest) ⟨C.1, C.2.1, C.2.2.1, C.2.2.2.1, C.2.2.2.2.1⟩ (hM C.2.2.2.2.2.2.2.2.2 H.size) (cwI n C.2.2.2.2.1 (xGood hy.1) rfl rfl rfl (C.2.2.2.2.1 _ hy.1.2.1) (C.2.2.2.2.1 _ hl) (C.2.2.2.2.1 _ hy.2.1) hy.2.2 hy.1.2.2 ⟨hf1, hf2⟩) ⟨x_blind, fun U hU hW => x_pre C hP hD hS U hU hW⟩ rfl hn hlv.1 hst (lv_room hW) hd ⟨hc, hs⟩
theorem x_callSN {y : MethodName} {bytes : ByteArray} {maxL n idx fr lo mc ms : Nat} {host : String} {ret : Option FieldType} {w1 wc w2 : va_W} {post : Option Value → va_W → Prop} {px : String → va_W → Prop} (As rest : List Value) (C : xC p l s m args meth c cc nL own nm D tys A) (hM : xM l D tys y (ws_ y bytes maxL ret) (xRm fr lo mc ms) mc ms As wc post px) (hy : xYS y bytes maxL ret n) (hl : (own, idx, y, host) ∈ xNs) (hws : ws = w1 ++ (wc ++ w2)) (hn : As.length = n) (hst : st = As.reverse ++ rest) (hW : (rest.map fun v => v.category).sum ≤ 8) (hf1 : fr + 1 ≤ R.frames) (hf2 : 8 + (maxL + 11) + lo ≤ R.locals) (hc : cells + mc ≤ R.cells) (hs : slots + ms ≤ R.slots) (hd : decode cc pc = .ok (.invokestatic idx, 3))
    (Kx : ∀ (E : String) (w : va_W), px E w → xX p l e R s m args below meth c D A nL (cells + mc) (slots + ms) Q (w1 ++ (w ++ w2)) lv pc E)
    (Kr : ∀ (r : Option Value) (w : va_W), post r w → xW p l e R s m args below meth c D A nL (cells + mc) (slots + ms) Q (w1 ++ (w ++ w2)) lv (pc + 3) (r.toList ++ rest)) : xW p l e R s m args below meth c D A nL cells slots Q ws lv pc st := by
  refine x_run (rest := rest) (a := As.toArray) C hws (fun H locs ls hP hD hS hlv => ?_) Kr Kx
  subst hws
  exact vx_runSN (As := As) (rest := rest) ⟨C.1, C.2.1, C.2.2.1, C.2.2.2.1, C.2.2.2.2.1⟩ (hM C.2.2.2.2.2.2.2.2.2 H.size) ⟨va_cnB n C.2.2.2.2.1 (xGood hy.1) rfl rfl rfl (C.2.2.2.2.2.1.2.1 _ hl) (C.2.2.2.2.1 _ hy.1.2.1) hy.1.2.2 ⟨hf1, hf2⟩, C.2.2.2.2.1 _ hy.2, trivial⟩ ⟨x_blind, fun U hU hW => x_pre C hP hD hS U hU hW⟩ rfl hn hlv.1 hst (lv_room hW) hd ⟨hc, hs⟩
theorem x_callIN {y : MethodName} {bytes : ByteArray} {maxL n idx fr lo mc ms b : Nat} {host : String} {w1 wc w2 : va_W} {post : Option Value → va_W → Prop} {px : String → va_W → Prop} (As rest : List Value) (C : xC p l s m args meth c cc nL own nm D tys A) (hM : xM l D tys y (ws_ y bytes maxL none) (xRm fr lo mc ms) mc ms (.ref b :: As) wc post px) (hy : xYI y bytes maxL n) (hl : (own, idx, y, host) ∈ xNs) (hws : ws = w1 ++ (wc ++ w2)) (hn : As.length = n) (hst : st = As.reverse ++ .ref b :: rest) (hW : (rest.map fun v => v.category).sum ≤ 8) (hf1 : fr + 1 ≤ R.frames) (hf2 : 8 + (maxL + 11) + lo ≤ R.locals) (hc : cells + mc ≤ R.cells) (hs : slots + ms ≤ R.slots) (hd : decode cc pc = .ok (.invokespecial idx, 3))
    (Kx : ∀ (E : String) (w : va_W), px E w → xX p l e R s m args below meth c D A nL (cells + mc) (slots + ms) Q (w1 ++ (w ++ w2)) lv pc E)
    (Kr : ∀ (r : Option Value) (w : va_W), post r w → xW p l e R s m args below meth c D A nL (cells + mc) (slots + ms) Q (w1 ++ (w ++ w2)) lv (pc + 3) (r.toList ++ rest)) : xW p l e R s m args below meth c D A nL cells slots Q ws lv pc st := by
  refine x_run (rest := rest) (a := (Value.ref b :: As).toArray) C hws (fun H locs ls hP hD hS hlv => ?_) Kr Kx
  subst hws
  exact vx_runIN (As := As) (rest := rest) ⟨C.1, C.2.1, C.2.2.1, C.2.2.2.1, C.2.2.2.2.1⟩ (hM C.2.2.2.2.2.2.2.2.2 H.size) ⟨va_cnB n C.2.2.2.2.1 (xGood hy.1) rfl rfl rfl (C.2.2.2.2.2.1.2.1 _ hl) (C.2.2.2.2.1 _ hy.1.2.1) hy.1.2.2 ⟨hf1, hf2⟩, hy.2.2, C.2.2.2.2.1 _ hy.2.1⟩ ⟨x_blind, fun U hU hW => x_pre C hP hD hS U hU hW⟩ rfl hn hlv.1 hst (lv_room hW) hd ⟨hc, hs⟩
/-- new X(text), thrown; own is PlaneServos -/
theorem x_throw {post : Option Value → va_W → Prop} {px : String → va_W → Prop} {mc ms ik is ic : Nat} {cls text : String} (C : xC p l s m args meth c cc nL RX6 nm D tys A) (hno : ∀ x ∈ c.exceptionTable.toList, False) (hcls : Bundle.fit cls = true) (hk : Cond.classLink RX6 ik cls ∈ xAll) (hini : Cond.initialized cls ∈ xAll) (hca : (cls, cls) ∈ xCa) (hstr : (is, text) ∈ xSs)
    (h1 : ∀ w ∈ (vx_atS RX6 ic cls ["java/lang/RuntimeException", "java/lang/Exception"]).filter goodWord, w ∈ xAll) (h2 : ∀ w ∈ (vx_atS RX6 ic cls ["java/lang/RuntimeException", "java/lang/Exception"]).filter (fun w => !goodWord w), w ∈ Cond.castable cls cls :: xDe.map Cond.declares)
    (hg : ∀ w ∈ Cond.classLink RX6 ik cls :: Cond.initialized cls :: vx_atS RX6 ic cls ["java/lang/RuntimeException", "java/lang/Exception"], vx_ot w = true)
    (d0 : decode cc pc = .ok (.new ik, 3)) (d3 : decode cc (pc + 3) = .ok (.dup, 1)) (d4 : decode cc (pc + 4) = .ok (.ldc is, 2)) (d6 : decode cc (pc + 6) = .ok (.invokespecial ic, 3)) (d9 : decode cc (pc + 9) = .ok (.athrow, 1))
    (hfr : 5 < R.frames) (hlo : (st.map fun v => v.category).sum + 82 ≤ R.locals) (hRc : cells + 1 ≤ R.cells) (hRs : slots + 6 ≤ R.slots) (hc : cells + 1 ≤ mc) (hs : slots + 6 ≤ ms) (hp : px cls ws) : xW p l e R s m args below meth c D A nL cells slots (vx_MQ below (xQc D A post) (xXC D A px) args s mc ms A) ws lv pc st := by
  intro H locs ls hP hD hS hl
  obtain ⟨sa, hsa⟩ := C.2.2.2.2.2.1.2.2.1 _ hstr
  have hcast : (Cond.castable cls cls).before args s = true := va_Nw.use rfl (C.2.2.2.2.2.1.2.2.2.2.1.1 _ hca)
  refine vx_throwS (A := A) (names := ["java/lang/RuntimeException", "java/lang/Exception"]) C.1 C.2.1 C.2.2.2.2.2.2.2.2.2 C.2.2.2.1 hcls (by decide) (C.2.2.2.2.1 _ hk) (C.2.2.2.2.1 _ hini) hsa (vx_hat (fun w hw => C.2.2.2.2.1 _ (h1 w hw)) h2 (vx_c hcast (fun w hw => by obtain ⟨x, hx, rfl⟩ := List.mem_map.mp hw; exact va_Nw.use rfl (C.2.2.2.2.2.1.2.2.2.2.1.2 x hx)))) hg C.2.2.2.2.2.1.2.2.2.2.2.2.1 C.2.2.2.2.2.1.2.2.2.2.2.2.2 hS (hl.1.trans C.2.2.1.symm) d0 d3 d4 d6 d9 (fun x hx => (hno x hx).elim) hfr hlo hRc hRs C.2.2.2.2.2.2.2.1 (fun t hal hz hq => ?_) hS.2.2 hc hs
  have hq' : ∀ q ∈ ws, t.heap[q.1]? = H[q.1]? := fun q hm => hq _ (xP_iff.mp hP q hm).lt
  exact ⟨⟨ws, hp, xP_iff.mpr fun q hm => (xP_iff.mp hP q hm).kept (hq' q hm), hD⟩, Nat.le_trans hS.1 hz, fun q h1 h2 => (hq q (Nat.lt_of_lt_of_le h1 hS.1)).trans (hS.2.1 q h1 h2)⟩
theorem x_throwW {post : Option Value → va_W → Prop} {px : String → va_W → Prop} {mc ms ik is ic : Nat} {cls text : String} (C : xC p l s m args meth c cc nL RX6 nm D tys A) (hno : ∀ x ∈ c.exceptionTable.toList, False) (hcls : Bundle.fit cls = true) (hk : Cond.classLink RX6 ik cls ∈ xAll) (hini : Cond.initialized cls ∈ xAll) (hca : (cls, cls) ∈ xCa) (hstr : (is, text) ∈ xSs)
    (h1 : ∀ w ∈ (vx_atS RX6 ic cls ["java/lang/RuntimeException", "java/lang/Exception"]).filter goodWord, w ∈ xAll) (h2 : ∀ w ∈ (vx_atS RX6 ic cls ["java/lang/RuntimeException", "java/lang/Exception"]).filter (fun w => !goodWord w), w ∈ Cond.castable cls cls :: xDe.map Cond.declares)
    (hg : ∀ w ∈ Cond.classLink RX6 ik cls :: Cond.initialized cls :: vx_atS RX6 ic cls ["java/lang/RuntimeException", "java/lang/Exception"], vx_ot w = true)
    (d0 : decode cc pc = .ok (.new ik, 3)) (d3 : decode cc (pc + 3) = .ok (.dup, 1)) (d4 : decode cc (pc + 4) = .ok (.ldc_w is, 3)) (d7 : decode cc (pc + 7) = .ok (.invokespecial ic, 3)) (d10 : decode cc (pc + 10) = .ok (.athrow, 1))
    (hfr : 5 < R.frames) (hlo : (st.map fun v => v.category).sum + 82 ≤ R.locals) (hRc : cells + 1 ≤ R.cells) (hRs : slots + 6 ≤ R.slots) (hc : cells + 1 ≤ mc) (hs : slots + 6 ≤ ms) (hp : px cls ws) : xW p l e R s m args below meth c D A nL cells slots (vx_MQ below (xQc D A post) (xXC D A px) args s mc ms A) ws lv pc st := by
  intro H locs ls hP hD hS hl
  obtain ⟨sa, hsa⟩ := C.2.2.2.2.2.1.2.2.1 _ hstr
  have hcast : (Cond.castable cls cls).before args s = true := va_Nw.use rfl (C.2.2.2.2.2.1.2.2.2.2.1.1 _ hca)
  refine vx_throwSW (A := A) (names := ["java/lang/RuntimeException", "java/lang/Exception"]) C.1 C.2.1 C.2.2.2.2.2.2.2.2.2 C.2.2.2.1 hcls (by decide) (C.2.2.2.2.1 _ hk) (C.2.2.2.2.1 _ hini) hsa (vx_hat (fun w hw => C.2.2.2.2.1 _ (h1 w hw)) h2 (vx_c hcast (fun w hw => by obtain ⟨x, hx, rfl⟩ := List.mem_map.mp hw; exact va_Nw.use rfl (C.2.2.2.2.2.1.2.2.2.2.1.2 x hx)))) hg C.2.2.2.2.2.1.2.2.2.2.2.2.1 C.2.2.2.2.2.1.2.2.2.2.2.2.2 hS (hl.1.trans C.2.2.1.symm) d0 d3 d4 d7 d10 (fun x hx => (hno x hx).elim) hfr hlo hRc hRs C.2.2.2.2.2.2.2.1 (fun t hal hz hq => ?_) hS.2.2 hc hs
  have hq' : ∀ q ∈ ws, t.heap[q.1]? = H[q.1]? := fun q hm => hq _ (xP_iff.mp hP q hm).lt
  exact ⟨⟨ws, hp, xP_iff.mpr fun q hm => (xP_iff.mp hP q hm).kept (hq' q hm), hD⟩, Nat.le_trans hS.1 hz, fun q h1 h2 => (hq q (Nat.lt_of_lt_of_le h1 hS.1)).trans (hS.2.1 q h1 h2)⟩

theorem x_mmax (C : xC p l s m args meth c cc nL own nm D tys A) {idx : Nat} {x y : Int32} (hl : Cond.methodLink own idx Lib.Math.max.name ∈ xAll) (hst : Cond.static Lib.Math.max.name ∈ xAll) (hi : Cond.initialized "java/lang/Math" ∈ xAll) (hco : Cond.code Lib.Math.max.name Lib.Math.max.code 2 (some .int) ∈ xAll) (hfr : 1 ≤ R.frames) (hlo : (st.map fun v => v.category).sum + 13 ≤ R.locals) (hRc : cells ≤ R.cells) (hRs : slots ≤ R.slots) (hd : decode cc pc = .ok (.invokestatic idx, 3)) (K : xW p l e R s m args below meth c D A nL cells slots Q ws lv (pc + 3) (.int (if x < y then y else x) :: st)) : xW p l e R s m args below meth c D A nL cells slots Q ws lv pc (.int y :: .int x :: st) := fun H locs ls hP hD hS hl2 => va_mmax C.1 C.2.1 (C.2.2.1.trans hl2.1.symm) C.2.2.2.1 (C.2.2.2.2.1 _ hl) (C.2.2.2.2.1 _ hst) (C.2.2.2.2.1 _ hi) (C.2.2.2.2.1 _ hco) hfr hlo hRc hRs hd (K H locs ls hP hD hS hl2)
theorem x_mmin (C : xC p l s m args meth c cc nL own nm D tys A) {idx : Nat} {x y : Int32} (hl : Cond.methodLink own idx Lib.Math.min.name ∈ xAll) (hst : Cond.static Lib.Math.min.name ∈ xAll) (hi : Cond.initialized "java/lang/Math" ∈ xAll) (hco : Cond.code Lib.Math.min.name Lib.Math.min.code 2 (some .int) ∈ xAll) (hfr : 1 ≤ R.frames) (hlo : (st.map fun v => v.category).sum + 13 ≤ R.locals) (hRc : cells ≤ R.cells) (hRs : slots ≤ R.slots) (hd : decode cc pc = .ok (.invokestatic idx, 3)) (K : xW p l e R s m args below meth c D A nL cells slots Q ws lv (pc + 3) (.int (if y < x then y else x) :: st)) : xW p l e R s m args below meth c D A nL cells slots Q ws lv pc (.int y :: .int x :: st) := fun H locs ls hP hD hS hl2 => va_mmin C.1 C.2.1 (C.2.2.1.trans hl2.1.symm) C.2.2.2.1 (C.2.2.2.2.1 _ hl) (C.2.2.2.2.1 _ hst) (C.2.2.2.2.1 _ hi) (C.2.2.2.2.1 _ hco) hfr hlo hRc hRs hd (K H locs ls hP hD hS hl2)
theorem x_mabs (C : xC p l s m args meth c cc nL own nm D tys A) {idx : Nat} {x : Int32} (hl : Cond.methodLink own idx Lib.Math.abs.name ∈ xAll) (hst : Cond.static Lib.Math.abs.name ∈ xAll) (hi : Cond.initialized "java/lang/Math" ∈ xAll) (hco : Cond.code Lib.Math.abs.name Lib.Math.abs.code 1 (some .int) ∈ xAll) (hfr : 1 ≤ R.frames) (hlo : (st.map fun v => v.category).sum + 13 ≤ R.locals) (hRc : cells ≤ R.cells) (hRs : slots ≤ R.slots) (hd : decode cc pc = .ok (.invokestatic idx, 3)) (K : xW p l e R s m args below meth c D A nL cells slots Q ws lv (pc + 3) (.int (if 0 ≤ x then x else 0 - x) :: st)) : xW p l e R s m args below meth c D A nL cells slots Q ws lv pc (.int x :: st) := fun H locs ls hP hD hS hl2 => va_mabs C.1 C.2.1 (C.2.2.1.trans hl2.1.symm) C.2.2.2.1 (C.2.2.2.2.1 _ hl) (C.2.2.2.2.1 _ hst) (C.2.2.2.2.1 _ hi) (C.2.2.2.2.1 _ hco) hfr hlo hRc hRs hd (K H locs ls hP hD hS hl2)
end XB
