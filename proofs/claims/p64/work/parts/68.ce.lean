/-! the law's reading of its script -/
/-- a contract over the script: xs of L numbers at the cell b, read alone -/
def xMs (l : Launch) (D : va_G) (tys : List (ClassId × FieldType)) (y : MethodName) (ws : List Cond) (rm : Room) (mc ms : Nat) (As : List Value) (b L : Nat) (xs : Nat → Int32) (post : Option Value → va_W → Prop) : Prop :=
  l.stackTraces = false → ∀ sz : Nat, vx_Met l y ws rm (va_Pc As (fun U => U.heap.size = sz ∧ (va_X b L xs U U.heap ∧ b < sz) ∧ xEnv D tys (va_A [] sz) U U.heap)) (xQc D (va_A [] sz) post) (xXC D (va_A [] sz) (fun _ _ => False)) mc ms (va_A [] sz)
section ZS
variable {p : Program} {l : Launch} {e : Env} {R : Room} {s : State} {m : MethodId} {args : Array Value} {below : List Frame} {meth : Method} {c : Code} {cells slots : Nat} {Q : State → Prop} {cc : ByteArray} {pc nL : Nat} {own nm : String} {D : va_G} {tys : List (ClassId × FieldType)} {A : Nat → Prop} {ws : va_W} {lv : List (Nat × Value)} {st : List Value}
theorem x_startS {y : MethodName} {wl : List Cond} {rm : Room} {mc ms : Nat} {As : List Value} {b L : Nat} {xs : Nat → Int32} {post : Option Value → va_W → Prop} {ret : Option FieldType} (hown : y.cls = own) (hnam : y.name = nm) (hy : plainName y.cls = true) (hw : wl = Cond.code y cc nL ret :: xAll) (hlen : (lg_sl As).length ≤ nL)
    (body : ∀ (p : Program) (e : Env) (s : State) (m : MethodId) (args : Array Value) (below : List Frame) (meth : Method) (c : Code) (A : Nat → Prop), xC p l s m args meth c cc nL own nm D tys A → va_X b L xs s s.heap → b < s.heap.size → ¬ A b → meth.sig.returnType = ret → xW p l e rm s m args below meth c D A nL 0 0 (vx_MQ below (xQc D A post) (xXC D A (fun _ _ => False)) args s mc ms A) [] (lv_args 0 As) 0 []) : xMs l D tys y wl rm mc ms As b L xs post := by
  subst hown hnam
  intro hl sz
  refine vx_ofW (cc := cc) (maxL := nL) (ret := ret) hy hw ?_
  intro p e s m args below meth c s₁ B hml hno hv
  obtain ⟨rfl, hsz, ⟨hX, hbl⟩, hE⟩ := hv
  have hts0 := atoms_spec (ws := wl) B.pre
  have hts : ∀ w ∈ xAll, w.before _ s = true := fun w h => hts0 w (by rw [hw]; exact List.mem_cons_of_mem _ h)
  have hown : s.vm.findClass y.cls = some m.cls := findClass_of_methodNamed B.named
  have hnm := (name_of_methodNamed B.named B.method).1
  subst hsz
  have hP : va_P D vwCl [] s.heap := fun k q h => by simp at h
  have hD : va_D (va_A [] s.heap.size) [] := ⟨fun i j p q h => by simp at h, fun k q h => by simp at h⟩
  have hbA : ¬ va_A [] s.heap.size b := fun q => by
    rcases xA_mem.mp q with ⟨e, h, _⟩ | h
    · exact absurd h List.not_mem_nil
    · omega
  have hb := body p e s m _ below meth c (va_A [] s.heap.size) ⟨B.exec, B.bytes, hml, hown, hts, hE, fun q h => Or.inr h, B.notSynchronized, hnm, hl⟩ hX hbl hbA B.returns
  have hl2 := lv_entry As hlen
  rw [lg_entry_eq]
  exact hb s.heap [] _ hP hD va_S.rf hl2
theorem x_blindS {As : List Value} {n b L : Nat} {xs : Nat → Int32} : FrameBlind (va_Pc As (fun U => U.heap.size = n ∧ (va_X b L xs U U.heap ∧ b < n) ∧ xEnv D tys (va_A [] n) U U.heap)) := fun a U g mk q => by
  obtain ⟨q0, q1, ⟨q2, q3⟩, q4⟩ := q
  exact ⟨q0, q1, ⟨va_X.moved (u := U) (U := U.calling g mk a) (Vm.Alike.refl _) q2, q3⟩, xEnv.same (u := U) (U := U.calling g mk a) rfl q4⟩
theorem x_preS {As : List Value} {H : Heap} {locs : List Loc} (C : xC p l s m args meth c cc nL own nm D tys A) {b L : Nat} {xs : Nat → Int32} (hX : va_X b L xs s s.heap) (hbl : b < s.heap.size) (hbA : ¬ A b) (hS : va_S A s.heap H locs) (U : State) (hU : U.heap = H) (hW : s.WarmedH U.vm) : va_Pc As (fun U => U.heap.size = H.size ∧ (va_X b L xs U U.heap ∧ b < H.size) ∧ xEnv D tys (va_A [] H.size) U U.heap) As.toArray U := by
  have hF : ∀ q, va_A [] H.size q → A q := fun q h => by
    rcases xA_mem.mp h with ⟨e, h, _⟩ | h
    · exact absurd h List.not_mem_nil
    · exact C.2.2.2.2.2.2.1 q (Nat.le_trans hS.1 h)
  refine ⟨rfl, by rw [hU], ⟨?_, Nat.lt_of_lt_of_le hbl hS.1⟩, by rw [hU]; exact xEnv.kept hS.2.1 hF (xEnv.warm hW C.2.2.2.2.2.1)⟩
  rw [hU]
  exact (va_X.moved hW.alike hX).kept (hS.2.1 b hbl hbA)
theorem x_callSX {y : MethodName} {bytes : ByteArray} {maxL n idx fr lo mc ms : Nat} {ret : Option FieldType} {post : Option Value → va_W → Prop} (As rest : List Value) (C : xC p l s m args meth c cc nL own nm D tys A) {b L : Nat} {xs : Nat → Int32} (hX : va_X b L xs s s.heap) (hbl : b < s.heap.size) (hbA : ¬ A b) (hM : xMs l D tys y (ws_ y bytes maxL ret) (xRm fr lo mc ms) mc ms As b L xs post) (hy : xYS y bytes maxL ret n) (hl : Cond.methodLink own idx y ∈ xAll) (hn : As.length = n) (hst : st = As.reverse ++ rest) (hW : (rest.map fun v => v.category).sum ≤ 8) (hf1 : fr + 1 ≤ R.frames) (hf2 : 8 + (maxL + 11) + lo ≤ R.locals) (hc : cells + mc ≤ R.cells) (hs : slots + ms ≤ R.slots) (hd : decode cc pc = .ok (.invokestatic idx, 3))
    (Kr : ∀ (r : Option Value) (w : va_W), post r w → xW p l e R s m args below meth c D A nL (cells + mc) (slots + ms) Q (w ++ ws) lv (pc + 3) (r.toList ++ rest)) : xW p l e R s m args below meth c D A nL cells slots Q ws lv pc st := by
  refine x_run (w1 := []) (wc := []) (w2 := ws) (rest := rest) (a := As.toArray) (post := post) (px := fun _ _ => False) C rfl (fun H locs ls hP hD hS hlv => ?_) (fun r w h => Kr r w h) (fun E w h => h.elim)
  exact vx_runS (As := As) (rest := rest) ⟨C.1, C.2.1, C.2.2.1, C.2.2.2.1, C.2.2.2.2.1⟩ (hM C.2.2.2.2.2.2.2.2.2 H.size) (va_cwS n C.2.2.2.2.1 (xGoodS hl hy) rfl rfl rfl hy.1.2.2 ⟨hf1, hf2⟩) ⟨x_blindS, fun U hU hW => x_preS C hX hbl hbA hS U hU hW⟩ rfl hn hlv.1 hst (lv_room hW) hd ⟨hc, hs⟩
end ZS
set_option maxRecDepth 100000 in
theorem k_L_cell (l : Launch) (g : xGt) (b L : Nat) (xs : Nat → Int32) (j : Nat) (hj : j < 1000000) (hL : L < 1000000) : xMs l g.1 (xT g) yL_cell (ws_ yL_cell cL_cell 2 (some .int)) (xRm 0 0 0 0) 0 0 [.ref b, .int (nI j)] b L xs (fun r9 w9 => ∃ v : Int32, r9 = some (.int v) ∧ w9 = ([] : va_W)) := by
  refine x_startS (own := RL) (nm := "cell") rfl rfl (by decide +kernel) rfl (nle rfl) (fun p e σ m args below meth c A C hX hbl hbA hr => ?_)
  refine x_lve (lv' := [(0, .ref b), (1, .int (nI j))]) rfl ?_
  refine x_iload_n C 1 rfl rfl dL_cell_0 ?_
  refine x_aload_n C 0 rfl rfl dL_cell_1 ?_
  refine x_slen C hX hbl hbA dL_cell_2 ?_
  refine x_icmp_ge C 12 (by decide) dL_cell_3 (fun h => ?_) (fun h => ?_)
  · refine x_ldcI C wKI_L_7 dL_cell_12 ?_
    refine x_iload_n C 1 rfl rfl dL_cell_14 ?_
    refine x_sipush C 151 (by decide) dL_cell_15 ?_
    refine x_iadd C dL_cell_18 ?_
    refine x_imul C dL_cell_19 ?_
    exact x_iret C hr (nle rfl) (nle rfl) dL_cell_20 ⟨_, rfl, rfl⟩
  · have hjL : j < L := by
      rcases Nat.lt_or_ge j L with y | y
      · exact y
      · exact absurd (nI_le y (by omega)) h
    refine x_aload_n C 0 rfl rfl dL_cell_6 ?_
    refine x_iload_n C 1 rfl rfl dL_cell_7 ?_
    refine x_sld C hX hbl hbA (vp_in_nI hjL (by omega)) dL_cell_8 ?_
    refine x_goto C 20 (by decide) dL_cell_9 ?_
    exact x_iret C hr (nle rfl) (nle rfl) dL_cell_20 ⟨_, rfl, rfl⟩
