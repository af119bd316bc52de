/-! the law: its small methods -/
theorem wKI_L_7 : Cond.constant RL 7 (1812433253 : Int32) ∈ xAll := xin2 237 rfl rfl
theorem wKI_L_8 : Cond.constant RL 8 (2147483647 : Int32) ∈ xAll := xin3 1 rfl rfl
section ZL
variable {p : Program} {l : Launch} {e : Env} {R : Room} {s : State} {m : MethodId} {args : Array Value} {below : List Frame} {meth : Method} {c : Code} {cells slots : Nat} {Q : State → Prop} {cc : ByteArray} {pc nL : Nat} {own nm : String} {D : va_G} {tys : List (ClassId × FieldType)} {A : Nat → Prop} {ws : va_W} {lv : List (Nat × Value)} {st : List Value}
theorem x_ldcI (C : xC p l s m args meth c cc nL own nm D tys A) {index : Nat} {v : Int32} (hw : Cond.constant own index v ∈ xAll) (hd : decode cc pc = .ok (.ldc index, 2)) (K : xW p l e R s m args below meth c D A nL cells slots Q ws lv (pc + 2) (.int v :: st)) : xW p l e R s m args below meth c D A nL cells slots Q ws lv pc st := fun H locs ls hP hD hS hl => lv_ldc C.1 C.2.1 C.2.2.2.1 (C.2.2.2.2.1 _ hw) hd (K H locs ls hP hD hS hl)
theorem x_dconst0 (C : xC p l s m args meth c cc nL own nm D tys A) (hd : decode cc pc = .ok (.dconst 0, 1)) (K : xW p l e R s m args below meth c D A nL cells slots Q ws lv (pc + 1) (.double FP.dconst0 :: st)) : xW p l e R s m args below meth c D A nL cells slots Q ws lv pc st := fun H locs ls hP hD hS hl => lv_dconst0 C.1 C.2.1 hd (K H locs ls hP hD hS hl)
theorem x_sld (C : xC p l s m args meth c cc nL own nm D tys A) {b L : Nat} {xs : Nat → Int32} {i : Int32} (hX : va_X b L xs s s.heap) (hbl : b < s.heap.size) (hbA : ¬ A b) (hin : vp_in i L) (hd : decode cc pc = .ok (.iaload, 1)) (K : xW p l e R s m args below meth c D A nL cells slots Q ws lv (pc + 1) (.int (xs i.toNatClampNeg) :: st)) : xW p l e R s m args below meth c D A nL cells slots Q ws lv pc (.int i :: .ref b :: st) := fun H locs ls hP hD hS hl => va_sld C.1 C.2.1 hX hbl hbA hS hin hd (K H locs ls hP hD hS hl)
theorem x_slen (C : xC p l s m args meth c cc nL own nm D tys A) {b L : Nat} {xs : Nat → Int32} (hX : va_X b L xs s s.heap) (hbl : b < s.heap.size) (hbA : ¬ A b) (hd : decode cc pc = .ok (.arraylength, 1)) (K : xW p l e R s m args below meth c D A nL cells slots Q ws lv (pc + 1) (.int (nI L) :: st)) : xW p l e R s m args below meth c D A nL cells slots Q ws lv pc (.ref b :: st) := fun H locs ls hP hD hS hl => va_slen C.1 C.2.1 hX hbl hbA hS hd (K H locs ls hP hD hS hl)
/-- a static call over the whole world -/
theorem x_ES0 {y : MethodName} {bytes : ByteArray} {maxL n idx fr lo mc ms : Nat} {ret : Option FieldType} {wc : va_W} {post : Option Value → va_W → Prop} {px : String → va_W → Prop} (As rest : List Value) (C : xC p l s m args meth c cc nL own nm D tys A) (hM : xM l D tys y (ws_ y bytes maxL ret) (xRm fr lo mc ms) mc ms As wc post px) (hws : ws = wc) (hy : xYS y bytes maxL ret n) (hl : Cond.methodLink own idx y ∈ xAll) (hn : As.length = n) (hst : st = As.reverse ++ rest) (hW : (rest.map fun v => v.category).sum ≤ 8) (hf1 : fr + 1 ≤ R.frames) (hf2 : 8 + (maxL + 11) + lo ≤ R.locals) (hc : cells + mc ≤ R.cells) (hs : slots + ms ≤ R.slots) (hd : decode cc pc = .ok (.invokestatic idx, 3)) (Kx : ∀ (E : String) (w : va_W), px E w → xX p l e R s m args below meth c D A nL (cells + mc) (slots + ms) Q (w) lv pc E) (Kr : ∀ (r : Option Value) (w : va_W), post r w → xW p l e R s m args below meth c D A nL (cells + mc) (slots + ms) Q (w) lv (pc + 3) (r.toList ++ rest)) : xW p l e R s m args below meth c D A nL cells slots Q ws lv pc st :=
  x_callS (w1 := []) (w2 := []) As rest C hM hy hl (hw0 wc hws) hn hst hW hf1 hf2 hc hs hd (fun E w h => by rw [List.append_nil]; exact Kx E w h) (fun r w h => by rw [List.append_nil]; exact Kr r w h)
end ZL
def upN (v : Int32) (n : Nat) : Nat := (v.toBitVec.toNat % 2147483648) % n
theorem upN_lt (v : Int32) {n : Nat} (h : 0 < n) : upN v n < n := Nat.mod_lt _ h
set_option maxRecDepth 100000 in
theorem k_L_up (l : Launch) (g : xGt) (v : Int32) (n : Nat) (h0 : 0 < n) (hn : n < 2147483648) : xM l g.1 (xT g) yL_up (ws_ yL_up cL_up 2 (some .int)) (xRm 0 0 0 0) 0 0 [.int v, .int (nI n)] ([] : va_W) (fun r9 w9 => r9 = some (.int (nI (upN v n))) ∧ w9 = ([] : va_W)) (fun _ _ => False) := by
  refine x_start (own := RL) (nm := "up") rfl rfl (by decide +kernel) rfl (nle rfl) (fun p e σ m args below meth c A C hno hr => ?_)
  refine x_lve (lv' := [(0, .int v), (1, .int (nI n))]) rfl ?_
  refine x_iload_n C 0 rfl rfl dL_up_0 ?_
  refine x_ldcI C wKI_L_8 dL_up_1 ?_
  refine x_iand C dL_up_3 ?_
  refine x_iload_n C 1 rfl rfl dL_up_4 ?_
  refine x_irem C (nI_ne0 h0 hn) dL_up_5 ?_
  have e : v &&& 2147483647 = nI (v.toBitVec.toNat % 2 ^ 31) := pk_and v 31 (by decide)
  refine x_iret C hr (nle rfl) (nle rfl) dL_up_6 ⟨?_, rfl⟩
  rw [e, pk_rem (Nat.mod_lt _ (by decide)) h0 hn]
  rfl
set_option maxRecDepth 100000 in
theorem k_L_size (l : Launch) (g : xGt) (v : Int32) : xM l g.1 (xT g) yL_size (ws_ yL_size cL_size 1 (some .int)) (xRm 0 0 0 0) 0 0 [.int v] ([] : va_W) (fun r9 w9 => r9 = some (.int (szV v)) ∧ w9 = ([] : va_W)) (fun _ _ => False) := by
  refine x_start (own := RL) (nm := "size") rfl rfl (by decide +kernel) rfl (nle rfl) (fun p e σ m args below meth c A C hno hr => ?_)
  refine x_lve (lv' := [(0, .int v)]) rfl ?_
  refine x_iload_n C 0 rfl rfl dL_size_0 ?_
  refine x_if_ge C 9 (by decide) dL_size_1 (fun h => ?_) (fun h => ?_)
  · refine x_iload_n C 0 rfl rfl dL_size_9 ?_
    exact x_iret C hr (nle rfl) (nle rfl) dL_size_10 ⟨by unfold szV; rw [if_pos h], rfl⟩
  · refine x_iload_n C 0 rfl rfl dL_size_4 ?_
    refine x_ineg C dL_size_5 ?_
    refine x_goto C 10 (by decide) dL_size_6 ?_
    exact x_iret C hr (nle rfl) (nle rfl) dL_size_10 ⟨by unfold szV; rw [if_neg h], rfl⟩
set_option maxRecDepth 100000 in
theorem k_L_wears (l : Launch) (g : xGt) (ap ad : Nat → Nat) (r : xR) (d : Nat → Int32) (po pn : Int32) (sv mm : xPl) (H : rnP r) (Hp : pk po pn sv) : xM l g.1 (xT g) yL_wears (ws_ yL_wears cL_wears 3 (some .int)) (xRm 8 160 6 36) 6 36 [.ref (ap 0)] (wB g ap ad r d po pn sv mm) (fun r9 w9 => r9 = some (.int (wrN r 6)) ∧ w9 = wB g ap ad r d po pn sv mm) (fun _ _ => False) := by
  refine x_start (own := RL) (nm := "wears") rfl rfl (by decide +kernel) rfl (nle rfl) (fun p e σ m args below meth c A C hno hr => ?_)
  refine x_lve (lv' := [(0, .ref (ap 0))]) rfl ?_
  refine x_iconst C 0 (by decide) dL_wears_0 ?_
  refine x_istore_n C [(1, .int 0), (0, .ref (ap 0))] rfl rfl (by decide) dL_wears_1 ?_
  refine x_iconst C 0 (by decide) dL_wears_2 ?_
  refine x_istore_n C [(2, .int 0), (1, .int 0), (0, .ref (ap 0))] rfl rfl (by decide) dL_wears_3 ?_
  refine x_iload_n C 0 rfl rfl dL_wears_4 ?_
  refine x_bipush C 6 (by decide) dL_wears_5 ?_
  refine x_icmp_ge C 24 (by decide) dL_wears_7 (fun hz => absurd hz (by decide)) (fun _ => ?_)
  refine x_iload_n C 1 rfl rfl dL_wears_10 ?_
  refine x_aload_n C 2 rfl rfl dL_wears_11 ?_
  refine x_iload_n C 0 rfl rfl dL_wears_12 ?_
  refine x_st (st' := [.int (nI 0), .ref (ap 0), .int 0]) rfl ?_
  refine x_EV0 [.int (nI 0)] [.int 0] C (a_wear l g ap ad r d po pn sv mm 0 (by decide) H Hp) rfl yV_X6_wear wML_L_9 0 rfl rfl rfl rfl (nle rfl) (nle rfl) (nle rfl) (nle rfl) (nle rfl) dL_wears_13 (fun E w h => h.elim) (fun r0 w0 h0 => ?_)
  obtain ⟨rfl, rfl⟩ := h0
  refine x_st (st' := [.int (r.vw 0), .int 0]) rfl ?_
  refine x_iadd C dL_wears_16 ?_
  refine x_istore_n C [(1, .int (0 + (r.vw 0))), (2, .int 0), (0, .ref (ap 0))] rfl rfl (by decide) dL_wears_17 ?_
  refine x_iinc C 1 1 [(2, .int 1), (1, .int (0 + (r.vw 0))), (0, .ref (ap 0))] rfl (rfl) rfl (by decide) dL_wears_18 ?_
  refine x_goto C 4 (by decide) dL_wears_21 ?_
  refine x_iload_n C 0 rfl rfl dL_wears_4 ?_
  refine x_bipush C 6 (by decide) dL_wears_5 ?_
  refine x_icmp_ge C 24 (by decide) dL_wears_7 (fun hz => absurd hz (by decide)) (fun _ => ?_)
  refine x_iload_n C 1 rfl rfl dL_wears_10 ?_
  refine x_aload_n C 2 rfl rfl dL_wears_11 ?_
  refine x_iload_n C 0 rfl rfl dL_wears_12 ?_
  refine x_st (st' := [.int (nI 1), .ref (ap 0), .int (0 + (r.vw 0))]) rfl ?_
  refine x_EV0 [.int (nI 1)] [.int (0 + (r.vw 0))] C (a_wear l g ap ad r d po pn sv mm 1 (by decide) H Hp) rfl yV_X6_wear wML_L_9 0 rfl rfl rfl rfl (nle rfl) (nle rfl) (nle rfl) (nle rfl) (nle rfl) dL_wears_13 (fun E w h => h.elim) (fun r0 w0 h0 => ?_)
  obtain ⟨rfl, rfl⟩ := h0
  refine x_st (st' := [.int (r.vw 1), .int (0 + (r.vw 0))]) rfl ?_
  refine x_iadd C dL_wears_16 ?_
  refine x_istore_n C [(1, .int ((0 + (r.vw 0)) + (r.vw 1))), (2, .int 1), (0, .ref (ap 0))] rfl rfl (by decide) dL_wears_17 ?_
  refine x_iinc C 1 2 [(2, .int 2), (1, .int ((0 + (r.vw 0)) + (r.vw 1))), (0, .ref (ap 0))] rfl (rfl) rfl (by decide) dL_wears_18 ?_
  refine x_goto C 4 (by decide) dL_wears_21 ?_
  refine x_iload_n C 0 rfl rfl dL_wears_4 ?_
  refine x_bipush C 6 (by decide) dL_wears_5 ?_
  refine x_icmp_ge C 24 (by decide) dL_wears_7 (fun hz => absurd hz (by decide)) (fun _ => ?_)
  refine x_iload_n C 1 rfl rfl dL_wears_10 ?_
  refine x_aload_n C 2 rfl rfl dL_wears_11 ?_
  refine x_iload_n C 0 rfl rfl dL_wears_12 ?_
  refine x_st (st' := [.int (nI 2), .ref (ap 0), .int ((0 + (r.vw 0)) + (r.vw 1))]) rfl ?_
  refine x_EV0 [.int (nI 2)] [.int ((0 + (r.vw 0)) + (r.vw 1))] C (a_wear l g ap ad r d po pn sv mm 2 (by decide) H Hp) rfl yV_X6_wear wML_L_9 0 rfl rfl rfl rfl (nle rfl) (nle rfl) (nle rfl) (nle rfl) (nle rfl) dL_wears_13 (fun E w h => h.elim) (fun r0 w0 h0 => ?_)
  obtain ⟨rfl, rfl⟩ := h0
  refine x_st (st' := [.int (r.vw 2), .int ((0 + (r.vw 0)) + (r.vw 1))]) rfl ?_
  refine x_iadd C dL_wears_16 ?_
  refine x_istore_n C [(1, .int (((0 + (r.vw 0)) + (r.vw 1)) + (r.vw 2))), (2, .int 2), (0, .ref (ap 0))] rfl rfl (by decide) dL_wears_17 ?_
  refine x_iinc C 1 3 [(2, .int 3), (1, .int (((0 + (r.vw 0)) + (r.vw 1)) + (r.vw 2))), (0, .ref (ap 0))] rfl (rfl) rfl (by decide) dL_wears_18 ?_
  refine x_goto C 4 (by decide) dL_wears_21 ?_
  refine x_iload_n C 0 rfl rfl dL_wears_4 ?_
  refine x_bipush C 6 (by decide) dL_wears_5 ?_
  refine x_icmp_ge C 24 (by decide) dL_wears_7 (fun hz => absurd hz (by decide)) (fun _ => ?_)
  refine x_iload_n C 1 rfl rfl dL_wears_10 ?_
  refine x_aload_n C 2 rfl rfl dL_wears_11 ?_
  refine x_iload_n C 0 rfl rfl dL_wears_12 ?_
  refine x_st (st' := [.int (nI 3), .ref (ap 0), .int (((0 + (r.vw 0)) + (r.vw 1)) + (r.vw 2))]) rfl ?_
  refine x_EV0 [.int (nI 3)] [.int (((0 + (r.vw 0)) + (r.vw 1)) + (r.vw 2))] C (a_wear l g ap ad r d po pn sv mm 3 (by decide) H Hp) rfl yV_X6_wear wML_L_9 0 rfl rfl rfl rfl (nle rfl) (nle rfl) (nle rfl) (nle rfl) (nle rfl) dL_wears_13 (fun E w h => h.elim) (fun r0 w0 h0 => ?_)
  obtain ⟨rfl, rfl⟩ := h0
  refine x_st (st' := [.int (r.vw 3), .int (((0 + (r.vw 0)) + (r.vw 1)) + (r.vw 2))]) rfl ?_
  refine x_iadd C dL_wears_16 ?_
  refine x_istore_n C [(1, .int ((((0 + (r.vw 0)) + (r.vw 1)) + (r.vw 2)) + (r.vw 3))), (2, .int 3), (0, .ref (ap 0))] rfl rfl (by decide) dL_wears_17 ?_
  refine x_iinc C 1 4 [(2, .int 4), (1, .int ((((0 + (r.vw 0)) + (r.vw 1)) + (r.vw 2)) + (r.vw 3))), (0, .ref (ap 0))] rfl (rfl) rfl (by decide) dL_wears_18 ?_
  refine x_goto C 4 (by decide) dL_wears_21 ?_
  refine x_iload_n C 0 rfl rfl dL_wears_4 ?_
  refine x_bipush C 6 (by decide) dL_wears_5 ?_
  refine x_icmp_ge C 24 (by decide) dL_wears_7 (fun hz => absurd hz (by decide)) (fun _ => ?_)
  refine x_iload_n C 1 rfl rfl dL_wears_10 ?_
  refine x_aload_n C 2 rfl rfl dL_wears_11 ?_
  refine x_iload_n C 0 rfl rfl dL_wears_12 ?_
  refine x_st (st' := [.int (nI 4), .ref (ap 0), .int ((((0 + (r.vw 0)) + (r.vw 1)) + (r.vw 2)) + (r.vw 3))]) rfl ?_
  refine x_EV0 [.int (nI 4)] [.int ((((0 + (r.vw 0)) + (r.vw 1)) + (r.vw 2)) + (r.vw 3))] C (a_wear l g ap ad r d po pn sv mm 4 (by decide) H Hp) rfl yV_X6_wear wML_L_9 0 rfl rfl rfl rfl (nle rfl) (nle rfl) (nle rfl) (nle rfl) (nle rfl) dL_wears_13 (fun E w h => h.elim) (fun r0 w0 h0 => ?_)
  obtain ⟨rfl, rfl⟩ := h0
  refine x_st (st' := [.int (r.vw 4), .int ((((0 + (r.vw 0)) + (r.vw 1)) + (r.vw 2)) + (r.vw 3))]) rfl ?_
  refine x_iadd C dL_wears_16 ?_
  refine x_istore_n C [(1, .int (((((0 + (r.vw 0)) + (r.vw 1)) + (r.vw 2)) + (r.vw 3)) + (r.vw 4))), (2, .int 4), (0, .ref (ap 0))] rfl rfl (by decide) dL_wears_17 ?_
  refine x_iinc C 1 5 [(2, .int 5), (1, .int (((((0 + (r.vw 0)) + (r.vw 1)) + (r.vw 2)) + (r.vw 3)) + (r.vw 4))), (0, .ref (ap 0))] rfl (rfl) rfl (by decide) dL_wears_18 ?_
  refine x_goto C 4 (by decide) dL_wears_21 ?_
  refine x_iload_n C 0 rfl rfl dL_wears_4 ?_
  refine x_bipush C 6 (by decide) dL_wears_5 ?_
  refine x_icmp_ge C 24 (by decide) dL_wears_7 (fun hz => absurd hz (by decide)) (fun _ => ?_)
  refine x_iload_n C 1 rfl rfl dL_wears_10 ?_
  refine x_aload_n C 2 rfl rfl dL_wears_11 ?_
  refine x_iload_n C 0 rfl rfl dL_wears_12 ?_
  refine x_st (st' := [.int (nI 5), .ref (ap 0), .int (((((0 + (r.vw 0)) + (r.vw 1)) + (r.vw 2)) + (r.vw 3)) + (r.vw 4))]) rfl ?_
  refine x_EV0 [.int (nI 5)] [.int (((((0 + (r.vw 0)) + (r.vw 1)) + (r.vw 2)) + (r.vw 3)) + (r.vw 4))] C (a_wear l g ap ad r d po pn sv mm 5 (by decide) H Hp) rfl yV_X6_wear wML_L_9 0 rfl rfl rfl rfl (nle rfl) (nle rfl) (nle rfl) (nle rfl) (nle rfl) dL_wears_13 (fun E w h => h.elim) (fun r0 w0 h0 => ?_)
  obtain ⟨rfl, rfl⟩ := h0
  refine x_st (st' := [.int (r.vw 5), .int (((((0 + (r.vw 0)) + (r.vw 1)) + (r.vw 2)) + (r.vw 3)) + (r.vw 4))]) rfl ?_
  refine x_iadd C dL_wears_16 ?_
  refine x_istore_n C [(1, .int ((((((0 + (r.vw 0)) + (r.vw 1)) + (r.vw 2)) + (r.vw 3)) + (r.vw 4)) + (r.vw 5))), (2, .int 5), (0, .ref (ap 0))] rfl rfl (by decide) dL_wears_17 ?_
  refine x_iinc C 1 6 [(2, .int 6), (1, .int ((((((0 + (r.vw 0)) + (r.vw 1)) + (r.vw 2)) + (r.vw 3)) + (r.vw 4)) + (r.vw 5))), (0, .ref (ap 0))] rfl (rfl) rfl (by decide) dL_wears_18 ?_
  refine x_goto C 4 (by decide) dL_wears_21 ?_
  refine x_iload_n C 0 rfl rfl dL_wears_4 ?_
  refine x_bipush C 6 (by decide) dL_wears_5 ?_
  refine x_icmp_ge C 24 (by decide) dL_wears_7 (fun _ => ?_) (fun hz => absurd (by decide) hz)
  refine x_iload_n C 1 rfl rfl dL_wears_24 ?_
  exact x_iret C hr (nle rfl) (nle rfl) dL_wears_25 ⟨rfl, rfl⟩
