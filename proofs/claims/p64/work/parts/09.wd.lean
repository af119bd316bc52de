abbrev xGt : Type := va_G × ClassId × ClassId × ClassId × ClassId
abbrev xT (g : xGt) : List (ClassId × FieldType) := [(g.2.1, .int), (g.2.2.1, .int), (g.2.2.2.1, .object RX4), (g.2.2.2.2, .int)]
/-- a row of a table of rows, set -/
def xu (c : Nat → Nat → Int32) (r : Nat) (f : Nat → Int32) : Nat → Nat → Int32 := fun k => bif Nat.beq k r then f else c k
theorem up_ne {f : Nat → Int32} {k j : Nat} {x : Int32} (h : Nat.beq j k = false) : upd f k x j = f j := if_neg (fun e => by subst e; exact absurd ((Nat.beq_refl j).symm.trans h) (by decide))
theorem up_eq {f : Nat → Int32} {k : Nat} {x : Int32} : upd f k x k = x := if_pos rfl
theorem pk_sub1 {a : Nat} (h : 1 ≤ a) : nI a - 1 = nI (a - 1) := pk_sub h
theorem dl_step {i n : Nat} (h : i < n) : nI (n - i - 1) + (-1) = nI (n - (i + 1)) - 1 := by
  rw [show n - i - 1 = n - (i + 1) from by omega]; exact (Int32.sub_eq_add_neg _ _).symm
theorem dl_exit (n : Nat) : nI (n - n) - 1 < 0 := by rw [Nat.sub_self]; decide
theorem bool_ite {c : Prop} {i : Decidable c} {a b : Int32} (h1 : a = 0 ∨ a = 1) (h2 : b = 0 ∨ b = 1) : (@ite _ c i a b) = 0 ∨ (@ite _ c i a b) = 1 := by
  cases i with
  | isTrue _ => exact h1
  | isFalse _ => exact h2
theorem nle {a b : Nat} (h : Nat.ble a b = true) : a ≤ b := Nat.le_of_ble_eq_true h
theorem nlt {a b : Nat} (h : Nat.ble (a + 1) b = true) : a < b := Nat.le_of_ble_eq_true h
theorem xnz {v : Int32} (h : v = 0 ∨ v = 1) : narrow .boolean (.int v) = .int v := by rcases h with rfl | rfl <;> rfl
theorem xfz {v : Int32} (h : v = 0 ∨ v = 1) : fits .boolean (.int v) = true := by rcases h with rfl | rfl <;> rfl
theorem xnI_sub {a b : Nat} (h : b ≤ a) : nI a - nI b = nI (a - b) := pk_sub h
theorem xb_nat {v : Int32} (h : v = 0 ∨ v = 1) : v = nI v.toNatClampNeg := by rcases h with rfl | rfl <;> rfl
theorem xb_le {v : Int32} (h : v = 0 ∨ v = 1) : v.toNatClampNeg ≤ 1 := by rcases h with rfl | rfl <;> decide
theorem xge {k x : Int32} {c n : Nat} (hk : k = nI c) (hx : x = nI n) (h : c ≤ n) (hn : n < 2 ^ 31) : k ≤ x := by subst hk hx; exact nI_le h hn
theorem xnge {k x : Int32} {c n : Nat} (hk : k = nI c) (hx : x = nI n) (h : n < c) (hc : c < 2 ^ 31) : ¬ k ≤ x := by subst hk hx; exact nI_ge h hc
theorem xgt {k x : Int32} {c n : Nat} (hk : k = nI c) (hx : x = nI n) (h : c < n) (hn : n < 2 ^ 31) : k < x := by subst hk hx; exact nI_lt h hn
theorem xngt {k x : Int32} {c n : Nat} (hk : k = nI c) (hx : x = nI n) (h : n ≤ c) (hc : c < 2 ^ 31) : ¬ k < x := by subst hk hx; exact nI_nlt h hc
theorem xle_of {k x : Int32} {c n : Nat} (hk : k = nI c) (hx : x = nI n) (hc : c < 2 ^ 31) (hn : n < 2 ^ 31) (h : k ≤ x) : c ≤ n := by subst hk hx; exact (nI_leI hc hn).mp h
theorem xlt_of {k x : Int32} {c n : Nat} (hk : k = nI c) (hx : x = nI n) (hc : c < 2 ^ 31) (hn : n < 2 ^ 31) (h : ¬ k ≤ x) : n < c := by subst hk hx; exact Nat.not_le.mp (fun q => h ((nI_leI hc hn).mpr q))
section X9
variable {p : Program} {l : Launch} {e : Env} {R : Room} {s : State} {m : MethodId} {args : Array Value} {below : List Frame} {meth : Method} {c : Code} {cells slots : Nat} {Q : State → Prop} {cc : ByteArray} {pc nL : Nat} {own nm : String} {D : va_G} {tys : List (ClassId × FieldType)} {A : Nat → Prop} {ws : va_W} {lv : List (Nat × Value)} {st : List Value}
theorem x_iaddN (C : xC p l s m args meth c cc nL own nm D tys A) {x y : Int32} (a b : Nat) (hx : x = nI a) (hy : y = nI b) (hd : decode cc pc = .ok (.iadd, 1)) (K : xW p l e R s m args below meth c D A nL cells slots Q ws lv (pc + 1) (.int (nI (a + b)) :: st)) : xW p l e R s m args below meth c D A nL cells slots Q ws lv pc (.int y :: .int x :: st) := by
  subst hx hy
  refine x_iadd C hd ?_
  rw [nI_add]
  exact K
theorem x_imulN (C : xC p l s m args meth c cc nL own nm D tys A) {x y : Int32} (a b : Nat) (hx : x = nI a) (hy : y = nI b) (hd : decode cc pc = .ok (.imul, 1)) (K : xW p l e R s m args below meth c D A nL cells slots Q ws lv (pc + 1) (.int (nI (a * b)) :: st)) : xW p l e R s m args below meth c D A nL cells slots Q ws lv pc (.int y :: .int x :: st) := by
  subst hx hy
  refine x_imul C hd ?_
  rw [pk_mul]
  exact K
theorem x_isubN (C : xC p l s m args meth c cc nL own nm D tys A) {x y : Int32} (a b : Nat) (hx : x = nI a) (hy : y = nI b) (hab : b ≤ a) (hd : decode cc pc = .ok (.isub, 1)) (K : xW p l e R s m args below meth c D A nL cells slots Q ws lv (pc + 1) (.int (nI (a - b)) :: st)) : xW p l e R s m args below meth c D A nL cells slots Q ws lv pc (.int y :: .int x :: st) := by
  subst hx hy
  refine x_isub C hd ?_
  rw [pk_sub hab]
  exact K
theorem x_ialdN (C : xC p l s m args meth c cc nL own nm D tys A) (q0 t0 k : Nat) {a n : Nat} {cA : ClassId} {f : Nat → Int32} {i : Int32} (he : ws[q0]? = some (a, .inl (cA, n, .inl f))) (ht : tys[t0]? = some (cA, .int)) (hi : i = nI k) (hk : k < n) (hn : n < 2 ^ 31) (hd : decode cc pc = .ok (.iaload, 1)) (K : xW p l e R s m args below meth c D A nL cells slots Q ws lv (pc + 1) (.int (f k) :: st)) : xW p l e R s m args below meth c D A nL cells slots Q ws lv pc (.int i :: .ref a :: st) := by
  subst hi
  refine x_iald C q0 t0 he ht (vp_in_nI hk hn) hd ?_
  rw [nI_clamp (Nat.lt_trans hk hn)]
  exact K
theorem x_zaldN (C : xC p l s m args meth c cc nL own nm D tys A) (q0 t0 k : Nat) {a n : Nat} {cA : ClassId} {f : Nat → Int32} {i : Int32} (he : ws[q0]? = some (a, .inl (cA, n, .inl f))) (ht : tys[t0]? = some (cA, .boolean)) (hi : i = nI k) (hk : k < n) (hn : n < 2 ^ 31) (hd : decode cc pc = .ok (.baload, 1)) (K : xW p l e R s m args below meth c D A nL cells slots Q ws lv (pc + 1) (.int (f k) :: st)) : xW p l e R s m args below meth c D A nL cells slots Q ws lv pc (.int i :: .ref a :: st) := by
  subst hi
  refine x_zald C q0 t0 he ht (vp_in_nI hk hn) hd ?_
  rw [nI_clamp (Nat.lt_trans hk hn)]
  exact K
theorem x_ialdNE (C : xC p l s m args meth c cc nL own nm D tys A) (q0 t0 k : Nat) (v : Int32) {a n : Nat} {cA : ClassId} {f : Nat → Int32} {i : Int32} (hv : f k = v) (he : ws[q0]? = some (a, .inl (cA, n, .inl f))) (ht : tys[t0]? = some (cA, .int)) (hi : i = nI k) (hk : k < n) (hn : n < 2 ^ 31) (hd : decode cc pc = .ok (.iaload, 1)) (K : xW p l e R s m args below meth c D A nL cells slots Q ws lv (pc + 1) (.int v :: st)) : xW p l e R s m args below meth c D A nL cells slots Q ws lv pc (.int i :: .ref a :: st) := by
  subst hv
  exact x_ialdN C q0 t0 k he ht hi hk hn hd K
theorem x_zaldNE (C : xC p l s m args meth c cc nL own nm D tys A) (q0 t0 k : Nat) (v : Int32) {a n : Nat} {cA : ClassId} {f : Nat → Int32} {i : Int32} (hv : f k = v) (he : ws[q0]? = some (a, .inl (cA, n, .inl f))) (ht : tys[t0]? = some (cA, .boolean)) (hi : i = nI k) (hk : k < n) (hn : n < 2 ^ 31) (hd : decode cc pc = .ok (.baload, 1)) (K : xW p l e R s m args below meth c D A nL cells slots Q ws lv (pc + 1) (.int v :: st)) : xW p l e R s m args below meth c D A nL cells slots Q ws lv pc (.int i :: .ref a :: st) := by
  subst hv
  exact x_zaldN C q0 t0 k he ht hi hk hn hd K
theorem x_iastN (C : xC p l s m args meth c cc nL own nm D tys A) (q0 t0 k : Nat) {a n : Nat} {cA : ClassId} {f : Nat → Int32} {i x : Int32} (ws' : va_W) (he : ws[q0]? = some (a, .inl (cA, n, .inl f))) (hws : ws.set q0 (a, .inl (cA, n, .inl (upd f k x))) = ws') (ht : tys[t0]? = some (cA, .int)) (hi : i = nI k) (hk : k < n) (hn : n < 2 ^ 31) (hd : decode cc pc = .ok (.iastore, 1)) (K : xW p l e R s m args below meth c D A nL cells slots Q ws' lv (pc + 1) st) : xW p l e R s m args below meth c D A nL cells slots Q ws lv pc (.int x :: .int i :: .ref a :: st) := by
  subst hi
  refine x_iast C q0 t0 ws' he ?_ ht (vp_in_nI hk hn) hd K
  rw [nI_clamp (Nat.lt_trans hk hn)]
  exact hws
theorem x_zastN (C : xC p l s m args meth c cc nL own nm D tys A) (q0 t0 k : Nat) {a n : Nat} {cA : ClassId} {f : Nat → Int32} {i x : Int32} (ws' : va_W) (he : ws[q0]? = some (a, .inl (cA, n, .inl f))) (hws : ws.set q0 (a, .inl (cA, n, .inl (upd f k x))) = ws') (ht : tys[t0]? = some (cA, .boolean)) (hi : i = nI k) (hk : k < n) (hn : n < 2 ^ 31) (hx : x = 0 ∨ x = 1) (hd : decode cc pc = .ok (.bastore, 1)) (K : xW p l e R s m args below meth c D A nL cells slots Q ws' lv (pc + 1) st) : xW p l e R s m args below meth c D A nL cells slots Q ws lv pc (.int x :: .int i :: .ref a :: st) := fun H locs ls hP hD hS hl => by
  subst hi
  have hv : vp_nar .boolean x = x := by rcases hx with rfl | rfl <;> rfl
  refine va_zast C.1 C.2.1 C.2.2.2.2.2.1.1 hP hD hS q0 t0 he ht (vp_in_nI hk hn) hd (fun H1 locs1 hP hD hS => ?_)
  rw [hv, nI_clamp (Nat.lt_trans hk hn), hws] at hP hD
  exact K H1 locs1 ls hP hD hS hl
theorem x_objInit (C : xC p l s m args meth c cc nL own nm D tys A) {idx a : Nat} (hl : Cond.methodLink own idx objectInit ∈ xAll) (hd : decode cc pc = .ok (.invokespecial idx, 3)) (hfr : 1 ≤ R.frames) (hlo : (st.map fun v => v.category).sum + 12 ≤ R.locals) (K : xW p l e R s m args below meth c D A nL cells slots Q ws lv (pc + 3) st) : xW p l e R s m args below meth c D A nL cells slots Q ws lv pc (.ref a :: st) := fun H locs ls hP hD hS hlv => W.objInit C.1 C.2.1 C.2.2.2.1 (C.2.2.2.2.1 _ hl) (C.2.2.2.2.1 _ wIm_obj) (C.2.2.2.2.1 _ wCo_obj) rfl (hlv.1.trans C.2.2.1.symm) rfl hd hfr (by show 2 * 0 + _ + 12 ≤ _; omega) (K H locs ls hP hD hS hlv)
theorem x_FV {y : MethodName} {bytes : ByteArray} {maxL n idx fr lo mc ms : Nat} {b ci N : Nat} {T : u_T} {fs : List Value} {ret : Option FieldType} {v : Value} {w1 wc w2 wc' : va_W} (As rest : List Value) (ws' : va_W) (C : xC p l s m args meth c cc nL own nm D tys A) (hM : xM l D tys y (ws_ y bytes maxL ret) (xRm fr lo mc ms) mc ms (.ref b :: As) wc (fun r w => r = some v ∧ w = wc') (fun _ _ => False)) (hws : ws = w1 ++ (wc ++ w2)) (hy : xYV y bytes maxL ret n) (hl : Cond.methodLink own idx y ∈ xAll) (hws' : w1 ++ (wc' ++ w2) = ws') (q0 : Nat) (hq : ws[q0]? = some (b, .inr (ci, fs))) (hcl : vwCl[ci]? = some (y.cls, T, N)) (hn : As.length = n) (hst : st = As.reverse ++ (.ref b :: rest)) (hW : (rest.map fun v => v.category).sum ≤ 8) (hf1 : fr + 1 ≤ R.frames) (hf2 : 8 + (maxL + 11) + lo ≤ R.locals) (hc : cells + mc ≤ R.cells) (hs : slots + ms ≤ R.slots) (hd : decode cc pc = .ok (.invokevirtual idx, 3)) (K : xW p l e R s m args below meth c D A nL (cells + mc) (slots + ms) Q ws' lv (pc + 3) (v :: rest)) : xW p l e R s m args below meth c D A nL cells slots Q ws lv pc st := by
  refine x_callV As rest C hM hy hl hws q0 hq hcl hn hst hW hf1 hf2 hc hs hd (fun E w h => h.elim) (fun r w h => ?_)
  obtain ⟨rfl, rfl⟩ := h
  rw [hws']
  exact K
theorem x_GV {y : MethodName} {bytes : ByteArray} {maxL n idx fr lo mc ms : Nat} {b ci N : Nat} {T : u_T} {fs : List Value} {ret : Option FieldType} {w1 wc w2 wc' : va_W} (As rest : List Value) (ws' : va_W) (C : xC p l s m args meth c cc nL own nm D tys A) (hM : xM l D tys y (ws_ y bytes maxL ret) (xRm fr lo mc ms) mc ms (.ref b :: As) wc (fun r w => r = none ∧ w = wc') (fun _ _ => False)) (hws : ws = w1 ++ (wc ++ w2)) (hy : xYV y bytes maxL ret n) (hl : Cond.methodLink own idx y ∈ xAll) (hws' : w1 ++ (wc' ++ w2) = ws') (q0 : Nat) (hq : ws[q0]? = some (b, .inr (ci, fs))) (hcl : vwCl[ci]? = some (y.cls, T, N)) (hn : As.length = n) (hst : st = As.reverse ++ (.ref b :: rest)) (hW : (rest.map fun v => v.category).sum ≤ 8) (hf1 : fr + 1 ≤ R.frames) (hf2 : 8 + (maxL + 11) + lo ≤ R.locals) (hc : cells + mc ≤ R.cells) (hs : slots + ms ≤ R.slots) (hd : decode cc pc = .ok (.invokevirtual idx, 3)) (K : xW p l e R s m args below meth c D A nL (cells + mc) (slots + ms) Q ws' lv (pc + 3) (rest)) : xW p l e R s m args below meth c D A nL cells slots Q ws lv pc st := by
  refine x_callV As rest C hM hy hl hws q0 hq hcl hn hst hW hf1 hf2 hc hs hd (fun E w h => h.elim) (fun r w h => ?_)
  obtain ⟨rfl, rfl⟩ := h
  rw [hws']
  exact K
theorem x_FS {y : MethodName} {bytes : ByteArray} {maxL n idx fr lo mc ms : Nat} {ret : Option FieldType} {v : Value} {w1 wc w2 wc' : va_W} (As rest : List Value) (ws' : va_W) (C : xC p l s m args meth c cc nL own nm D tys A) (hM : xM l D tys y (ws_ y bytes maxL ret) (xRm fr lo mc ms) mc ms (As) wc (fun r w => r = some v ∧ w = wc') (fun _ _ => False)) (hws : ws = w1 ++ (wc ++ w2)) (hy : xYS y bytes maxL ret n) (hl : Cond.methodLink own idx y ∈ xAll) (hws' : w1 ++ (wc' ++ w2) = ws') (hn : As.length = n) (hst : st = As.reverse ++ rest) (hW : (rest.map fun v => v.category).sum ≤ 8) (hf1 : fr + 1 ≤ R.frames) (hf2 : 8 + (maxL + 11) + lo ≤ R.locals) (hc : cells + mc ≤ R.cells) (hs : slots + ms ≤ R.slots) (hd : decode cc pc = .ok (.invokestatic idx, 3)) (K : xW p l e R s m args below meth c D A nL (cells + mc) (slots + ms) Q ws' lv (pc + 3) (v :: rest)) : xW p l e R s m args below meth c D A nL cells slots Q ws lv pc st := by
  refine x_callS As rest C hM hy hl hws hn hst hW hf1 hf2 hc hs hd (fun E w h => h.elim) (fun r w h => ?_)
  obtain ⟨rfl, rfl⟩ := h
  rw [hws']
  exact K
theorem x_GS {y : MethodName} {bytes : ByteArray} {maxL n idx fr lo mc ms : Nat} {ret : Option FieldType} {w1 wc w2 wc' : va_W} (As rest : List Value) (ws' : va_W) (C : xC p l s m args meth c cc nL own nm D tys A) (hM : xM l D tys y (ws_ y bytes maxL ret) (xRm fr lo mc ms) mc ms (As) wc (fun r w => r = none ∧ w = wc') (fun _ _ => False)) (hws : ws = w1 ++ (wc ++ w2)) (hy : xYS y bytes maxL ret n) (hl : Cond.methodLink own idx y ∈ xAll) (hws' : w1 ++ (wc' ++ w2) = ws') (hn : As.length = n) (hst : st = As.reverse ++ rest) (hW : (rest.map fun v => v.category).sum ≤ 8) (hf1 : fr + 1 ≤ R.frames) (hf2 : 8 + (maxL + 11) + lo ≤ R.locals) (hc : cells + mc ≤ R.cells) (hs : slots + ms ≤ R.slots) (hd : decode cc pc = .ok (.invokestatic idx, 3)) (K : xW p l e R s m args below meth c D A nL (cells + mc) (slots + ms) Q ws' lv (pc + 3) (rest)) : xW p l e R s m args below meth c D A nL cells slots Q ws lv pc st := by
  refine x_callS As rest C hM hy hl hws hn hst hW hf1 hf2 hc hs hd (fun E w h => h.elim) (fun r w h => ?_)
  obtain ⟨rfl, rfl⟩ := h
  rw [hws']
  exact K
theorem x_FSN {y : MethodName} {bytes : ByteArray} {maxL n idx fr lo mc ms : Nat} {host : String} {ret : Option FieldType} {v : Value} {w1 wc w2 wc' : va_W} (As rest : List Value) (ws' : va_W) (C : xC p l s m args meth c cc nL own nm D tys A) (hM : xM l D tys y (ws_ y bytes maxL ret) (xRm fr lo mc ms) mc ms (As) wc (fun r w => r = some v ∧ w = wc') (fun _ _ => False)) (hws : ws = w1 ++ (wc ++ w2)) (hy : xYS y bytes maxL ret n) (hl : (own, idx, y, host) ∈ xNs) (hws' : w1 ++ (wc' ++ w2) = ws') (hn : As.length = n) (hst : st = As.reverse ++ rest) (hW : (rest.map fun v => v.category).sum ≤ 8) (hf1 : fr + 1 ≤ R.frames) (hf2 : 8 + (maxL + 11) + lo ≤ R.locals) (hc : cells + mc ≤ R.cells) (hs : slots + ms ≤ R.slots) (hd : decode cc pc = .ok (.invokestatic idx, 3)) (K : xW p l e R s m args below meth c D A nL (cells + mc) (slots + ms) Q ws' lv (pc + 3) (v :: rest)) : xW p l e R s m args below meth c D A nL cells slots Q ws lv pc st := by
  refine x_callSN As rest C hM hy hl hws hn hst hW hf1 hf2 hc hs hd (fun E w h => h.elim) (fun r w h => ?_)
  obtain ⟨rfl, rfl⟩ := h
  rw [hws']
  exact K
theorem x_GSN {y : MethodName} {bytes : ByteArray} {maxL n idx fr lo mc ms : Nat} {host : String} {ret : Option FieldType} {w1 wc w2 wc' : va_W} (As rest : List Value) (ws' : va_W) (C : xC p l s m args meth c cc nL own nm D tys A) (hM : xM l D tys y (ws_ y bytes maxL ret) (xRm fr lo mc ms) mc ms (As) wc (fun r w => r = none ∧ w = wc') (fun _ _ => False)) (hws : ws = w1 ++ (wc ++ w2)) (hy : xYS y bytes maxL ret n) (hl : (own, idx, y, host) ∈ xNs) (hws' : w1 ++ (wc' ++ w2) = ws') (hn : As.length = n) (hst : st = As.reverse ++ rest) (hW : (rest.map fun v => v.category).sum ≤ 8) (hf1 : fr + 1 ≤ R.frames) (hf2 : 8 + (maxL + 11) + lo ≤ R.locals) (hc : cells + mc ≤ R.cells) (hs : slots + ms ≤ R.slots) (hd : decode cc pc = .ok (.invokestatic idx, 3)) (K : xW p l e R s m args below meth c D A nL (cells + mc) (slots + ms) Q ws' lv (pc + 3) (rest)) : xW p l e R s m args below meth c D A nL cells slots Q ws lv pc st := by
  refine x_callSN As rest C hM hy hl hws hn hst hW hf1 hf2 hc hs hd (fun E w h => h.elim) (fun r w h => ?_)
  obtain ⟨rfl, rfl⟩ := h
  rw [hws']
  exact K
theorem x_GI {y : MethodName} {bytes : ByteArray} {maxL n idx fr lo mc ms b : Nat} {w1 wc w2 wc' : va_W} (As rest : List Value) (ws' : va_W) (C : xC p l s m args meth c cc nL own nm D tys A) (hM : xM l D tys y (ws_ y bytes maxL none) (xRm fr lo mc ms) mc ms (.ref b :: As) wc (fun r w => r = none ∧ w = wc') (fun _ _ => False)) (hws : ws = w1 ++ (wc ++ w2)) (hy : xYI y bytes maxL n) (hl : Cond.methodLink own idx y ∈ xAll) (hws' : w1 ++ (wc' ++ w2) = ws') (hn : As.length = n) (hst : st = As.reverse ++ (.ref b :: rest)) (hW : (rest.map fun v => v.category).sum ≤ 8) (hf1 : fr + 1 ≤ R.frames) (hf2 : 8 + (maxL + 11) + lo ≤ R.locals) (hc : cells + mc ≤ R.cells) (hs : slots + ms ≤ R.slots) (hd : decode cc pc = .ok (.invokespecial idx, 3)) (K : xW p l e R s m args below meth c D A nL (cells + mc) (slots + ms) Q ws' lv (pc + 3) rest) : xW p l e R s m args below meth c D A nL cells slots Q ws lv pc st := by
  refine x_callI As rest C hM hy hl hws hn hst hW hf1 hf2 hc hs hd (fun E w h => h.elim) (fun r w h => ?_)
  obtain ⟨rfl, rfl⟩ := h
  rw [hws']
  exact K
theorem x_GIN {y : MethodName} {bytes : ByteArray} {maxL n idx fr lo mc ms b : Nat} {host : String} {w1 wc w2 wc' : va_W} (As rest : List Value) (ws' : va_W) (C : xC p l s m args meth c cc nL own nm D tys A) (hM : xM l D tys y (ws_ y bytes maxL none) (xRm fr lo mc ms) mc ms (.ref b :: As) wc (fun r w => r = none ∧ w = wc') (fun _ _ => False)) (hws : ws = w1 ++ (wc ++ w2)) (hy : xYI y bytes maxL n) (hl : (own, idx, y, host) ∈ xNs) (hws' : w1 ++ (wc' ++ w2) = ws') (hn : As.length = n) (hst : st = As.reverse ++ (.ref b :: rest)) (hW : (rest.map fun v => v.category).sum ≤ 8) (hf1 : fr + 1 ≤ R.frames) (hf2 : 8 + (maxL + 11) + lo ≤ R.locals) (hc : cells + mc ≤ R.cells) (hs : slots + ms ≤ R.slots) (hd : decode cc pc = .ok (.invokespecial idx, 3)) (K : xW p l e R s m args below meth c D A nL (cells + mc) (slots + ms) Q ws' lv (pc + 3) rest) : xW p l e R s m args below meth c D A nL cells slots Q ws lv pc st := by
  refine x_callIN As rest C hM hy hl hws hn hst hW hf1 hf2 hc hs hd (fun E w h => h.elim) (fun r w h => ?_)
  obtain ⟨rfl, rfl⟩ := h
  rw [hws']
  exact K
end X9
/-- the reference's object and what hangs on it -/
def wMo (g : xGt) (am : Nat → Nat) (s fi tx dm : Nat → Int32) (th sa ln pa le sk nu : Int32) (h : Int64) : va_W := [(am 0, .inr (7, [.int th, .ref (am 1), .int sa, .ref (am 2), .ref (am 3), .int ln, .int pa, .int le, .int sk, .int nu, .ref (am 4), .long h])), (am 1, .inl (g.2.1, 1560, .inl s)), (am 2, .inl (g.2.2.1, 2, .inl fi)), (am 3, .inl (g.2.1, 60, .inl tx)), (am 4, .inl (g.2.1, 6, .inl dm))]
theorem rOk_of {s t : Nat → Int32} {b : Nat} (h : ∀ k, b ≤ k → k < b + 87 → t k = s k) (H : (s (b + 26) = nI (s (b + 26)).toNatClampNeg ∧ (s (b + 26)).toNatClampNeg ≤ 12 ∧ (s (b + 24) = 0 ∨ s (b + 24) = 1) ∧ ∀ j, j < (s (b + 26)).toNatClampNeg → s (b + 27 + 5 * j + 0) = nI (s (b + 27 + 5 * j + 0)).toNatClampNeg ∧ (s (b + 27 + 5 * j + 0)).toNatClampNeg < 10)) : (t (b + 26) = nI (t (b + 26)).toNatClampNeg ∧ (t (b + 26)).toNatClampNeg ≤ 12 ∧ (t (b + 24) = 0 ∨ t (b + 24) = 1) ∧ ∀ j, j < (t (b + 26)).toNatClampNeg → t (b + 27 + 5 * j + 0) = nI (t (b + 27 + 5 * j + 0)).toNatClampNeg ∧ (t (b + 27 + 5 * j + 0)).toNatClampNeg < 10) := by
  rw [h (b + 26) (by omega) (by omega), h (b + 24) (by omega) (by omega)]
  obtain ⟨h1, h2, h3, h4⟩ := H
  refine ⟨h1, h2, h3, fun j hj => ?_⟩
  rw [h (b + 27 + 5 * j + 0) (by omega) (by omega)]
  exact h4 j hj
/-- a state's place in the reference's row: how many mixes; what is safe to walk -/
def rN (s : Nat → Int32) (b : Nat) : Nat := (s (b + 26)).toNatClampNeg
def rS (s : Nat → Int32) (b j : Nat) : Nat := (s (b + 27 + 5 * j + 0)).toNatClampNeg
def rOk (s : Nat → Int32) (b : Nat) : Prop := s (b + 26) = nI (rN s b) ∧ rN s b ≤ 12 ∧ (s (b + 24) = 0 ∨ s (b + 24) = 1) ∧ ∀ j, j < rN s b → s (b + 27 + 5 * j + 0) = nI (rS s b j) ∧ rS s b j < 10
