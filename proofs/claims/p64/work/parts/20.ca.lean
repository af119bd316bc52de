def wR1 (g : xGt) (ad n : Nat) (f : Nat → Int32) : va_W := [(ad, .inl (g.2.1, n, .inl f))]
def wS0 (g : xGt) (ad : Nat → Nat)  : va_W := [((ad 0), .inr (4, [.ref (ad 1), .ref (ad 6), .ref (ad 12), .ref (ad 23), .ref (ad 24)]))]
def wSk (g : xGt) (ad : Nat → Nat) (kp : Nat → Int32) (ke : Nat → Int32) (kr : Nat → Int32) (kt : Nat → Int32) (kh : Int32) (kc : Int32) : va_W := [((ad 1), .inr (5, [.ref (ad 2), .ref (ad 3), .ref (ad 4), .ref (ad 5), .int kh, .int kc])), ((ad 2), .inl (g.2.1, 4, .inl kp)), ((ad 3), .inl (g.2.1, 4, .inl ke)), ((ad 4), .inl (g.2.1, 8, .inl kr)), ((ad 5), .inl (g.2.1, 8, .inl kt))]
def wMx (g : xGt) (ad : Nat → Nat) (xn : Int32) (xs : Nat → Int32) (xv : Nat → Int32) (xh : Nat → Int32) (xo : Nat → Int32) (xc : Nat → Int32) : va_W := [((ad 6), .inr (2, [.int xn, .ref (ad 7), .ref (ad 8), .ref (ad 9), .ref (ad 10), .ref (ad 11)])), ((ad 7), .inl (g.2.1, 12, .inl xs)), ((ad 8), .inl (g.2.1, 12, .inl xv)), ((ad 9), .inl (g.2.1, 12, .inl xh)), ((ad 10), .inl (g.2.1, 12, .inl xo)), ((ad 11), .inl (g.2.1, 12, .inl xc))]
def wSv (g : xGt) (ad : Nat → Nat) (vd : Nat → Int32) (vn : Nat → Int32) (vl : Nat → Int32) (vu : Nat → Int32) (vs : Nat → Int32) (vm : Nat → Int32) (vp : Nat → Int32) (vt : Nat → Int32) (va : Nat → Int32) (vw : Nat → Int32) : va_W := [((ad 12), .inr (3, [.ref (ad 13), .ref (ad 14), .ref (ad 15), .ref (ad 16), .ref (ad 17), .ref (ad 18), .ref (ad 19), .ref (ad 20), .ref (ad 21), .ref (ad 22)])), ((ad 13), .inl (g.2.1, 6, .inl vd)), ((ad 14), .inl (g.2.1, 6, .inl vn)), ((ad 15), .inl (g.2.1, 6, .inl vl)), ((ad 16), .inl (g.2.1, 6, .inl vu)), ((ad 17), .inl (g.2.1, 6, .inl vs)), ((ad 18), .inl (g.2.1, 6, .inl vm)), ((ad 19), .inl (g.2.1, 6, .inl vp)), ((ad 20), .inl (g.2.1, 6, .inl vt)), ((ad 21), .inl (g.2.1, 6, .inl va)), ((ad 22), .inl (g.2.1, 6, .inl vw))]
def wLk (g : xGt) (ad : Nat → Nat) (jd : Int32) (jb : Int32) (jc : Int32) (js : Int32) (jl : Int32) (jx : Int32) (ji : Int32) (jf : Int32) (jn : Int32) : va_W := [((ad 23), .inr (1, [.int jd, .int jb, .int jc, .int js, .int jl, .int jx, .int ji, .int jf, .int jn]))]
def wDm (g : xGt) (ad : Nat → Nat) (dq : Nat → Int32) : va_W := [((ad 24), .inl (g.2.1, 6, .inl dq))]
def wRd (g : xGt) (ad : Nat) (rp : Int32) (rl : Int32) (rs : Int32) (rm : Int32) (rn : Int32) (rz : Int32) : va_W := [(ad, .inr (0, [.int rp, .int rl, .int rs, .int rm, .int rn, .int rz]))]
section Y0
variable {p : Program} {l : Launch} {e : Env} {R : Room} {s : State} {m : MethodId} {args : Array Value} {below : List Frame} {meth : Method} {c : Code} {cells slots : Nat} {Q : State → Prop} {cc : ByteArray} {pc nL : Nat} {own nm : String} {D : va_G} {tys : List (ClassId × FieldType)} {A : Nat → Prop} {ws : va_W} {lv : List (Nat × Value)} {st : List Value}
theorem pm_two (w0 X w1 Y w2 : va_W) : (w0 ++ (X ++ (w1 ++ (Y ++ w2)))).Perm (X ++ (Y ++ (w0 ++ (w1 ++ w2)))) := by
  refine (List.perm_append_comm_assoc w0 X _).trans (List.Perm.append_left X ?_)
  refine (List.Perm.append_left w0 (List.perm_append_comm_assoc w1 Y w2)).trans ?_
  exact List.perm_append_comm_assoc w0 Y _
theorem x_GV2 {y : MethodName} {bytes : ByteArray} {maxL n idx fr lo mc ms : Nat} {b ci N : Nat} {T : u_T} {fs : List Value} {ret : Option FieldType} {w0 w1 w2 X Y X' Y' : va_W} (As rest : List Value) (ws' : va_W) (C : xC p l s m args meth c cc nL own nm D tys A) (hM : xM l D tys y (ws_ y bytes maxL ret) (xRm fr lo mc ms) mc ms (.ref b :: As) (X ++ Y) (fun r w => r = none ∧ w = X' ++ Y') (fun _ _ => False)) (hws : ws = w0 ++ (X ++ (w1 ++ (Y ++ w2)))) (hy : xYV y bytes maxL ret n) (hl : Cond.methodLink own idx y ∈ xAll) (hws' : w0 ++ (X' ++ (w1 ++ (Y' ++ w2))) = ws') (hq : X[0]? = some (b, .inr (ci, fs))) (hcl : vwCl[ci]? = some (y.cls, T, N)) (hn : As.length = n) (hst : st = As.reverse ++ (.ref b :: rest)) (hW : (rest.map fun v => v.category).sum ≤ 8) (hf1 : fr + 1 ≤ R.frames) (hf2 : 8 + (maxL + 11) + lo ≤ R.locals) (hc : cells + mc ≤ R.cells) (hs : slots + ms ≤ R.slots) (hd : decode cc pc = .ok (.invokevirtual idx, 3)) (K : xW p l e R s m args below meth c D A nL (cells + mc) (slots + ms) Q ws' lv (pc + 3) (rest)) : xW p l e R s m args below meth c D A nL cells slots Q ws lv pc st := by
  subst hws
  refine x_perm (pm_two w0 X w1 Y w2) ?_
  have hq2 : (X ++ (Y ++ (w0 ++ (w1 ++ w2))))[0]? = some (b, .inr (ci, fs)) := by
    cases X with
    | nil => cases hq
    | cons a as => exact hq
  refine x_GV (w1 := []) (wc := X ++ Y) (w2 := w0 ++ (w1 ++ w2)) As rest (X' ++ (Y' ++ (w0 ++ (w1 ++ w2)))) C hM (List.append_assoc X Y _).symm hy hl (List.append_assoc X' Y' _) 0 hq2 hcl hn hst hW hf1 hf2 hc hs hd ?_
  refine x_perm (pm_two w0 X' w1 Y' w2).symm ?_
  rw [hws']
  exact K
theorem x_GS2 {y : MethodName} {bytes : ByteArray} {maxL n idx fr lo mc ms : Nat} {ret : Option FieldType} {w0 w1 w2 X Y X' Y' : va_W} (As rest : List Value) (ws' : va_W) (C : xC p l s m args meth c cc nL own nm D tys A) (hM : xM l D tys y (ws_ y bytes maxL ret) (xRm fr lo mc ms) mc ms (As) (X ++ Y) (fun r w => r = none ∧ w = X' ++ Y') (fun _ _ => False)) (hws : ws = w0 ++ (X ++ (w1 ++ (Y ++ w2)))) (hy : xYS y bytes maxL ret n) (hl : Cond.methodLink own idx y ∈ xAll) (hws' : w0 ++ (X' ++ (w1 ++ (Y' ++ w2))) = ws') (hn : As.length = n) (hst : st = As.reverse ++ rest) (hW : (rest.map fun v => v.category).sum ≤ 8) (hf1 : fr + 1 ≤ R.frames) (hf2 : 8 + (maxL + 11) + lo ≤ R.locals) (hc : cells + mc ≤ R.cells) (hs : slots + ms ≤ R.slots) (hd : decode cc pc = .ok (.invokestatic idx, 3)) (K : xW p l e R s m args below meth c D A nL (cells + mc) (slots + ms) Q ws' lv (pc + 3) (rest)) : xW p l e R s m args below meth c D A nL cells slots Q ws lv pc st := by
  subst hws
  refine x_perm (pm_two w0 X w1 Y w2) ?_
  refine x_GS (w1 := []) (wc := X ++ Y) (w2 := w0 ++ (w1 ++ w2)) As rest (X' ++ (Y' ++ (w0 ++ (w1 ++ w2)))) C hM (List.append_assoc X Y _).symm hy hl (List.append_assoc X' Y' _) hn hst hW hf1 hf2 hc hs hd ?_
  refine x_perm (pm_two w0 X' w1 Y' w2).symm ?_
  rw [hws']
  exact K
theorem x_GSN2 {y : MethodName} {bytes : ByteArray} {maxL n idx fr lo mc ms : Nat} {host : String} {ret : Option FieldType} {w0 w1 w2 X Y X' Y' : va_W} (As rest : List Value) (ws' : va_W) (C : xC p l s m args meth c cc nL own nm D tys A) (hM : xM l D tys y (ws_ y bytes maxL ret) (xRm fr lo mc ms) mc ms (As) (X ++ Y) (fun r w => r = none ∧ w = X' ++ Y') (fun _ _ => False)) (hws : ws = w0 ++ (X ++ (w1 ++ (Y ++ w2)))) (hy : xYS y bytes maxL ret n) (hl : (own, idx, y, host) ∈ xNs) (hws' : w0 ++ (X' ++ (w1 ++ (Y' ++ w2))) = ws') (hn : As.length = n) (hst : st = As.reverse ++ rest) (hW : (rest.map fun v => v.category).sum ≤ 8) (hf1 : fr + 1 ≤ R.frames) (hf2 : 8 + (maxL + 11) + lo ≤ R.locals) (hc : cells + mc ≤ R.cells) (hs : slots + ms ≤ R.slots) (hd : decode cc pc = .ok (.invokestatic idx, 3)) (K : xW p l e R s m args below meth c D A nL (cells + mc) (slots + ms) Q ws' lv (pc + 3) (rest)) : xW p l e R s m args below meth c D A nL cells slots Q ws lv pc st := by
  subst hws
  refine x_perm (pm_two w0 X w1 Y w2) ?_
  refine x_GSN (w1 := []) (wc := X ++ Y) (w2 := w0 ++ (w1 ++ w2)) As rest (X' ++ (Y' ++ (w0 ++ (w1 ++ w2)))) C hM (List.append_assoc X Y _).symm hy hl (List.append_assoc X' Y' _) hn hst hW hf1 hf2 hc hs hd ?_
  refine x_perm (pm_two w0 X' w1 Y' w2).symm ?_
  rw [hws']
  exact K
theorem x_tabNo (C : xC p l s m args meth c cc nL own nm D tys A) {dflt lo hi : Int} {offs : Array Int} {len : Nat} {x : Int32} (tgt : Nat) (hd : decode cc pc = .ok (.tableswitch dflt lo hi offs, len)) (hz : hi - lo + 1 = offs.size) (h : ∀ i : Nat, i < offs.size → ¬ offs[i]? = some dflt → ¬ x.toInt = lo + i) (ht : (pc : Int) + dflt = (tgt : Int)) (K : xW p l e R s m args below meth c D A nL cells slots Q ws lv tgt st) : xW p l e R s m args below meth c D A nL cells slots Q ws lv pc (.int x :: st) := by
  by_cases h1 : x.toInt < lo
  · exact x_tabOut C tgt hd (Or.inl h1) ht K
  · by_cases h2 : hi < x.toInt
    · exact x_tabOut C tgt hd (Or.inr h2) ht K
    · have hi2 : (x.toInt - lo).toNat < offs.size := by omega
      refine x_tabIn C tgt hd h1 h2 (off := dflt) ?_ ht K
      apply Classical.byContradiction
      intro hne
      exact h _ hi2 hne (by omega)
end Y0
def sp_X5_slotOf (kh : Int32) (k : Nat) : Int32 := (if kh = 0 then (nI k) else (nI (4 + k)))
set_option maxRecDepth 100000 in
set_option maxHeartbeats 400000 in
theorem k_X5_slotOf (l : Launch) (g : xGt) (ad : Nat → Nat) (kp : Nat → Int32) (ke : Nat → Int32) (kr : Nat → Int32) (kt : Nat → Int32) (kh : Int32) (kc : Int32) (x_k : Int32) (k : Nat) (e_k : x_k = nI k) : xM l g.1 (xT g) yX5_slotOf (ws_ yX5_slotOf cX5_slotOf 2 (some .int)) (xRm 0 0 0 0) 0 0 [.ref (ad 1), .int x_k] (wSk g ad kp ke kr kt kh kc) (fun r9 w9 => r9 = some (.int (sp_X5_slotOf kh k)) ∧ w9 = (wSk g ad kp ke kr kt kh kc)) (fun _ _ => False) := by
  subst e_k
  refine x_start (own := RX5) (nm := "slotOf") rfl rfl (by decide +kernel) rfl (nle rfl) (fun p e σ m args below meth c A C hno hr => ?_)
  refine x_lve (lv' := [(0, .ref (ad 1)), (1, .int (nI k))]) rfl ?_
  refine x_aload_n C 0 rfl rfl dX5_slotOf_0 ?_
  refine x_get C 0 5 4 rfl rfl wLy_X5 wFL_X5_24 rfl (by decide) rfl dX5_slotOf_1 ?_
  suffices K2 : xW p l e _ σ m args below meth c g.1 A 2 0 0 _ (wSk g ad kp ke kr kt kh kc) [(0, .ref (ad 1)), (1, .int (nI k))] 14 [.int (if kh = 0 then (nI k) else (nI (4 + k)))] by
    refine x_if_eq C 13 (by decide) dX5_slotOf_4 (fun h1 => ?_) (fun h1 => ?_)
    · refine x_iload_n C 1 rfl rfl dX5_slotOf_13 ?_
      refine x_st (st' := [.int (if kh = 0 then (nI k) else (nI (4 + k)))]) (by simp only [if_pos h1]) ?_
      exact K2
    · refine x_iconst C 4 (by decide) dX5_slotOf_7 ?_
      refine x_iload_n C 1 rfl rfl dX5_slotOf_8 ?_
      refine x_iaddN C 4 k rfl rfl dX5_slotOf_9 ?_
      refine x_goto C 14 (by decide) dX5_slotOf_10 ?_
      refine x_st (st' := [.int (if kh = 0 then (nI k) else (nI (4 + k)))]) (by simp only [if_neg h1]) ?_
      exact K2
  exact x_iret C hr (nle rfl) (nle rfl) dX5_slotOf_14 ⟨(by first | (simp only [sp_X5_slotOf]; done) | (simp only [sp_X5_slotOf]; rfl)), rfl⟩
theorem slot_nat (kh : Int32) (k : Nat) : (if kh = 0 then (nI k) else (nI (4 + k))) = nI (if kh = 0 then k else 4 + k) := by split <;> rfl
theorem slot_lt (kh : Int32) {k : Nat} (h : k < 4) : (if kh = 0 then k else 4 + k) < 8 := by split <;> omega
