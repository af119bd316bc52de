section XDD
variable {p : Program} {l : Launch} {e : Env} {R : Room} {s : State} {m : MethodId} {args : Array Value} {below : List Frame} {meth : Method} {c : Code} {cells slots : Nat} {Q : State → Prop} {cc : ByteArray} {pc nL : Nat} {own nm : String} {D : va_G} {tys : List (ClassId × FieldType)} {A : Nat → Prop} {ws : va_W} {lv : List (Nat × Value)} {st : List Value}
theorem x_ddiv (C : xC p l s m args meth c cc nL own nm D tys A) {x y : UInt64} (hne : vf_n64 (FP.ddiv x y)) (hd : decode cc pc = .ok (.ddiv, 1)) (K : xW p l e R s m args below meth c D A nL cells slots Q ws lv (pc + 1) (.double (FP.ddiv x y) :: st)) : xW p l e R s m args below meth c D A nL cells slots Q ws lv pc (.double y :: .double x :: st) := fun H locs ls hP hD hS hl => lv_ddiv C.1 C.2.1 hd hne (K H locs ls hP hD hS hl)
theorem x_dcmp (C : xC p l s m args meth c cc nL own nm D tys A) {x y : UInt64} {op : CmpOp} (hd : decode cc pc = .ok (.dcmp op, 1)) (K : xW p l e R s m args below meth c D A nL cells slots Q ws lv (pc + 1) (.int (Op.cmpValue (FP.dcmp x y) op) :: st)) : xW p l e R s m args below meth c D A nL cells slots Q ws lv pc (.double y :: .double x :: st) := fun H locs ls hP hD hS hl => lv_dcmp C.1 C.2.1 hd (K H locs ls hP hD hS hl)
theorem x_dret {post : Option Value → va_W → Prop} {px : String → va_W → Prop} {mc ms : Nat} {v : UInt64} (C : xC p l s m args meth c cc nL own nm D tys A) (hr : meth.sig.returnType = some .double) (hc : cells ≤ mc) (hs : slots ≤ ms) (hd : decode cc pc = .ok (.dreturn, 1)) (hp : post (some (.double v)) ws) : xW p l e R s m args below meth c D A nL cells slots (vx_MQ below (xQc D A post) (xXC D A px) args s mc ms A) ws lv pc [.double v] := fun H locs ls hP hD hS hl => vx_ret (W.widen hc hs (W.dret (hlocks := C.2.2.2.2.2.2.2.1) C.1 C.2.1 hr (fun t ht hW => ⟨⟨_, ws, rfl, hp, by rw [ht]; exact hP, hD⟩, hS.F ht⟩) hS.2.2 hd))
end XDD
def lqV (js jl : Int32) : UInt64 := if js = 0 then FP.dconst1 else FP.ddiv (FP.i2d (js - jl)) (FP.i2d js)
set_option maxRecDepth 100000 in
set_option maxHeartbeats 1000000 in
theorem k_X6_linkQuality (l : Launch) (g : xGt) (ap ad : Nat → Nat) (r : xR) (po : Int32) (pn : Int32) (pl : Int32) (tx : Nat → Int32) (rp : Int32) (rl : Int32) (rs : Int32) (rm : Int32) (rn : Int32) (rz : Int32) (sv : xPl) (mm : xPl) (hc : clO r po pn) : xM l g.1 (xT g) yX6_linkQuality (ws_ yX6_linkQuality cX6_linkQuality 1 (some .double)) (xRm 0 0 0 0) 0 0 [.ref (ap 0)] (wCl g ap ad r po pn pl tx rp rl rs rm rn rz sv mm) (fun r9 w9 => r9 = some (.double (lqV r.js r.jl)) ∧ w9 = (wCl g ap ad r po pn pl tx rp rl rs rm rn rz sv mm)) (fun _ _ => False) := by
  refine x_start (own := RX6) (nm := "linkQuality") rfl rfl (by decide +kernel) rfl (nle rfl) (fun p e σ m args below meth c A C hno hr => ?_)
  refine x_lve (lv' := [(0, .ref (ap 0))]) rfl ?_
  refine x_ws (ws' := (wPo g ap ad po pn pl ++ (wS0 g ad ++ (wSk g ad r.kp r.ke r.kr r.kt r.kh r.kc ++ (wMx g ad r.xn r.xs r.xv r.xh r.xo r.xc ++ (wSv g ad r.vd r.vn r.vl r.vu r.vs r.vm r.vp r.vt r.va r.vw ++ (wLk g ad r.jd r.jb r.jc r.js r.jl r.jx r.ji r.jf r.jn ++ (wDm g ad r.dq ++ (wPq g ap (adr sv) (adr mm) tx ++ (wRd g (ap 4) rp rl rs rm rn rz ++ (wPl g sv 6 ++ wPl g mm 2))))))))))) rfl ?_
  refine x_aload_n C 0 rfl rfl dX6_linkQuality_0 ?_
  refine x_get C 0 6 0 rfl rfl wLy_X6 wFL_X6_10 rfl (by decide) rfl dX6_linkQuality_1 ?_
  refine x_get C 1 4 3 rfl rfl wLy_X4 wFL_X6_178 rfl (by decide) rfl dX6_linkQuality_4 ?_
  refine x_get C 24 1 3 rfl rfl wLy_X1 wFL_X6_193 rfl (by decide) rfl dX6_linkQuality_7 ?_
  refine x_if_ne C 15 (by decide) dX6_linkQuality_10 (fun hz => ?_) (fun hz => ?_)
  · refine x_aload_n C 0 rfl rfl dX6_linkQuality_15 ?_
    refine x_get C 0 6 0 rfl rfl wLy_X6 wFL_X6_10 rfl (by decide) rfl dX6_linkQuality_16 ?_
    refine x_get C 1 4 3 rfl rfl wLy_X4 wFL_X6_178 rfl (by decide) rfl dX6_linkQuality_19 ?_
    refine x_get C 24 1 3 rfl rfl wLy_X1 wFL_X6_193 rfl (by decide) rfl dX6_linkQuality_22 ?_
    refine x_aload_n C 0 rfl rfl dX6_linkQuality_25 ?_
    refine x_get C 0 6 0 rfl rfl wLy_X6 wFL_X6_10 rfl (by decide) rfl dX6_linkQuality_26 ?_
    refine x_get C 1 4 3 rfl rfl wLy_X4 wFL_X6_178 rfl (by decide) rfl dX6_linkQuality_29 ?_
    refine x_get C 24 1 4 rfl rfl wLy_X1 wFL_X6_196 rfl (by decide) rfl dX6_linkQuality_32 ?_
    refine x_isub C dX6_linkQuality_35 ?_
    refine x_i2d C dX6_linkQuality_36 ?_
    refine x_aload_n C 0 rfl rfl dX6_linkQuality_37 ?_
    refine x_get C 0 6 0 rfl rfl wLy_X6 wFL_X6_10 rfl (by decide) rfl dX6_linkQuality_38 ?_
    refine x_get C 1 4 3 rfl rfl wLy_X4 wFL_X6_178 rfl (by decide) rfl dX6_linkQuality_41 ?_
    refine x_get C 24 1 3 rfl rfl wLy_X1 wFL_X6_193 rfl (by decide) rfl dX6_linkQuality_44 ?_
    refine x_i2d C dX6_linkQuality_47 ?_
    refine x_ddiv C (na_div _ hz) dX6_linkQuality_48 ?_
    exact x_dret C hr (nle rfl) (nle rfl) dX6_linkQuality_49 ⟨by simp only [lqV, if_neg hz], rfl⟩
  · refine x_dconst1 C dX6_linkQuality_13 ?_
    exact x_dret C hr (nle rfl) (nle rfl) dX6_linkQuality_14 ⟨by simp only [lqV, if_pos hz], rfl⟩
