/-- the rows of a state -/
abbrev xR : Type := (Nat → Int32) × (Nat → Int32) × (Nat → Int32) × (Nat → Int32) × Int32 × Int32 × Int32 × (Nat → Int32) × (Nat → Int32) × (Nat → Int32) × (Nat → Int32) × (Nat → Int32) × (Nat → Int32) × (Nat → Int32) × (Nat → Int32) × (Nat → Int32) × (Nat → Int32) × (Nat → Int32) × (Nat → Int32) × (Nat → Int32) × (Nat → Int32) × (Nat → Int32) × Int32 × Int32 × Int32 × Int32 × Int32 × Int32 × Int32 × Int32 × Int32 × (Nat → Int32)
def xRk (kp : Nat → Int32) (ke : Nat → Int32) (kr : Nat → Int32) (kt : Nat → Int32) (kh : Int32) (kc : Int32) (xn : Int32) (xs : Nat → Int32) (xv : Nat → Int32) (xh : Nat → Int32) (xo : Nat → Int32) (xc : Nat → Int32) (vd : Nat → Int32) (vn : Nat → Int32) (vl : Nat → Int32) (vu : Nat → Int32) (vs : Nat → Int32) (vm : Nat → Int32) (vp : Nat → Int32) (vt : Nat → Int32) (va : Nat → Int32) (vw : Nat → Int32) (jd : Int32) (jb : Int32) (jc : Int32) (js : Int32) (jl : Int32) (jx : Int32) (ji : Int32) (jf : Int32) (jn : Int32) (dq : Nat → Int32) : xR := (kp, ke, kr, kt, kh, kc, xn, xs, xv, xh, xo, xc, vd, vn, vl, vu, vs, vm, vp, vt, va, vw, jd, jb, jc, js, jl, jx, ji, jf, jn, dq)
def xR.kp (r : xR) : Nat → Int32 := r.1
def xR.ke (r : xR) : Nat → Int32 := r.2.1
def xR.kr (r : xR) : Nat → Int32 := r.2.2.1
def xR.kt (r : xR) : Nat → Int32 := r.2.2.2.1
def xR.kh (r : xR) : Int32 := r.2.2.2.2.1
def xR.kc (r : xR) : Int32 := r.2.2.2.2.2.1
def xR.xn (r : xR) : Int32 := r.2.2.2.2.2.2.1
def xR.xs (r : xR) : Nat → Int32 := r.2.2.2.2.2.2.2.1
def xR.xv (r : xR) : Nat → Int32 := r.2.2.2.2.2.2.2.2.1
def xR.xh (r : xR) : Nat → Int32 := r.2.2.2.2.2.2.2.2.2.1
def xR.xo (r : xR) : Nat → Int32 := r.2.2.2.2.2.2.2.2.2.2.1
def xR.xc (r : xR) : Nat → Int32 := r.2.2.2.2.2.2.2.2.2.2.2.1
def xR.vd (r : xR) : Nat → Int32 := r.2.2.2.2.2.2.2.2.2.2.2.2.1
def xR.vn (r : xR) : Nat → Int32 := r.2.2.2.2.2.2.2.2.2.2.2.2.2.1
def xR.vl (r : xR) : Nat → Int32 := r.2.2.2.2.2.2.2.2.2.2.2.2.2.2.1
def xR.vu (r : xR) : Nat → Int32 := r.2.2.2.2.2.2.2.2.2.2.2.2.2.2.2.1
def xR.vs (r : xR) : Nat → Int32 := r.2.2.2.2.2.2.2.2.2.2.2.2.2.2.2.2.1
def xR.vm (r : xR) : Nat → Int32 := r.2.2.2.2.2.2.2.2.2.2.2.2.2.2.2.2.2.1
def xR.vp (r : xR) : Nat → Int32 := r.2.2.2.2.2.2.2.2.2.2.2.2.2.2.2.2.2.2.1
def xR.vt (r : xR) : Nat → Int32 := r.2.2.2.2.2.2.2.2.2.2.2.2.2.2.2.2.2.2.2.1
def xR.va (r : xR) : Nat → Int32 := r.2.2.2.2.2.2.2.2.2.2.2.2.2.2.2.2.2.2.2.2.1
def xR.vw (r : xR) : Nat → Int32 := r.2.2.2.2.2.2.2.2.2.2.2.2.2.2.2.2.2.2.2.2.2.1
def xR.jd (r : xR) : Int32 := r.2.2.2.2.2.2.2.2.2.2.2.2.2.2.2.2.2.2.2.2.2.2.1
def xR.jb (r : xR) : Int32 := r.2.2.2.2.2.2.2.2.2.2.2.2.2.2.2.2.2.2.2.2.2.2.2.1
def xR.jc (r : xR) : Int32 := r.2.2.2.2.2.2.2.2.2.2.2.2.2.2.2.2.2.2.2.2.2.2.2.2.1
def xR.js (r : xR) : Int32 := r.2.2.2.2.2.2.2.2.2.2.2.2.2.2.2.2.2.2.2.2.2.2.2.2.2.1
def xR.jl (r : xR) : Int32 := r.2.2.2.2.2.2.2.2.2.2.2.2.2.2.2.2.2.2.2.2.2.2.2.2.2.2.1
def xR.jx (r : xR) : Int32 := r.2.2.2.2.2.2.2.2.2.2.2.2.2.2.2.2.2.2.2.2.2.2.2.2.2.2.2.1
def xR.ji (r : xR) : Int32 := r.2.2.2.2.2.2.2.2.2.2.2.2.2.2.2.2.2.2.2.2.2.2.2.2.2.2.2.2.1
def xR.jf (r : xR) : Int32 := r.2.2.2.2.2.2.2.2.2.2.2.2.2.2.2.2.2.2.2.2.2.2.2.2.2.2.2.2.2.1
def xR.jn (r : xR) : Int32 := r.2.2.2.2.2.2.2.2.2.2.2.2.2.2.2.2.2.2.2.2.2.2.2.2.2.2.2.2.2.2.1
def xR.dq (r : xR) : Nat → Int32 := r.2.2.2.2.2.2.2.2.2.2.2.2.2.2.2.2.2.2.2.2.2.2.2.2.2.2.2.2.2.2.2
def xR.set_kp (r : xR) (v : Nat → Int32) : xR := xRk v r.ke r.kr r.kt r.kh r.kc r.xn r.xs r.xv r.xh r.xo r.xc r.vd r.vn r.vl r.vu r.vs r.vm r.vp r.vt r.va r.vw r.jd r.jb r.jc r.js r.jl r.jx r.ji r.jf r.jn r.dq
def xR.set_ke (r : xR) (v : Nat → Int32) : xR := xRk r.kp v r.kr r.kt r.kh r.kc r.xn r.xs r.xv r.xh r.xo r.xc r.vd r.vn r.vl r.vu r.vs r.vm r.vp r.vt r.va r.vw r.jd r.jb r.jc r.js r.jl r.jx r.ji r.jf r.jn r.dq
def xR.set_kr (r : xR) (v : Nat → Int32) : xR := xRk r.kp r.ke v r.kt r.kh r.kc r.xn r.xs r.xv r.xh r.xo r.xc r.vd r.vn r.vl r.vu r.vs r.vm r.vp r.vt r.va r.vw r.jd r.jb r.jc r.js r.jl r.jx r.ji r.jf r.jn r.dq
def xR.set_kt (r : xR) (v : Nat → Int32) : xR := xRk r.kp r.ke r.kr v r.kh r.kc r.xn r.xs r.xv r.xh r.xo r.xc r.vd r.vn r.vl r.vu r.vs r.vm r.vp r.vt r.va r.vw r.jd r.jb r.jc r.js r.jl r.jx r.ji r.jf r.jn r.dq
def xR.set_kh (r : xR) (v : Int32) : xR := xRk r.kp r.ke r.kr r.kt v r.kc r.xn r.xs r.xv r.xh r.xo r.xc r.vd r.vn r.vl r.vu r.vs r.vm r.vp r.vt r.va r.vw r.jd r.jb r.jc r.js r.jl r.jx r.ji r.jf r.jn r.dq
def xR.set_kc (r : xR) (v : Int32) : xR := xRk r.kp r.ke r.kr r.kt r.kh v r.xn r.xs r.xv r.xh r.xo r.xc r.vd r.vn r.vl r.vu r.vs r.vm r.vp r.vt r.va r.vw r.jd r.jb r.jc r.js r.jl r.jx r.ji r.jf r.jn r.dq
def xR.set_xn (r : xR) (v : Int32) : xR := xRk r.kp r.ke r.kr r.kt r.kh r.kc v r.xs r.xv r.xh r.xo r.xc r.vd r.vn r.vl r.vu r.vs r.vm r.vp r.vt r.va r.vw r.jd r.jb r.jc r.js r.jl r.jx r.ji r.jf r.jn r.dq
def xR.set_xs (r : xR) (v : Nat → Int32) : xR := xRk r.kp r.ke r.kr r.kt r.kh r.kc r.xn v r.xv r.xh r.xo r.xc r.vd r.vn r.vl r.vu r.vs r.vm r.vp r.vt r.va r.vw r.jd r.jb r.jc r.js r.jl r.jx r.ji r.jf r.jn r.dq
def xR.set_xv (r : xR) (v : Nat → Int32) : xR := xRk r.kp r.ke r.kr r.kt r.kh r.kc r.xn r.xs v r.xh r.xo r.xc r.vd r.vn r.vl r.vu r.vs r.vm r.vp r.vt r.va r.vw r.jd r.jb r.jc r.js r.jl r.jx r.ji r.jf r.jn r.dq
def xR.set_xh (r : xR) (v : Nat → Int32) : xR := xRk r.kp r.ke r.kr r.kt r.kh r.kc r.xn r.xs r.xv v r.xo r.xc r.vd r.vn r.vl r.vu r.vs r.vm r.vp r.vt r.va r.vw r.jd r.jb r.jc r.js r.jl r.jx r.ji r.jf r.jn r.dq
def xR.set_xo (r : xR) (v : Nat → Int32) : xR := xRk r.kp r.ke r.kr r.kt r.kh r.kc r.xn r.xs r.xv r.xh v r.xc r.vd r.vn r.vl r.vu r.vs r.vm r.vp r.vt r.va r.vw r.jd r.jb r.jc r.js r.jl r.jx r.ji r.jf r.jn r.dq
def xR.set_xc (r : xR) (v : Nat → Int32) : xR := xRk r.kp r.ke r.kr r.kt r.kh r.kc r.xn r.xs r.xv r.xh r.xo v r.vd r.vn r.vl r.vu r.vs r.vm r.vp r.vt r.va r.vw r.jd r.jb r.jc r.js r.jl r.jx r.ji r.jf r.jn r.dq
def xR.set_vd (r : xR) (v : Nat → Int32) : xR := xRk r.kp r.ke r.kr r.kt r.kh r.kc r.xn r.xs r.xv r.xh r.xo r.xc v r.vn r.vl r.vu r.vs r.vm r.vp r.vt r.va r.vw r.jd r.jb r.jc r.js r.jl r.jx r.ji r.jf r.jn r.dq
def xR.set_vn (r : xR) (v : Nat → Int32) : xR := xRk r.kp r.ke r.kr r.kt r.kh r.kc r.xn r.xs r.xv r.xh r.xo r.xc r.vd v r.vl r.vu r.vs r.vm r.vp r.vt r.va r.vw r.jd r.jb r.jc r.js r.jl r.jx r.ji r.jf r.jn r.dq
def xR.set_vl (r : xR) (v : Nat → Int32) : xR := xRk r.kp r.ke r.kr r.kt r.kh r.kc r.xn r.xs r.xv r.xh r.xo r.xc r.vd r.vn v r.vu r.vs r.vm r.vp r.vt r.va r.vw r.jd r.jb r.jc r.js r.jl r.jx r.ji r.jf r.jn r.dq
def xR.set_vu (r : xR) (v : Nat → Int32) : xR := xRk r.kp r.ke r.kr r.kt r.kh r.kc r.xn r.xs r.xv r.xh r.xo r.xc r.vd r.vn r.vl v r.vs r.vm r.vp r.vt r.va r.vw r.jd r.jb r.jc r.js r.jl r.jx r.ji r.jf r.jn r.dq
def xR.set_vs (r : xR) (v : Nat → Int32) : xR := xRk r.kp r.ke r.kr r.kt r.kh r.kc r.xn r.xs r.xv r.xh r.xo r.xc r.vd r.vn r.vl r.vu v r.vm r.vp r.vt r.va r.vw r.jd r.jb r.jc r.js r.jl r.jx r.ji r.jf r.jn r.dq
def xR.set_vm (r : xR) (v : Nat → Int32) : xR := xRk r.kp r.ke r.kr r.kt r.kh r.kc r.xn r.xs r.xv r.xh r.xo r.xc r.vd r.vn r.vl r.vu r.vs v r.vp r.vt r.va r.vw r.jd r.jb r.jc r.js r.jl r.jx r.ji r.jf r.jn r.dq
def xR.set_vp (r : xR) (v : Nat → Int32) : xR := xRk r.kp r.ke r.kr r.kt r.kh r.kc r.xn r.xs r.xv r.xh r.xo r.xc r.vd r.vn r.vl r.vu r.vs r.vm v r.vt r.va r.vw r.jd r.jb r.jc r.js r.jl r.jx r.ji r.jf r.jn r.dq
def xR.set_vt (r : xR) (v : Nat → Int32) : xR := xRk r.kp r.ke r.kr r.kt r.kh r.kc r.xn r.xs r.xv r.xh r.xo r.xc r.vd r.vn r.vl r.vu r.vs r.vm r.vp v r.va r.vw r.jd r.jb r.jc r.js r.jl r.jx r.ji r.jf r.jn r.dq
def xR.set_va (r : xR) (v : Nat → Int32) : xR := xRk r.kp r.ke r.kr r.kt r.kh r.kc r.xn r.xs r.xv r.xh r.xo r.xc r.vd r.vn r.vl r.vu r.vs r.vm r.vp r.vt v r.vw r.jd r.jb r.jc r.js r.jl r.jx r.ji r.jf r.jn r.dq
def xR.set_vw (r : xR) (v : Nat → Int32) : xR := xRk r.kp r.ke r.kr r.kt r.kh r.kc r.xn r.xs r.xv r.xh r.xo r.xc r.vd r.vn r.vl r.vu r.vs r.vm r.vp r.vt r.va v r.jd r.jb r.jc r.js r.jl r.jx r.ji r.jf r.jn r.dq
def xR.set_jd (r : xR) (v : Int32) : xR := xRk r.kp r.ke r.kr r.kt r.kh r.kc r.xn r.xs r.xv r.xh r.xo r.xc r.vd r.vn r.vl r.vu r.vs r.vm r.vp r.vt r.va r.vw v r.jb r.jc r.js r.jl r.jx r.ji r.jf r.jn r.dq
def xR.set_jb (r : xR) (v : Int32) : xR := xRk r.kp r.ke r.kr r.kt r.kh r.kc r.xn r.xs r.xv r.xh r.xo r.xc r.vd r.vn r.vl r.vu r.vs r.vm r.vp r.vt r.va r.vw r.jd v r.jc r.js r.jl r.jx r.ji r.jf r.jn r.dq
def xR.set_jc (r : xR) (v : Int32) : xR := xRk r.kp r.ke r.kr r.kt r.kh r.kc r.xn r.xs r.xv r.xh r.xo r.xc r.vd r.vn r.vl r.vu r.vs r.vm r.vp r.vt r.va r.vw r.jd r.jb v r.js r.jl r.jx r.ji r.jf r.jn r.dq
def xR.set_js (r : xR) (v : Int32) : xR := xRk r.kp r.ke r.kr r.kt r.kh r.kc r.xn r.xs r.xv r.xh r.xo r.xc r.vd r.vn r.vl r.vu r.vs r.vm r.vp r.vt r.va r.vw r.jd r.jb r.jc v r.jl r.jx r.ji r.jf r.jn r.dq
def xR.set_jl (r : xR) (v : Int32) : xR := xRk r.kp r.ke r.kr r.kt r.kh r.kc r.xn r.xs r.xv r.xh r.xo r.xc r.vd r.vn r.vl r.vu r.vs r.vm r.vp r.vt r.va r.vw r.jd r.jb r.jc r.js v r.jx r.ji r.jf r.jn r.dq
def xR.set_jx (r : xR) (v : Int32) : xR := xRk r.kp r.ke r.kr r.kt r.kh r.kc r.xn r.xs r.xv r.xh r.xo r.xc r.vd r.vn r.vl r.vu r.vs r.vm r.vp r.vt r.va r.vw r.jd r.jb r.jc r.js r.jl v r.ji r.jf r.jn r.dq
def xR.set_ji (r : xR) (v : Int32) : xR := xRk r.kp r.ke r.kr r.kt r.kh r.kc r.xn r.xs r.xv r.xh r.xo r.xc r.vd r.vn r.vl r.vu r.vs r.vm r.vp r.vt r.va r.vw r.jd r.jb r.jc r.js r.jl r.jx v r.jf r.jn r.dq
def xR.set_jf (r : xR) (v : Int32) : xR := xRk r.kp r.ke r.kr r.kt r.kh r.kc r.xn r.xs r.xv r.xh r.xo r.xc r.vd r.vn r.vl r.vu r.vs r.vm r.vp r.vt r.va r.vw r.jd r.jb r.jc r.js r.jl r.jx r.ji v r.jn r.dq
def xR.set_jn (r : xR) (v : Int32) : xR := xRk r.kp r.ke r.kr r.kt r.kh r.kc r.xn r.xs r.xv r.xh r.xo r.xc r.vd r.vn r.vl r.vu r.vs r.vm r.vp r.vt r.va r.vw r.jd r.jb r.jc r.js r.jl r.jx r.ji r.jf v r.dq
def xR.set_dq (r : xR) (v : Nat → Int32) : xR := xRk r.kp r.ke r.kr r.kt r.kh r.kc r.xn r.xs r.xv r.xh r.xo r.xc r.vd r.vn r.vl r.vu r.vs r.vm r.vp r.vt r.va r.vw r.jd r.jb r.jc r.js r.jl r.jx r.ji r.jf r.jn v
def wSt (g : xGt) (ad : Nat → Nat) (r : xR) : va_W := (wS0 g ad  ++ (wSk g ad r.kp r.ke r.kr r.kt r.kh r.kc ++ (wMx g ad r.xn r.xs r.xv r.xh r.xo r.xc ++ (wSv g ad r.vd r.vn r.vl r.vu r.vs r.vm r.vp r.vt r.va r.vw ++ (wLk g ad r.jd r.jb r.jc r.js r.jl r.jx r.ji r.jf r.jn ++ (wDm g ad r.dq))))))
abbrev xPl : Type := Nat → Option ((Nat → Nat) × xR)
/-- the cells of the states that a pool holds below n -/
def wPl (g : xGt) (sv : xPl) : Nat → va_W
  | 0 => []
  | n + 1 => wPl g sv n ++ (match sv n with | none => [] | some x => wSt g x.1 x.2)
def adr (sv : xPl) : Nat → Option Nat := fun k => (sv k).map (fun x => x.1 0)
def upP (sv : xPl) (k : Nat) (v : Option ((Nat → Nat) × xR)) : xPl := fun j => if j = k then v else sv j
theorem upP_eq (sv : xPl) (k : Nat) (v) : upP sv k v k = v := if_pos rfl
theorem upP_ne (sv : xPl) {k j : Nat} (v) (h : j ≠ k) : upP sv k v j = sv j := if_neg h
theorem wPl_out (g : xGt) (sv : xPl) (k : Nat) (v) : ∀ n, n ≤ k → wPl g (upP sv k v) n = wPl g sv n
  | 0, _ => rfl
  | n + 1, h => by simp only [wPl]; rw [wPl_out g sv k v n (by omega), upP_ne sv v (by omega)]
theorem wPl_perm (g : xGt) (sv : xPl) (k : Nat) (a : Nat → Nat) (r : xR) : ∀ n, k < n → (wPl g (upP sv k (some (a, r))) n).Perm (wSt g a r ++ wPl g (upP sv k none) n)
  | 0, h => absurd h (Nat.not_lt_zero _)
  | n + 1, h => by
    simp only [wPl]
    by_cases c : k = n
    · subst c
      rw [wPl_out g sv k _ k (Nat.le_refl _), wPl_out g sv k _ k (Nat.le_refl _), upP_eq, upP_eq]
      simp only [List.append_nil]
      exact List.perm_append_comm
    · rw [upP_ne sv _ (Ne.symm c), upP_ne sv _ (Ne.symm c)]
      exact (List.Perm.append_right _ (wPl_perm g sv k a r n (by omega))).trans (by rw [List.append_assoc])
theorem upP_self (sv : xPl) (k : Nat) (v) (h : sv k = v) : upP sv k v = sv := by
  funext j
  by_cases c : j = k
  · rw [c, upP_eq, h]
  · exact upP_ne sv v c
theorem adr_upP (sv : xPl) (k : Nat) (v) : adr (upP sv k v) = fun j => if j = k then v.map (fun x => x.1 0) else adr sv j := by
  funext j
  unfold adr
  by_cases c : j = k
  · rw [c, upP_eq, if_pos rfl]
  · rw [upP_ne sv v c, if_neg c]
def wPo (g : xGt) (ap ad : Nat → Nat) (po pn pl : Int32) : va_W := [(ap 0, .inr (6, [.ref (ad 0), .ref (ap 1), .int po, .int pn, .ref (ap 2), .ref (ap 3), .int pl, .ref (ap 4)]))]
def wPq (g : xGt) (ap : Nat → Nat) (qs qm : Nat → Option Nat) (tx : Nat → Int32) : va_W := [(ap 1, .inl (g.2.2.2.1, 6, .inr (.inr (.inr (.inr qs))))), (ap 2, .inl (g.2.2.2.1, 2, .inr (.inr (.inr (.inr qm))))), (ap 3, .inl (g.2.1, 60, .inl tx))]
/-- an object of ours: its own cells, its state, the states that it saved and stored -/
def wCl (g : xGt) (ap ad : Nat → Nat) (r : xR) (po pn pl : Int32) (tx : Nat → Int32) (rp rl rs rm rn rz : Int32) (sv mm : xPl) : va_W := wPo g ap ad po pn pl ++ (wSt g ad r ++ (wPq g ap (adr sv) (adr mm) tx ++ (wRd g (ap 4) rp rl rs rm rn rz ++ (wPl g sv 6 ++ wPl g mm 2))))
section Y7
variable {p : Program} {l : Launch} {e : Env} {R : Room} {s : State} {m : MethodId} {args : Array Value} {below : List Frame} {meth : Method} {c : Code} {cells slots : Nat} {Q : State → Prop} {cc : ByteArray} {pc nL : Nat} {own nm : String} {D : va_G} {tys : List (ClassId × FieldType)} {A : Nat → Prop} {ws : va_W} {lv : List (Nat × Value)} {st : List Value}
/-- a call that checks and may throw -/
theorem x_RS {y : MethodName} {bytes : ByteArray} {maxL n idx fr lo mc ms : Nat} {ret : Option FieldType} {OK : Prop} {X : String} (As rest : List Value) (C : xC p l s m args meth c cc nL own nm D tys A) (hM : xM l D tys y (ws_ y bytes maxL ret) (xRm fr lo mc ms) mc ms (As) [] (fun r w => (r = none ∧ w = []) ∧ OK) (fun E w => (E = X ∧ w = []) ∧ ¬ OK)) (hy : xYS y bytes maxL ret n) (hl : Cond.methodLink own idx y ∈ xAll) (hn : As.length = n) (hst : st = As.reverse ++ rest) (hW : (rest.map fun v => v.category).sum ≤ 8) (hf1 : fr + 1 ≤ R.frames) (hf2 : 8 + (maxL + 11) + lo ≤ R.locals) (hc : cells + mc ≤ R.cells) (hs : slots + ms ≤ R.slots) (hd : decode cc pc = .ok (.invokestatic idx, 3)) (Kx : ¬ OK → xX p l e R s m args below meth c D A nL (cells + mc) (slots + ms) Q ws lv pc X) (K : OK → xW p l e R s m args below meth c D A nL (cells + mc) (slots + ms) Q ws lv (pc + 3) (rest)) : xW p l e R s m args below meth c D A nL cells slots Q ws lv pc st := by
  refine x_callS (w1 := []) (w2 := ws) As rest C hM hy hl rfl hn hst hW hf1 hf2 hc hs hd (fun E w h => ?_) (fun r w h => ?_)
  · obtain ⟨⟨rfl, rfl⟩, h⟩ := h
    exact Kx h
  · obtain ⟨⟨rfl, rfl⟩, h⟩ := h
    exact K h
theorem x_RV {y : MethodName} {bytes : ByteArray} {maxL n idx fr lo mc ms : Nat} {b ci N : Nat} {T : u_T} {fs : List Value} {ret : Option FieldType} {w1 wc w2 : va_W} {OK : Prop} {X : String} (As rest : List Value) (C : xC p l s m args meth c cc nL own nm D tys A) (hM : xM l D tys y (ws_ y bytes maxL ret) (xRm fr lo mc ms) mc ms (.ref b :: As) wc (fun r w => (r = none ∧ w = wc) ∧ OK) (fun E w => (E = X ∧ w = wc) ∧ ¬ OK)) (hws : ws = w1 ++ (wc ++ w2)) (hy : xYV y bytes maxL ret n) (hl : Cond.methodLink own idx y ∈ xAll) (q0 : Nat) (hq : ws[q0]? = some (b, .inr (ci, fs))) (hcl : vwCl[ci]? = some (y.cls, T, N)) (hn : As.length = n) (hst : st = As.reverse ++ (.ref b :: rest)) (hW : (rest.map fun v => v.category).sum ≤ 8) (hf1 : fr + 1 ≤ R.frames) (hf2 : 8 + (maxL + 11) + lo ≤ R.locals) (hc : cells + mc ≤ R.cells) (hs : slots + ms ≤ R.slots) (hd : decode cc pc = .ok (.invokevirtual idx, 3)) (Kx : ¬ OK → xX p l e R s m args below meth c D A nL (cells + mc) (slots + ms) Q ws lv pc X) (K : OK → xW p l e R s m args below meth c D A nL (cells + mc) (slots + ms) Q ws lv (pc + 3) (rest)) : xW p l e R s m args below meth c D A nL cells slots Q ws lv pc st := by
  refine x_callV As rest C hM hy hl hws q0 hq hcl hn hst hW hf1 hf2 hc hs hd (fun E w h => ?_) (fun r w h => ?_)
  · obtain ⟨⟨rfl, rfl⟩, h⟩ := h
    rw [← hws]
    exact Kx h
  · obtain ⟨⟨rfl, rfl⟩, h⟩ := h
    rw [← hws]
    exact K h
end Y7

theorem tw1_xIO : ∀ w ∈ (vx_atS RX6 292 xIO ["java/lang/RuntimeException", "java/lang/Exception"]).filter goodWord, w ∈ xAll := by
  intro w hw
  have h : (vx_atS RX6 292 xIO ["java/lang/RuntimeException", "java/lang/Exception"]).filter goodWord |>.all (fun w => decide (w ∈ lw_tbl)) := by decide +kernel
  exact List.mem_filter.mpr ⟨of_decide_eq_true (List.all_eq_true.mp h w hw), (List.mem_filter.mp hw).2⟩
theorem tw2_xIO : ∀ w ∈ (vx_atS RX6 292 xIO ["java/lang/RuntimeException", "java/lang/Exception"]).filter (fun w => !goodWord w), w ∈ Cond.castable xIO xIO :: xDe.map Cond.declares := by decide +kernel
theorem tw1_xIA : ∀ w ∈ (vx_atS RX6 84 xIA ["java/lang/RuntimeException", "java/lang/Exception"]).filter goodWord, w ∈ xAll := by
  intro w hw
  have h : (vx_atS RX6 84 xIA ["java/lang/RuntimeException", "java/lang/Exception"]).filter goodWord |>.all (fun w => decide (w ∈ lw_tbl)) := by decide +kernel
  exact List.mem_filter.mpr ⟨of_decide_eq_true (List.all_eq_true.mp h w hw), (List.mem_filter.mp hw).2⟩
theorem tw2_xIA : ∀ w ∈ (vx_atS RX6 84 xIA ["java/lang/RuntimeException", "java/lang/Exception"]).filter (fun w => !goodWord w), w ∈ Cond.castable xIA xIA :: xDe.map Cond.declares := by decide +kernel
theorem tw1_xIS : ∀ w ∈ (vx_atS RX6 239 xIS ["java/lang/RuntimeException", "java/lang/Exception"]).filter goodWord, w ∈ xAll := by
  intro w hw
  have h : (vx_atS RX6 239 xIS ["java/lang/RuntimeException", "java/lang/Exception"]).filter goodWord |>.all (fun w => decide (w ∈ lw_tbl)) := by decide +kernel
  exact List.mem_filter.mpr ⟨of_decide_eq_true (List.all_eq_true.mp h w hw), (List.mem_filter.mp hw).2⟩
theorem tw2_xIS : ∀ w ∈ (vx_atS RX6 239 xIS ["java/lang/RuntimeException", "java/lang/Exception"]).filter (fun w => !goodWord w), w ∈ Cond.castable xIS xIS :: xDe.map Cond.declares := by decide +kernel
theorem tw3_xIO : ∀ w ∈ Cond.classLink RX6 288 xIO :: Cond.initialized xIO :: vx_atS RX6 292 xIO ["java/lang/RuntimeException", "java/lang/Exception"], vx_ot w = true := by decide +kernel
theorem tw3_xIA : ∀ w ∈ Cond.classLink RX6 80 xIA :: Cond.initialized xIA :: vx_atS RX6 84 xIA ["java/lang/RuntimeException", "java/lang/Exception"], vx_ot w = true := by decide +kernel
theorem tw3_xIS : ∀ w ∈ Cond.classLink RX6 235 xIS :: Cond.initialized xIS :: vx_atS RX6 239 xIS ["java/lang/RuntimeException", "java/lang/Exception"], vx_ot w = true := by decide +kernel
set_option maxRecDepth 100000 in
set_option maxHeartbeats 400000 in
theorem k_X6_requireStick (l : Launch) (g : xGt) (v : Int32) : xM l g.1 (xT g) yX6_requireStick (ws_ yX6_requireStick cX6_requireStick 1 none) (xRm 6 94 1 6) 1 6 [.int v] ([] : va_W) (fun r9 w9 => (r9 = none ∧ w9 = ([] : va_W)) ∧ (¬ v < 0 ∧ v < 4)) (fun E w9 => (E = xIO ∧ w9 = ([] : va_W)) ∧ ¬ (¬ v < 0 ∧ v < 4)) := by
  refine x_start (own := RX6) (nm := "requireStick") rfl rfl (by decide +kernel) rfl (nle rfl) (fun p e σ m args below meth c A C hno hr => ?_)
  refine x_lve (lv' := [(0, .int v)]) rfl ?_
  refine x_iload_n C 0 rfl rfl dX6_requireStick_0 ?_
  refine x_if_lt C 9 (by decide) dX6_requireStick_1 (fun h1 => ?_) (fun h1 => ?_)
  · exact x_throwW C hno (by decide +kernel) wCL_X6_288 wIn_IndexOutOfBoundsException (by decide +kernel) (show (290, "There is no such stick.") ∈ xSs by decide +kernel) tw1_xIO tw2_xIO tw3_xIO dX6_requireStick_9 dX6_requireStick_12 dX6_requireStick_13 dX6_requireStick_16 dX6_requireStick_19 (nlt rfl) (nle rfl) (nle rfl) (nle rfl) (nle rfl) (nle rfl) ⟨⟨rfl, rfl⟩, (fun q => q.1 h1)⟩
  · refine x_iload_n C 0 rfl rfl dX6_requireStick_4 ?_
    refine x_iconst C 4 (by decide) dX6_requireStick_5 ?_
    refine x_icmp_lt C 20 (by decide) dX6_requireStick_6 (fun h2 => ?_) (fun h2 => ?_)
    · exact x_vret C hr (nle rfl) (nle rfl) dX6_requireStick_20 ⟨⟨rfl, rfl⟩, ⟨h1, h2⟩⟩
    · exact x_throwW C hno (by decide +kernel) wCL_X6_288 wIn_IndexOutOfBoundsException (by decide +kernel) (show (290, "There is no such stick.") ∈ xSs by decide +kernel) tw1_xIO tw2_xIO tw3_xIO dX6_requireStick_9 dX6_requireStick_12 dX6_requireStick_13 dX6_requireStick_16 dX6_requireStick_19 (nlt rfl) (nle rfl) (nle rfl) (nle rfl) (nle rfl) (nle rfl) ⟨⟨rfl, rfl⟩, (fun q => h2 q.2)⟩
set_option maxRecDepth 100000 in
set_option maxHeartbeats 400000 in
theorem k_X6_requireServo (l : Launch) (g : xGt) (v : Int32) : xM l g.1 (xT g) yX6_requireServo (ws_ yX6_requireServo cX6_requireServo 1 none) (xRm 6 94 1 6) 1 6 [.int v] ([] : va_W) (fun r9 w9 => (r9 = none ∧ w9 = ([] : va_W)) ∧ (¬ v < 0 ∧ v < 6)) (fun E w9 => (E = xIO ∧ w9 = ([] : va_W)) ∧ ¬ (¬ v < 0 ∧ v < 6)) := by
  refine x_start (own := RX6) (nm := "requireServo") rfl rfl (by decide +kernel) rfl (nle rfl) (fun p e σ m args below meth c A C hno hr => ?_)
  refine x_lve (lv' := [(0, .int v)]) rfl ?_
  refine x_iload_n C 0 rfl rfl dX6_requireServo_0 ?_
  refine x_if_lt C 10 (by decide) dX6_requireServo_1 (fun h1 => ?_) (fun h1 => ?_)
  · exact x_throwW C hno (by decide +kernel) wCL_X6_288 wIn_IndexOutOfBoundsException (by decide +kernel) (show (293, "There is no such servo.") ∈ xSs by decide +kernel) tw1_xIO tw2_xIO tw3_xIO dX6_requireServo_10 dX6_requireServo_13 dX6_requireServo_14 dX6_requireServo_17 dX6_requireServo_20 (nlt rfl) (nle rfl) (nle rfl) (nle rfl) (nle rfl) (nle rfl) ⟨⟨rfl, rfl⟩, (fun q => q.1 h1)⟩
  · refine x_iload_n C 0 rfl rfl dX6_requireServo_4 ?_
    refine x_bipush C 6 (by decide) dX6_requireServo_5 ?_
    refine x_icmp_lt C 21 (by decide) dX6_requireServo_7 (fun h2 => ?_) (fun h2 => ?_)
    · exact x_vret C hr (nle rfl) (nle rfl) dX6_requireServo_21 ⟨⟨rfl, rfl⟩, ⟨h1, h2⟩⟩
    · exact x_throwW C hno (by decide +kernel) wCL_X6_288 wIn_IndexOutOfBoundsException (by decide +kernel) (show (293, "There is no such servo.") ∈ xSs by decide +kernel) tw1_xIO tw2_xIO tw3_xIO dX6_requireServo_10 dX6_requireServo_13 dX6_requireServo_14 dX6_requireServo_17 dX6_requireServo_20 (nlt rfl) (nle rfl) (nle rfl) (nle rfl) (nle rfl) (nle rfl) ⟨⟨rfl, rfl⟩, (fun q => h2 q.2)⟩
set_option maxRecDepth 100000 in
set_option maxHeartbeats 400000 in
theorem k_X6_requireRange (l : Launch) (g : xGt) (v : Int32) (lo : Int32) (hi : Int32) : xM l g.1 (xT g) yX6_requireRange (ws_ yX6_requireRange cX6_requireRange 3 none) (xRm 6 94 1 6) 1 6 [.int v, .int lo, .int hi] ([] : va_W) (fun r9 w9 => (r9 = none ∧ w9 = ([] : va_W)) ∧ (¬ v < lo ∧ v ≤ hi)) (fun E w9 => (E = xIA ∧ w9 = ([] : va_W)) ∧ ¬ (¬ v < lo ∧ v ≤ hi)) := by
  refine x_start (own := RX6) (nm := "requireRange") rfl rfl (by decide +kernel) rfl (nle rfl) (fun p e σ m args below meth c A C hno hr => ?_)
  refine x_lve (lv' := [(0, .int v), (1, .int lo), (2, .int hi)]) rfl ?_
  refine x_iload_n C 0 rfl rfl dX6_requireRange_0 ?_
  refine x_iload_n C 1 rfl rfl dX6_requireRange_1 ?_
  refine x_icmp_lt C 10 (by decide) dX6_requireRange_2 (fun h1 => ?_) (fun h1 => ?_)
  · exact x_throwW C hno (by decide +kernel) wCL_X6_80 wIn_IllegalArgumentException (by decide +kernel) (show (297, "The argument is out of range.") ∈ xSs by decide +kernel) tw1_xIA tw2_xIA tw3_xIA dX6_requireRange_10 dX6_requireRange_13 dX6_requireRange_14 dX6_requireRange_17 dX6_requireRange_20 (nlt rfl) (nle rfl) (nle rfl) (nle rfl) (nle rfl) (nle rfl) ⟨⟨rfl, rfl⟩, (fun q => q.1 h1)⟩
  · refine x_iload_n C 0 rfl rfl dX6_requireRange_5 ?_
    refine x_iload_n C 2 rfl rfl dX6_requireRange_6 ?_
    refine x_icmp_le C 21 (by decide) dX6_requireRange_7 (fun h2 => ?_) (fun h2 => ?_)
    · exact x_vret C hr (nle rfl) (nle rfl) dX6_requireRange_21 ⟨⟨rfl, rfl⟩, ⟨h1, h2⟩⟩
    · exact x_throwW C hno (by decide +kernel) wCL_X6_80 wIn_IllegalArgumentException (by decide +kernel) (show (297, "The argument is out of range.") ∈ xSs by decide +kernel) tw1_xIA tw2_xIA tw3_xIA dX6_requireRange_10 dX6_requireRange_13 dX6_requireRange_14 dX6_requireRange_17 dX6_requireRange_20 (nlt rfl) (nle rfl) (nle rfl) (nle rfl) (nle rfl) (nle rfl) ⟨⟨rfl, rfl⟩, (fun q => h2 q.2)⟩
set_option maxRecDepth 100000 in
set_option maxHeartbeats 400000 in
theorem k_X6_requireMix (l : Launch) (g : xGt) (ap ad : Nat → Nat) (r : xR) (po : Int32) (pn : Int32) (pl : Int32) (tx : Nat → Int32) (rp : Int32) (rl : Int32) (rs : Int32) (rm : Int32) (rn : Int32) (rz : Int32) (sv : xPl) (mm : xPl) (v : Int32) : xM l g.1 (xT g) yX6_requireMix (ws_ yX6_requireMix cX6_requireMix 2 none) (xRm 6 94 1 6) 1 6 [.ref (ap 0), .int v] (wCl g ap ad r po pn pl tx rp rl rs rm rn rz sv mm) (fun r9 w9 => (r9 = none ∧ w9 = (wCl g ap ad r po pn pl tx rp rl rs rm rn rz sv mm)) ∧ (¬ v < 0 ∧ v < r.xn)) (fun E w9 => (E = xIO ∧ w9 = (wCl g ap ad r po pn pl tx rp rl rs rm rn rz sv mm)) ∧ ¬ (¬ v < 0 ∧ v < r.xn)) := by
  refine x_start (own := RX6) (nm := "requireMix") rfl rfl (by decide +kernel) rfl (nle rfl) (fun p e σ m args below meth c A C hno hr => ?_)
  refine x_lve (lv' := [(0, .ref (ap 0)), (1, .int v)]) rfl ?_
  refine x_ws (ws' := (wPo g ap ad po pn pl ++ (wS0 g ad ++ (wSk g ad r.kp r.ke r.kr r.kt r.kh r.kc ++ (wMx g ad r.xn r.xs r.xv r.xh r.xo r.xc ++ (wSv g ad r.vd r.vn r.vl r.vu r.vs r.vm r.vp r.vt r.va r.vw ++ (wLk g ad r.jd r.jb r.jc r.js r.jl r.jx r.ji r.jf r.jn ++ (wDm g ad r.dq ++ (wPq g ap (adr sv) (adr mm) tx ++ (wRd g (ap 4) rp rl rs rm rn rz ++ (wPl g sv 6 ++ wPl g mm 2))))))))))) rfl ?_
  refine x_iload_n C 1 rfl rfl dX6_requireMix_0 ?_
  refine x_if_lt C 18 (by decide) dX6_requireMix_1 (fun h1 => ?_) (fun h1 => ?_)
  · exact x_throwW C hno (by decide +kernel) wCL_X6_288 wIn_IndexOutOfBoundsException (by decide +kernel) (show (295, "There is no such mix.") ∈ xSs by decide +kernel) tw1_xIO tw2_xIO tw3_xIO dX6_requireMix_18 dX6_requireMix_21 dX6_requireMix_22 dX6_requireMix_25 dX6_requireMix_28 (nlt rfl) (nle rfl) (nle rfl) (nle rfl) (nle rfl) (nle rfl) ⟨⟨rfl, rfl⟩, (fun q => q.1 h1)⟩
  · refine x_iload_n C 1 rfl rfl dX6_requireMix_4 ?_
    refine x_aload_n C 0 rfl rfl dX6_requireMix_5 ?_
    refine x_get C 0 6 0 rfl rfl wLy_X6 wFL_X6_10 rfl (by decide) rfl dX6_requireMix_6 ?_
    refine x_get C 1 4 1 rfl rfl wLy_X4 wFL_X6_90 rfl (by decide) rfl dX6_requireMix_9 ?_
    refine x_get C 7 2 0 rfl rfl wLy_X2 wFL_X6_100 rfl (by decide) rfl dX6_requireMix_12 ?_
    refine x_icmp_lt C 29 (by decide) dX6_requireMix_15 (fun h2 => ?_) (fun h2 => ?_)
    · exact x_vret C hr (nle rfl) (nle rfl) dX6_requireMix_29 ⟨⟨rfl, rfl⟩, ⟨h1, h2⟩⟩
    · exact x_throwW C hno (by decide +kernel) wCL_X6_288 wIn_IndexOutOfBoundsException (by decide +kernel) (show (295, "There is no such mix.") ∈ xSs by decide +kernel) tw1_xIO tw2_xIO tw3_xIO dX6_requireMix_18 dX6_requireMix_21 dX6_requireMix_22 dX6_requireMix_25 dX6_requireMix_28 (nlt rfl) (nle rfl) (nle rfl) (nle rfl) (nle rfl) (nle rfl) ⟨⟨rfl, rfl⟩, (fun q => h2 q.2)⟩
set_option maxRecDepth 100000 in
set_option maxHeartbeats 400000 in
theorem k_X6_requireRoomForMixes (l : Launch) (g : xGt) (ap ad : Nat → Nat) (r : xR) (po : Int32) (pn : Int32) (pl : Int32) (tx : Nat → Int32) (rp : Int32) (rl : Int32) (rs : Int32) (rm : Int32) (rn : Int32) (rz : Int32) (sv : xPl) (mm : xPl) (v : Int32) : xM l g.1 (xT g) yX6_requireRoomForMixes (ws_ yX6_requireRoomForMixes cX6_requireRoomForMixes 2 none) (xRm 6 94 1 6) 1 6 [.ref (ap 0), .int v] (wCl g ap ad r po pn pl tx rp rl rs rm rn rz sv mm) (fun r9 w9 => (r9 = none ∧ w9 = (wCl g ap ad r po pn pl tx rp rl rs rm rn rz sv mm)) ∧ (r.xn + v) ≤ 12) (fun E w9 => (E = xIS ∧ w9 = (wCl g ap ad r po pn pl tx rp rl rs rm rn rz sv mm)) ∧ ¬ (r.xn + v) ≤ 12) := by
  refine x_start (own := RX6) (nm := "requireRoomForMixes") rfl rfl (by decide +kernel) rfl (nle rfl) (fun p e σ m args below meth c A C hno hr => ?_)
  refine x_lve (lv' := [(0, .ref (ap 0)), (1, .int v)]) rfl ?_
  refine x_ws (ws' := (wPo g ap ad po pn pl ++ (wS0 g ad ++ (wSk g ad r.kp r.ke r.kr r.kt r.kh r.kc ++ (wMx g ad r.xn r.xs r.xv r.xh r.xo r.xc ++ (wSv g ad r.vd r.vn r.vl r.vu r.vs r.vm r.vp r.vt r.va r.vw ++ (wLk g ad r.jd r.jb r.jc r.js r.jl r.jx r.ji r.jf r.jn ++ (wDm g ad r.dq ++ (wPq g ap (adr sv) (adr mm) tx ++ (wRd g (ap 4) rp rl rs rm rn rz ++ (wPl g sv 6 ++ wPl g mm 2))))))))))) rfl ?_
  refine x_aload_n C 0 rfl rfl dX6_requireRoomForMixes_0 ?_
  refine x_get C 0 6 0 rfl rfl wLy_X6 wFL_X6_10 rfl (by decide) rfl dX6_requireRoomForMixes_1 ?_
  refine x_get C 1 4 1 rfl rfl wLy_X4 wFL_X6_90 rfl (by decide) rfl dX6_requireRoomForMixes_4 ?_
  refine x_get C 7 2 0 rfl rfl wLy_X2 wFL_X6_100 rfl (by decide) rfl dX6_requireRoomForMixes_7 ?_
  refine x_iload_n C 1 rfl rfl dX6_requireRoomForMixes_10 ?_
  refine x_iadd C dX6_requireRoomForMixes_11 ?_
  refine x_bipush C 12 (by decide) dX6_requireRoomForMixes_12 ?_
  refine x_icmp_le C 28 (by decide) dX6_requireRoomForMixes_14 (fun h1 => ?_) (fun h1 => ?_)
  · exact x_vret C hr (nle rfl) (nle rfl) dX6_requireRoomForMixes_28 ⟨⟨rfl, rfl⟩, h1⟩
  · exact x_throwW C hno (by decide +kernel) wCL_X6_235 wIn_IllegalStateException (by decide +kernel) (show (299, "There are too many mixes.") ∈ xSs by decide +kernel) tw1_xIS tw2_xIS tw3_xIS dX6_requireRoomForMixes_17 dX6_requireRoomForMixes_20 dX6_requireRoomForMixes_21 dX6_requireRoomForMixes_24 dX6_requireRoomForMixes_27 (nlt rfl) (nle rfl) (nle rfl) (nle rfl) (nle rfl) (nle rfl) ⟨⟨rfl, rfl⟩, (fun q => h1 q)⟩
