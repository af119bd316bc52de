/-! what the law's object keeps -/
/-- nothing beyond the ends of the rows -/
def gN (r : xR) : Prop := (nz 4 r.kp ∧ nz 4 r.ke ∧ nz 8 r.kr ∧ nz 8 r.kt) ∧ (nz 12 r.xs ∧ nz 12 r.xv ∧ nz 12 r.xh ∧ nz 12 r.xo ∧ nz 12 r.xc) ∧ (nz 6 r.vd ∧ nz 6 r.vn ∧ nz 6 r.vl ∧ nz 6 r.vu ∧ nz 6 r.vs) ∧ (nz 6 r.vm ∧ nz 6 r.vp ∧ nz 6 r.vt ∧ nz 6 r.va ∧ nz 6 r.vw)
def bt (lo hi : Int) (x : Int32) : Prop := lo ≤ x.toInt ∧ x.toInt ≤ hi
def gS (r : xR) : Prop := (∀ k, k < 4 → bt (-100) 100 (r.kp k)) ∧ (∀ k, k < 4 → bt 0 100 (r.ke k)) ∧ (∀ k, k < 8 → bt 0 125 (r.kr k)) ∧ (∀ k, k < 8 → bt (-25) 25 (r.kt k))
def gM (r : xR) : Prop := ∀ j, j < r.xn.toNatClampNeg → (r.xv j = nI (r.xv j).toNatClampNeg ∧ (r.xv j).toNatClampNeg < 6) ∧ (r.xs j).toNatClampNeg < 4 + (r.xv j).toNatClampNeg
def gV (r : xR) : Prop := ∀ k, k < 6 → (r.vd k = 1 ∨ r.vd k = -1) ∧ bt (-50) 50 (r.vn k) ∧ bt (-150) 0 (r.vl k) ∧ bt 0 150 (r.vu k) ∧ bt 1 300 (r.vs k) ∧ 0 ≤ (r.vm k).toInt
def gW (vt va vw : Nat → Int32) : Prop := ∀ k, k < 6 → bt (-150) 150 (vt k) ∧ bt (-150) 150 (va k) ∧ 0 ≤ (vw k).toInt
/-- the sum of the first n of a row -/
def wS (f : Nat → Int32) : Nat → Int
  | 0 => 0
  | n + 1 => wS f n + (f n).toInt
def gL (B : Int) (vw : Nat → Int32) (jd jb jc js jl jx ji : Int32) : Prop := 1 ≤ jd.toInt ∧ bt 0 20000 jb ∧ (0 ≤ jc.toInt ∧ jc.toInt ≤ 20000 * B) ∧ 0 ≤ jx.toInt ∧ jx.toInt ≤ jl.toInt ∧ jl.toInt ≤ js.toInt ∧ js.toInt ≤ 200 * B ∧ 0 ≤ ji.toInt ∧ ji.toInt ≤ jl.toInt ∧ jb.toInt + wS vw 6 + js.toInt - jx.toInt = 20000 + jc.toInt
def gK (B : Int) (r : xR) : Prop := gL B r.vw r.jd r.jb r.jc r.js r.jl r.jx r.ji
def Gd (B : Int) (r : xR) : Prop := (rB r ∧ gN r) ∧ gS r ∧ gM r ∧ gV r ∧ gW r.vt r.va r.vw ∧ gK B r
theorem Gd.dq {B : Int} {r : xR} (h : Gd B r) (d : Nat → Int32) : Gd B (r.set_dq d) := h
theorem gL.up {B B' : Int} {vw : Nat → Int32} {jd jb jc js jl jx ji : Int32} (h : gL B vw jd jb jc js jl jx ji) (hB : B ≤ B') : gL B' vw jd jb jc js jl jx ji := by
  obtain ⟨h1, h2, h3, h4, h5, h6, h7, h8, h9, h10⟩ := h
  exact ⟨h1, h2, ⟨h3.1, by omega⟩, h4, h5, h6, by omega, h8, h9, h10⟩
theorem Gd.up {B B' : Int} {r : xR} (h : Gd B r) (hB : B ≤ B') : Gd B' r := ⟨h.1, h.2.1, h.2.2.1, h.2.2.2.1, h.2.2.2.2.1, h.2.2.2.2.2.up hB⟩
theorem nz_0 (n : Nat) : nz n (fun _ => (0 : Int32)) := fun _ _ => rfl
theorem Gd.zero : Gd 0 r00 := by
  have z := nz_0
  refine ⟨⟨⟨?_, Or.inl rfl, Or.inl rfl⟩, ⟨z 4, z 4, nz_fil _ _ 8 (z 8) 8 (Nat.le_refl _), z 8⟩, ⟨?_, ?_, ?_, ?_, ?_⟩, ⟨nz_fil _ _ 6 (z 6) 6 (Nat.le_refl _), z 6, nz_fil _ _ 6 (z 6) 6 (Nat.le_refl _), nz_fil _ _ 6 (z 6) 6 (Nat.le_refl _), nz_fil _ _ 6 (z 6) 6 (Nat.le_refl _)⟩, ⟨z 6, z 6, z 6, z 6, z 6⟩⟩, ?_, ?_, ?_, ?_, ?_⟩
  · unfold cOk
    decide +kernel
  · exact nz_up (nz_up (nz_up (nz_up (z 12) (by decide)) (by decide)) (by decide)) (by decide)
  · exact nz_up (nz_up (nz_up (nz_up (z 12) (by decide)) (by decide)) (by decide)) (by decide)
  · exact nz_up (nz_up (nz_up (nz_up (z 12) (by decide)) (by decide)) (by decide)) (by decide)
  · exact nz_up (nz_up (nz_up (nz_up (z 12) (by decide)) (by decide)) (by decide)) (by decide)
  · exact nz_up (nz_up (nz_up (nz_up (z 12) (by decide)) (by decide)) (by decide)) (by decide)
  · unfold gS bt
    decide +kernel
  · unfold gM
    decide +kernel
  · unfold gV bt
    decide +kernel
  · unfold gW bt
    decide +kernel
  · unfold gK gL bt
    decide +kernel
/-! the copies -/
theorem cpR_eq {r o : xR} (hr : gN r) (ho : gN o) : cpR r o = r.set_dq o.dq := by
  obtain ⟨⟨a1, a2, a3, a4⟩, ⟨a5, a6, a7, a8, a9⟩, ⟨b1, b2, b3, b4, b5⟩, ⟨b6, b7, b8, b9, b10⟩⟩ := hr
  obtain ⟨⟨c1, c2, c3, c4⟩, ⟨c5, c6, c7, c8, c9⟩, ⟨d1, d2, d3, d4, d5⟩, ⟨d6, d7, d8, d9, d10⟩⟩ := ho
  unfold cpR
  rw [cpr_eq a1 c1, cpr_eq a2 c2, cpr_eq a3 c3, cpr_eq a4 c4, cpr_eq a5 c5, cpr_eq a6 c6, cpr_eq a7 c7, cpr_eq a8 c8, cpr_eq a9 c9, cpr_eq b1 d1, cpr_eq b2 d2, cpr_eq b3 d3, cpr_eq b4 d4, cpr_eq b5 d5, cpr_eq b6 d6, cpr_eq b7 d7, cpr_eq b8 d8, cpr_eq b9 d9, cpr_eq b10 d10]
  rfl
/-! the demands do not hang on the work row -/
def dmr (c : xR) (d : Nat → Int32) (i : Nat) : Nat → Int32 := sp_cdm c.kp c.ke c.kr c.kt c.kh c.kc c.xn c.xs c.xv c.xh c.xo c.xc d i
def dmd (c : xR) : Nat → Int32 := dmr c (fun _ => 0) 6
def cmd (c : xR) (k : Nat) : Int32 := sp_X5_commandOf c.kp c.ke c.kr c.kt c.kh c.kc k
def vlr (c : xR) (d : Nat → Int32) (j : Nat) : Int32 := sp_X4_valueOf c.kp c.ke c.kr c.kt c.kh c.kc c.xs c.xh c.xo c.xc d j
def vlu (c : xR) (j : Nat) : Int32 := vlr c (dmd c) j
def smr (c : xR) (i : Nat) (d : Nat → Int32) (n : Nat) : Int32 := sp_csm c.kp c.ke c.kr c.kt c.kh c.kc c.xs c.xv c.xh c.xo c.xc i d 0 n
def c300 (x : Int32) : Int32 := if 300 < (if x < (-300) then (-300) else x) then 300 else (if x < (-300) then (-300) else x)
def xN (c : xR) : Nat := c.xn.toNatClampNeg
theorem dmr_s (c : xR) (d : Nat → Int32) (i : Nat) : dmr c d (i + 1) = upd (dmr c d i) i (c300 (smr c i (dmr c d i) (xN c))) := rfl
theorem smr_s (c : xR) (i : Nat) (d : Nat → Int32) (n : Nat) : smr c i d (n + 1) = if c.xv n = nI i then smr c i d n + vlr c d n else smr c i d n := rfl
theorem vlr_eq {c : xR} {d d' : Nat → Int32} {j i : Nat} (hm : gM c) (hb : rB c) (hj : j < xN c) (hv : (c.xv j).toNatClampNeg ≤ i) (h : ∀ k, k < i → d k = d' k) : vlr c d j = vlr c d' j := by
  unfold vlr sp_X4_valueOf
  have h4 : 4 ≤ c.xs j → d ((Int32.toNatClampNeg (c.xs j)) - 4) = d' ((Int32.toNatClampNeg (c.xs j)) - 4) := fun q => by
    have e := (hb.1.2.2.2 j hj).1
    have g := xle_of (k := 4) (c := 4) rfl e (by decide) (Int32.toNatClampNeg_lt _) q
    have g2 := (hm j hj).2
    exact h _ (by omega)
  split
  · rfl
  · by_cases q : 4 ≤ c.xs j
    · rw [if_pos q, if_pos q, h4 q]
    · rw [if_neg q, if_neg q]
theorem smr_eq {c : xR} {d d' : Nat → Int32} {i : Nat} (hi : i < 6) (hm : gM c) (hb : rB c) (h : ∀ k, k < i → d k = d' k) : ∀ n, n ≤ xN c → smr c i d n = smr c i d' n
  | 0, _ => rfl
  | n + 1, hn => by
    rw [smr_s, smr_s, smr_eq hi hm hb h n (by omega)]
    by_cases q : c.xv n = nI i
    · rw [if_pos q, if_pos q, vlr_eq (i := i) hm hb (by omega) (by rw [q, nI_clamp (by omega)]; exact Nat.le_refl _) h]
    · rw [if_neg q, if_neg q]
theorem dmr_st (c : xR) (d : Nat → Int32) (k : Nat) : ∀ i, k < i → dmr c d i k = dmr c d (k + 1) k
  | 0, h => absurd h (Nat.not_lt_zero _)
  | i + 1, h => by
    by_cases q : k = i
    · rw [q]
    · rw [dmr_s, up_at, if_neg q]
      exact dmr_st c d k i (by omega)
theorem dmr_eq {c : xR} (d d' : Nat → Int32) (hm : gM c) (hb : rB c) : ∀ i, i ≤ 6 → ∀ k, k < i → dmr c d i k = dmr c d' i k
  | 0, _, k, h => absurd h (Nat.not_lt_zero _)
  | i + 1, hi, k, h => by
    have ih := dmr_eq d d' hm hb i (by omega)
    rw [dmr_s, dmr_s, up_at, up_at, smr_eq (by omega) hm hb ih _ (Nat.le_refl _)]
    by_cases q : k = i
    · rw [if_pos q, if_pos q]
    · rw [if_neg q, if_neg q]
      exact ih k (by omega)
theorem dm_eq {c : xR} (d : Nat → Int32) (hm : gM c) (hb : rB c) (k : Nat) (hk : k < 6) : dmr c d 6 k = dmd c k := dmr_eq d _ hm hb 6 (Nat.le_refl _) k hk
/-- a demand is the sum of the values of its mixes, cut at 300 -/
theorem dmd_sum {c : xR} (hm : gM c) (hb : rB c) {k : Nat} (hk : k < 6) : dmd c k = c300 (smr c k (dmd c) (xN c)) := by
  unfold dmd
  rw [dmr_st c _ k 6 hk, dmr_s, up_at, if_pos rfl]
  rw [smr_eq hk hm hb (d' := dmr c (fun _ => 0) 6) (fun j hj => ?_) _ (Nat.le_refl _)]
  rw [dmr_st c _ j k hj, dmr_st c _ j 6 (by omega)]
theorem vl_eq {c : xR} (d : Nat → Int32) (hm : gM c) (hb : rB c) {j : Nat} (hj : j < xN c) : vlr c (dmr c d 6) j = vlu c j := vlr_eq (i := 6) hm hb hj (Nat.le_of_lt (hm j hj).1.2) (fun k hk => dm_eq d hm hb k hk)
theorem c300_b (x : Int32) : bt (-300) 300 (c300 x) := cl_ti (lo := -300) (hi := 300) (v := x) (by decide)
theorem dmd_b {c : xR} (hm : gM c) (hb : rB c) {k : Nat} (hk : k < 6) : bt (-300) 300 (dmd c k) := by
  rw [dmd_sum hm hb hk]; exact c300_b _
def rawA (c : xR) (k : Nat) : Int32 := c.vn k + c.vd k * dmd c k
def aimA (c : xR) (k : Nat) : Int32 := sp_X3_limited c.vl c.vu k (rawA c k)
/-- the digest, without the work row -/
def digR (c : xR) (d : Nat → Int32) : Int64 := ((31 * ((31 * ((31 * ((31 * ((31 * ((31 * ((31 * (sp_hsv c.vd c.vn c.vl c.vu c.vt c.va c.vw d (sp_hmx c.kp c.ke c.kr c.kt c.kh c.kc c.xs c.xv c.xh c.xo c.xc d ((31 * (sp_X4_hashSticks c.kp c.ke c.kr c.kt c.kh c.kc 4366)) + (Int32.toInt64 c.xn)) (xN c)) 6)) + (Int32.toInt64 c.jb))) + (Int32.toInt64 c.jc))) + (Int32.toInt64 c.js))) + (Int32.toInt64 c.jl))) + (Int32.toInt64 c.jx))) + (Int32.toInt64 c.ji))) + (Int32.toInt64 c.jn))
def dig (c : xR) : Int64 := digR c (dmd c)
theorem hsv_eq (vd vn vl vu vt va vw : Nat → Int32) {d d' : Nat → Int32} (a0 : Int64) (h : ∀ k, k < 6 → d k = d' k) : ∀ n, n ≤ 6 → sp_hsv vd vn vl vu vt va vw d a0 n = sp_hsv vd vn vl vu vt va vw d' a0 n
  | 0, _ => rfl
  | n + 1, hn => by
    simp only [sp_hsv]
    rw [hsv_eq vd vn vl vu vt va vw a0 h n (by omega), h n (by omega)]
theorem hmx_eq {c : xR} {d d' : Nat → Int32} (a0 : Int64) (h : ∀ j, j < xN c → vlr c d j = vlr c d' j) : ∀ n, n ≤ xN c → sp_hmx c.kp c.ke c.kr c.kt c.kh c.kc c.xs c.xv c.xh c.xo c.xc d a0 n = sp_hmx c.kp c.ke c.kr c.kt c.kh c.kc c.xs c.xv c.xh c.xo c.xc d' a0 n
  | 0, _ => rfl
  | n + 1, hn => by
    have h1 := h n (by omega)
    unfold vlr at h1
    simp only [sp_hmx]
    rw [hmx_eq a0 h n (by omega), h1]
theorem dig_eq {c : xR} (d : Nat → Int32) (hm : gM c) (hb : rB c) : digR c (dmr c d 6) = dig c := by
  unfold dig digR
  rw [hmx_eq _ (fun j hj => vl_eq d hm hb hj) _ (Nat.le_refl _), hsv_eq _ _ _ _ _ _ _ _ (fun k hk => dm_eq d hm hb k hk) 6 (Nat.le_refl _)]
theorem digest_eq {c : xR} (d : Nat → Int32) (hm : gM c) (hb : rB c) : sp_X6_digest (c.set_dq d) = dig c := dig_eq d hm hb
