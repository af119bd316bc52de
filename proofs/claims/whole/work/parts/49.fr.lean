theorem xi_sub {a b : Int32} (h1 : -2147483648 ≤ a.toInt - b.toInt) (h2 : a.toInt - b.toInt < 2147483648) : (a - b).toInt = a.toInt - b.toInt := by
  rw [Int32.toInt_sub]
  exact Int.bmod_eq_of_le_mul_two (by omega) (by omega)
theorem xi_add {a b : Int32} (h1 : -2147483648 ≤ a.toInt + b.toInt) (h2 : a.toInt + b.toInt < 2147483648) : (a + b).toInt = a.toInt + b.toInt := by
  rw [Int32.toInt_add]
  exact Int.bmod_eq_of_le_mul_two (by omega) (by omega)
theorem xi_neg {a : Int32} (h1 : -2147483648 < a.toInt) (h2 : a.toInt < 2147483648) : (-a).toInt = -a.toInt := by
  rw [Int32.toInt_neg]
  exact Int.bmod_eq_of_le_mul_two (by omega) (by omega)
def adA (d mu s : Int32) : Int32 := (if mu < (if s < (if 0 ≤ d then d else 0 - d) then s else (if 0 ≤ d then d else 0 - d)) then mu else (if s < (if 0 ≤ d then d else 0 - d) then s else (if 0 ≤ d then d else 0 - d)))
theorem adA_nn {e mu s : Int32} (he : 0 ≤ e.toInt) (hm : 0 ≤ mu.toInt) (hs : 0 ≤ s.toInt) : ((if mu < (if s < e then s else e) then mu else (if s < e then s else e)) = (if e ≤ (if mu ≤ s then mu else s) then e else (if mu ≤ s then mu else s))) ∧ 0 ≤ (if e ≤ (if mu ≤ s then mu else s) then e else (if mu ≤ s then mu else s)).toInt ∧ (if e ≤ (if mu ≤ s then mu else s) then e else (if mu ≤ s then mu else s)).toInt ≤ mu.toInt ∧ (if e ≤ (if mu ≤ s then mu else s) then e else (if mu ≤ s then mu else s)).toInt ≤ e.toInt ∧ 0 ≤ (if mu ≤ s then mu else s).toInt := by
  simp only [Int32.lt_iff_toInt_lt, Int32.le_iff_toInt_le]
  by_cases c1 : mu.toInt ≤ s.toInt
  · rw [if_pos c1]
    by_cases c2 : e.toInt ≤ mu.toInt
    · rw [if_pos c2, if_neg (show ¬ s.toInt < e.toInt by omega), if_neg (show ¬ mu.toInt < e.toInt by omega)]
      exact ⟨rfl, he, c2, Int.le_refl _, hm⟩
    · rw [if_neg c2]
      by_cases c3 : s.toInt < e.toInt
      · rw [if_pos c3]
        refine ⟨?_, hm, Int.le_refl _, by omega, hm⟩
        by_cases c4 : mu.toInt < s.toInt
        · rw [if_pos c4]
        · rw [if_neg c4]
          exact Int32.toInt_inj.mp (by omega)
      · rw [if_neg c3, if_pos (show mu.toInt < e.toInt by omega)]
        exact ⟨rfl, hm, Int.le_refl _, by omega, hm⟩
  · rw [if_neg c1]
    by_cases c2 : e.toInt ≤ s.toInt
    · rw [if_pos c2, if_neg (show ¬ s.toInt < e.toInt by omega), if_neg (show ¬ mu.toInt < e.toInt by omega)]
      exact ⟨rfl, he, by omega, Int.le_refl _, hs⟩
    · rw [if_neg c2, if_pos (show s.toInt < e.toInt by omega), if_neg (show ¬ mu.toInt < s.toInt by omega)]
      exact ⟨rfl, hs, by omega, by omega, hs⟩
theorem adv_eq {d mu s : Int32} (hd1 : -300 ≤ d.toInt) (hd2 : d.toInt ≤ 300) (hm : 0 ≤ mu.toInt) (hs : 1 ≤ s.toInt) : (if 0 ≤ d then adA d mu s else -(adA d mu s)) = sp_X7_within d (-(if mu ≤ s then mu else s)) (if mu ≤ s then mu else s) ∧ adA d mu s = sp_X7_size (sp_X7_within d (-(if mu ≤ s then mu else s)) (if mu ≤ s then mu else s)) ∧ 0 ≤ (adA d mu s).toInt ∧ (adA d mu s).toInt ≤ mu.toInt ∧ ((0 ≤ d.toInt ∧ 0 ≤ (sp_X7_within d (-(if mu ≤ s then mu else s)) (if mu ≤ s then mu else s)).toInt ∧ (sp_X7_within d (-(if mu ≤ s then mu else s)) (if mu ≤ s then mu else s)).toInt ≤ d.toInt) ∨ (d.toInt < 0 ∧ d.toInt ≤ (sp_X7_within d (-(if mu ≤ s then mu else s)) (if mu ≤ s then mu else s)).toInt ∧ (sp_X7_within d (-(if mu ≤ s then mu else s)) (if mu ≤ s then mu else s)).toInt ≤ 0)) := by
  have i0 : (0 : Int32).toInt = 0 := by decide
  have lim : mu.toInt < 2147483648 := Int32.toInt_lt mu
  have lis : s.toInt < 2147483648 := Int32.toInt_lt s
  unfold adA sp_X7_within sp_X7_size
  by_cases c : (0 : Int32) ≤ d
  · have c' : 0 ≤ d.toInt := by rw [Int32.le_iff_toInt_le, i0] at c; exact c
    rw [if_pos c, if_pos c]
    obtain ⟨a1, a2, a3, a4, a5⟩ := adA_nn c' hm (show 0 ≤ s.toInt by omega)
    rw [a1]
    generalize (if mu ≤ s then mu else s) = m at a1 a2 a3 a4 a5 ⊢
    have hn : (-m).toInt = -m.toInt := xi_neg (by omega) (by have := Int32.toInt_lt m; omega)
    rw [if_pos (show -m ≤ d by rw [Int32.le_iff_toInt_le]; omega)]
    generalize (if d ≤ m then d else m) = x at a1 a2 a3 a4 ⊢
    rw [if_pos (show (0 : Int32) ≤ x by rw [Int32.le_iff_toInt_le]; omega)]
    exact ⟨rfl, rfl, a2, a3, Or.inl ⟨c', a2, a4⟩⟩
  · have c' : d.toInt < 0 := by rw [Int32.le_iff_toInt_le, i0] at c; omega
    rw [if_neg c, if_neg c]
    have hz : (0 - d).toInt = -d.toInt := by rw [Int32.zero_sub]; exact xi_neg (by omega) (by omega)
    obtain ⟨a1, a2, a3, a4, a5⟩ := adA_nn (e := 0 - d) (by omega) hm (show 0 ≤ s.toInt by omega)
    rw [a1]
    generalize (if mu ≤ s then mu else s) = m at a1 a2 a3 a4 a5 ⊢
    have hn : (-m).toInt = -m.toInt := xi_neg (by omega) (by have := Int32.toInt_lt m; omega)
    have hdm : (if d ≤ m then d else m) = d := if_pos (by rw [Int32.le_iff_toInt_le]; omega)
    rw [hdm]
    have hx : (if 0 - d ≤ m then 0 - d else m) = -(if -m ≤ d then d else -m) := by
      by_cases c2 : -m ≤ d
      · rw [if_pos c2, if_pos (by rw [Int32.le_iff_toInt_le] at c2 ⊢; omega), Int32.zero_sub]
      · rw [if_neg c2, if_neg (by rw [Int32.le_iff_toInt_le] at c2 ⊢; omega), Int32.neg_neg]
    rw [hx] at a2 a3 a4 ⊢
    rw [Int32.neg_neg]
    have ht : (if -m ≤ d then d else -m).toInt ≤ 0 ∧ d.toInt ≤ (if -m ≤ d then d else -m).toInt := by
      by_cases c2 : -m ≤ d
      · rw [if_pos c2]; omega
      · rw [if_neg c2]
        rw [Int32.le_iff_toInt_le] at c2
        omega
    generalize (if -m ≤ d then d else -m) = x at a2 a3 a4 ht ⊢
    have hxn : (-x).toInt = -x.toInt := xi_neg (by omega) (by omega)
    refine ⟨rfl, ?_, a2, a3, Or.inr ⟨c', ht.2, ht.1⟩⟩
    by_cases c3 : (0 : Int32) ≤ x
    · rw [if_pos c3]
      rw [Int32.le_iff_toInt_le, i0] at c3
      exact Int32.toInt_inj.mp (by omega)
    · rw [if_neg c3]
theorem wth_in {v lo hi : Int32} (h : lo ≤ hi) : lo ≤ sp_X7_within v lo hi ∧ sp_X7_within v lo hi ≤ hi := by
  unfold sp_X7_within
  by_cases c : lo ≤ v
  · rw [if_pos c]
    by_cases d : v ≤ hi
    · rw [if_pos d]; exact ⟨c, d⟩
    · rw [if_neg d]; exact ⟨h, Int32.le_refl _⟩
  · rw [if_neg c]; exact ⟨Int32.le_refl _, h⟩
theorem tga_at (vd vn vl vu dq a : Nat → Int32) : ∀ n k, k < n → sp_tga vd vn vl vu dq a n k = sp_X3_limited vl vu k (vn k + vd k * dq k)
  | 0, k, h => absurd h (Nat.not_lt_zero _)
  | n + 1, k, h => by
    simp only [sp_tga]
    by_cases c : k = n
    · rw [ue c, c]
    · rw [un c, tga_at vd vn vl vu dq a n k (by omega)]
theorem tpr_at (vl vu vm vp a : Nat → Int32) : ∀ n k, k < n → sp_tpr vl vu vm vp a n k = if vm k = 1 then sp_X3_limited vl vu k (vp k) else a k
  | 0, k, h => absurd h (Nat.not_lt_zero _)
  | n + 1, k, h => by
    have hge : ∀ n k, n ≤ k → sp_tpr vl vu vm vp a n k = a k := fun n => by
      induction n with
      | zero => exact fun _ _ => rfl
      | succ n ih =>
        intro k hk
        simp only [sp_tpr]
        by_cases d : vm n = 1
        · rw [if_pos d, un (by omega), ih k (by omega)]
        · rw [if_neg d, ih k (by omega)]
    simp only [sp_tpr]
    by_cases c : k = n
    · by_cases d : vm n = 1
      · rw [if_pos d, ue c, c, if_pos d]
      · rw [if_neg d, c, if_neg d, hge n n (Nat.le_refl _)]
    · by_cases d : vm n = 1
      · rw [if_pos d, un c, tpr_at vl vu vm vp a n k (by omega)]
      · rw [if_neg d, tpr_at vl vu vm vp a n k (by omega)]
/-- the row of targets after a frame -/
theorem tr2_at (vd vn vl vu vm vp vt : Nat → Int32) (jd jb ji : Int32) (dq : Nat → Int32) (z : Int32) {k : Nat} (hk : k < 6) : sp_tr2 vd vn vl vu vm vp vt jd jb ji dq z k = (if (if (sp_X1_updateFailsafe_jf jd (sp_X1_countFrame_ji ji (sp_trc jb z))) = 0 then (0 : Int32) else (if vm k = 1 then (1 : Int32) else 0)) = 0 then (if sp_trc jb z = 0 then vt k else sp_X3_limited vl vu k (vn k + vd k * dq k)) else sp_X3_limited vl vu k (vp k)) := by
  have h1 : sp_tr1 vd vn vl vu vt jb dq z k = (if sp_trc jb z = 0 then vt k else sp_X3_limited vl vu k (vn k + vd k * dq k)) := by
    unfold sp_tr1
    by_cases c : sp_trc jb z = 0
    · rw [if_pos c, if_pos c]
    · rw [if_neg c, if_neg c, tga_at _ _ _ _ _ _ 6 k hk]
  unfold sp_tr2
  by_cases c : (sp_X1_updateFailsafe_jf jd (sp_X1_countFrame_ji ji (sp_trc jb z))) = 0
  · rw [if_pos c, if_pos c, if_pos rfl, h1]
  · rw [if_neg c, if_neg c, tpr_at _ _ _ _ _ 6 k hk, h1]
    by_cases d : vm k = 1
    · rw [if_pos d, if_pos d, if_neg (by decide)]
    · rw [if_neg d, if_neg d, if_pos rfl]
section RSset
variable {r : xR} {w : Nat → Int32}
theorem RS.s_js (h : RS r w 0) (v : Int32) : RS (r.set_js v) (upd w 150 v) 0 := ⟨h.1.set_js h.2.1.2.1 rfl, h.2.free (by omega)⟩
theorem RS.s_jx (h : RS r w 0) (v : Int32) : RS (r.set_jx v) (upd w 152 v) 0 := ⟨h.1.set_jx h.2.1.2.1 rfl, h.2.free (by omega)⟩
theorem RS.s_jl (h : RS r w 0) (v : Int32) : RS (r.set_jl v) (upd w 151 v) 0 := ⟨h.1.set_jl h.2.1.2.1 rfl, h.2.free (by omega)⟩
theorem RS.s_ji (h : RS r w 0) (v : Int32) : RS (r.set_ji v) (upd w 153 v) 0 := ⟨h.1.set_ji h.2.1.2.1 rfl, h.2.free (by omega)⟩
theorem RS.s_jn (h : RS r w 0) (v : Int32) : RS (r.set_jn v) (upd w 154 v) 0 := ⟨h.1.set_jn h.2.1.2.1 rfl, h.2.free (by omega)⟩
theorem RS.s_jf (h : RS r w 0) (v : Int32) (hv : v = 0 ∨ v = 1) : RS (r.set_jf v) (upd w 155 v) 0 := ⟨h.1.set_jf h.2.1.2.1 rfl, h.2.set (by omega) (by omega) (by omega) (fun _ => hv) (by omega) (fun k hk => by omega)⟩
theorem RS.s_jb (h : RS r w 0) (v : Int32) (hv : 0 ≤ v) : RS (r.set_jb v) (upd w 148 v) 0 := ⟨h.1.set_jb h.2.1.2.1 rfl, h.2.set (by omega) (by omega) (by omega) (by omega) (fun _ => hv) (fun k hk => by omega)⟩
theorem RS.s_vt (h : RS r w 0) {k : Nat} (hk : k < 6) (v : Int32) (hv : -150 ≤ v ∧ v ≤ 150) : RS (r.set_vt (upd r.vt k v)) (upd w (0 + 87 + 10 * k + 7) v) 0 := ⟨h.1.set_vt h.2.1.2.1 hk (by omega), h.2.set (by omega) (by omega) (by omega) (by omega) (by omega) (fun j hj => ⟨by omega, by omega, by omega, by omega, fun _ => hv, by omega⟩)⟩
theorem RS.s_va (h : RS r w 0) {k : Nat} (hk : k < 6) (v : Int32) (hv : -150 ≤ v ∧ v ≤ 150) : RS (r.set_va (upd r.va k v)) (upd w (0 + 87 + 10 * k + 8) v) 0 := ⟨h.1.set_va h.2.1.2.1 hk (by omega), h.2.set (by omega) (by omega) (by omega) (by omega) (by omega) (fun j hj => ⟨by omega, by omega, by omega, by omega, by omega, fun _ => hv⟩)⟩
theorem RS.s_vw (h : RS r w 0) {k : Nat} (hk : k < 6) (v : Int32) : RS (r.set_vw (upd r.vw k v)) (upd w (0 + 87 + 10 * k + 9) v) 0 := ⟨h.1.set_vw h.2.1.2.1 hk (by omega), h.2.free (Or.inr (Or.inr (Or.inr ⟨k, hk, by omega⟩)))⟩
theorem RS.vt_c (h : RS r w 0) {W : Nat → Int32} (hW : ∀ k, k < 6 → W k = r.vt k) : RS (r.set_vt W) w 0 := by
  obtain ⟨⟨h1, h2, h3, h4, h5, h8, h9, g⟩, hv⟩ := h
  refine ⟨⟨h1, h2, h3, h4, h5, h8, fun k hk => ?_, g⟩, hv⟩
  obtain ⟨a0, a1, a2, a3, a4, a5, a6, a7, a8, a9⟩ := h9 k hk
  exact ⟨a0, a1, a2, a3, a4, a5, a6, (hW k hk).trans a7, a8, a9⟩
end RSset
