theorem un {f : Nat → Int32} {p q : Nat} {v : Int32} (h : q ≠ p) : upd f p v q = f q := if_neg h
theorem ue {f : Nat → Int32} {p q : Nat} {v : Int32} (h : q = p) : upd f p v q = v := if_pos h
/-- a state's rows stand in another block of another row -/
theorem SR.mv {r : xR} {u u' : Nat → Int32} {b b' : Nat} (h : SR r u b) (h12 : rN u b ≤ 12) (hf : ∀ k, k < 156 → u' (b' + k) = u (b + k)) : SR r u' b' := by
  have f : ∀ {q q' : Nat} (k : Nat), k < 156 → q = b + k → q' = b' + k → u q = u' q' := fun k hk e e' => by rw [e', e, hf k hk]
  obtain ⟨h1, h2, h3, h4, ⟨h5, h6, h7⟩, h8, h9, ⟨g1, g2, g3, g4, g5, g6, g7, g8, g9⟩⟩ := h
  have hn : rN u' b' = rN u b := by unfold rN; rw [f (q := b + 26) (q' := b' + 26) 26 (by omega) rfl rfl]
  refine ⟨fun k hk => (h1 k hk).trans (f (0 + k) (by omega) (by omega) (by omega)), fun k hk => (h2 k hk).trans (f (4 + k) (by omega) (by omega) (by omega)), fun k hk => (h3 k hk).trans (f (8 + k) (by omega) (by omega) (by omega)), fun k hk => (h4 k hk).trans (f (16 + k) (by omega) (by omega) (by omega)), ⟨h5.trans (f 24 (by omega) rfl rfl), h6.trans (f 25 (by omega) rfl rfl), h7.trans (f 26 (by omega) rfl rfl)⟩, fun j hj => ?_, fun k hk => ?_, ⟨g1.trans (f 147 (by omega) rfl rfl), g2.trans (f 148 (by omega) rfl rfl), g3.trans (f 149 (by omega) rfl rfl), g4.trans (f 150 (by omega) rfl rfl), g5.trans (f 151 (by omega) rfl rfl), g6.trans (f 152 (by omega) rfl rfl), g7.trans (f 153 (by omega) rfl rfl), g8.trans (f 154 (by omega) rfl rfl), g9.trans (f 155 (by omega) rfl rfl)⟩⟩
  · rw [hn] at hj
    obtain ⟨a0, a1, a2, a3, a4⟩ := h8 j hj
    exact ⟨a0.trans (f (27 + 5 * j + 0) (by omega) (by omega) (by omega)), a1.trans (f (27 + 5 * j + 1) (by omega) (by omega) (by omega)), a2.trans (f (27 + 5 * j + 2) (by omega) (by omega) (by omega)), a3.trans (f (27 + 5 * j + 3) (by omega) (by omega) (by omega)), a4.trans (f (27 + 5 * j + 4) (by omega) (by omega) (by omega))⟩
  · obtain ⟨a0, a1, a2, a3, a4, a5, a6, a7, a8, a9⟩ := h9 k hk
    have e0 := f (q := b + 87 + 10 * k + 0) (q' := b' + 87 + 10 * k + 0) (87 + 10 * k + 0) (by omega) (by omega) (by omega)
    exact ⟨by rw [← e0]; exact a0, a1.trans (f (87 + 10 * k + 1) (by omega) (by omega) (by omega)), a2.trans (f (87 + 10 * k + 2) (by omega) (by omega) (by omega)), a3.trans (f (87 + 10 * k + 3) (by omega) (by omega) (by omega)), a4.trans (f (87 + 10 * k + 4) (by omega) (by omega) (by omega)), a5.trans (f (87 + 10 * k + 5) (by omega) (by omega) (by omega)), a6.trans (f (87 + 10 * k + 6) (by omega) (by omega) (by omega)), a7.trans (f (87 + 10 * k + 7) (by omega) (by omega) (by omega)), a8.trans (f (87 + 10 * k + 8) (by omega) (by omega) (by omega)), a9.trans (f (87 + 10 * k + 9) (by omega) (by omega) (by omega))⟩
theorem VB.mv {u u' : Nat → Int32} {b b' : Nat} (h : VB u b) (hf : ∀ k, k < 156 → u' (b' + k) = u (b + k)) : VB u' b' := by
  have f : ∀ {q' : Nat} (q k : Nat), k < 156 → q = b + k → q' = b' + k → u' q' = u q := fun q k hk e e' => by rw [e', e, hf k hk]
  obtain ⟨⟨o1, o2, o3, o4⟩, h1, h2, h3, h4, h5⟩ := h
  have hn : rN u' b' = rN u b := by unfold rN; rw [f (q' := b' + 26) (b + 26) 26 (by omega) rfl rfl]
  refine ⟨⟨?_, by rw [hn]; exact o2, by rw [f (q' := b' + 24) (b + 24) 24 (by omega) rfl rfl]; exact o3, fun j hj => ?_⟩, by rw [f (q' := b' + 25) (b + 25) 25 (by omega) rfl rfl]; exact h1, by rw [f (q' := b' + 155) (b + 155) 155 (by omega) rfl rfl]; exact h2, by rw [f (q' := b' + 148) (b + 148) 148 (by omega) rfl rfl]; exact h3, fun j hj => ?_, fun k hk => ?_⟩
  · rw [hn, f (q' := b' + 26) (b + 26) 26 (by omega) rfl rfl]; exact o1
  · rw [hn] at hj
    unfold rS
    rw [f (q' := b' + 27 + 5 * j + 0) (b + 27 + 5 * j + 0) (27 + 5 * j + 0) (by omega) (by omega) (by omega)]
    exact o4 j hj
  · rw [hn] at hj
    rw [f (q' := b' + 27 + 5 * j + 0) (b + 27 + 5 * j + 0) (27 + 5 * j + 0) (by omega) (by omega) (by omega), f (q' := b' + 27 + 5 * j + 1) (b + 27 + 5 * j + 1) (27 + 5 * j + 1) (by omega) (by omega) (by omega), f (q' := b' + 27 + 5 * j + 4) (b + 27 + 5 * j + 4) (27 + 5 * j + 4) (by omega) (by omega) (by omega)]
    exact h4 j hj
  · rw [f (q' := b' + 87 + 10 * k + 0) (b + 87 + 10 * k + 0) (87 + 10 * k + 0) (by omega) (by omega) (by omega), f (q' := b' + 87 + 10 * k + 2) (b + 87 + 10 * k + 2) (87 + 10 * k + 2) (by omega) (by omega) (by omega), f (q' := b' + 87 + 10 * k + 3) (b + 87 + 10 * k + 3) (87 + 10 * k + 3) (by omega) (by omega) (by omega), f (q' := b' + 87 + 10 * k + 4) (b + 87 + 10 * k + 4) (87 + 10 * k + 4) (by omega) (by omega) (by omega), f (q' := b' + 87 + 10 * k + 7) (b + 87 + 10 * k + 7) (87 + 10 * k + 7) (by omega) (by omega) (by omega), f (q' := b' + 87 + 10 * k + 8) (b + 87 + 10 * k + 8) (87 + 10 * k + 8) (by omega) (by omega) (by omega)]
    exact h5 k hk
theorem RS.mv {r : xR} {u u' : Nat → Int32} {b b' : Nat} (h : RS r u b) (hf : ∀ k, k < 156 → u' (b' + k) = u (b + k)) : RS r u' b' := ⟨h.1.mv h.2.1.2.1 hf, h.2.mv hf⟩
theorem cpr_at (ff a : Nat → Int32) : ∀ n k, k < n → sp_cpr ff a n k = ff k
  | 0, _, h => absurd h (Nat.not_lt_zero _)
  | n + 1, k, h => by
    simp only [sp_cpr]
    by_cases c : k = n
    · rw [ue c, c]
    · rw [un c]
      exact cpr_at ff a n k (by omega)
theorem RS.cp {r : xR} {u : Nat → Int32} {b : Nat} (h : RS r u b) (o : xR) : RS (cpR r o) u b := by
  refine ⟨?_, h.2⟩
  have h12 := h.2.1.2.1
  obtain ⟨⟨h1, h2, h3, h4, h5, h8, h9, h10⟩, -⟩ := h
  refine ⟨fun k hk => (cpr_at _ _ _ k (by omega)).trans (h1 k hk), fun k hk => (cpr_at _ _ _ k (by omega)).trans (h2 k hk), fun k hk => (cpr_at _ _ _ k (by omega)).trans (h3 k hk), fun k hk => (cpr_at _ _ _ k (by omega)).trans (h4 k hk), h5, fun j hj => ?_, fun k hk => ?_, h10⟩
  · obtain ⟨a0, a1, a2, a3, a4⟩ := h8 j hj
    exact ⟨(cpr_at _ _ _ j (by omega)).trans a0, (cpr_at _ _ _ j (by omega)).trans a1, (cpr_at _ _ _ j (by omega)).trans a2, (cpr_at _ _ _ j (by omega)).trans a3, (cpr_at _ _ _ j (by omega)).trans a4⟩
  · obtain ⟨a0, a1, a2, a3, a4, a5, a6, a7, a8, a9⟩ := h9 k hk
    exact ⟨(cpr_at _ _ _ k (by omega)).trans a0, (cpr_at _ _ _ k (by omega)).trans a1, (cpr_at _ _ _ k (by omega)).trans a2, (cpr_at _ _ _ k (by omega)).trans a3, (cpr_at _ _ _ k (by omega)).trans a4, (cpr_at _ _ _ k (by omega)).trans a5, (cpr_at _ _ _ k (by omega)).trans a6, (cpr_at _ _ _ k (by omega)).trans a7, (cpr_at _ _ _ k (by omega)).trans a8, (cpr_at _ _ _ k (by omega)).trans a9⟩
theorem cp_gen (f t : Nat) (a : Nat → Int32) (hft : f ≠ t) : ∀ n, n ≤ 156 → ∀ q, sp_cp f t a n q = if 156 * t ≤ q ∧ q < 156 * t + n then a (156 * f + (q - 156 * t)) else a q
  | 0, _, q => (if_neg (by omega)).symm
  | n + 1, hn, q => by
    simp only [sp_cp]
    by_cases c : q = 156 * t + n
    · rw [ue c, if_pos (by omega), cp_gen f t a hft n (by omega), if_neg (by omega)]
      exact congrArg a (by omega)
    · rw [un c, cp_gen f t a hft n (by omega)]
      by_cases c2 : 156 * t ≤ q ∧ q < 156 * t + n
      · rw [if_pos c2, if_pos (by omega)]
      · rw [if_neg c2, if_neg (by omega)]
theorem cp_in {f t : Nat} (a : Nat → Int32) (hft : f ≠ t) {k : Nat} (hk : k < 156) : sp_cp f t a 156 (156 * t + k) = a (156 * f + k) := by
  rw [cp_gen f t a hft 156 (by omega), if_pos (by omega)]
  exact congrArg a (by omega)
theorem cp_out {f t : Nat} (a : Nat → Int32) (hft : f ≠ t) {q : Nat} (hq : q < 156 * t ∨ 156 * t + 156 ≤ q) : sp_cp f t a 156 q = a q := by
  rw [cp_gen f t a hft 156 (by omega), if_neg (by omega)]
theorem sv_gen (a : Nat → Int32) : ∀ n, n ≤ 5 → ∀ j k, k < 156 → sp_sv a n (156 * j + k) = if 1 ≤ j ∧ j ≤ n then a (156 * (j + 1) + k) else a (156 * j + k)
  | 0, _, j, k, _ => (if_neg (by omega)).symm
  | n + 1, hn, j, k, hk => by
    simp only [sp_sv]
    by_cases c : j = 1 + n
    · rw [c, cp_in _ (by omega) hk, sv_gen a n (by omega) _ k hk, if_neg (by omega), if_pos (by omega)]
    · rw [cp_out _ (by omega) (by omega), sv_gen a n (by omega) j k hk]
      by_cases c2 : 1 ≤ j ∧ j ≤ n
      · rw [if_pos c2, if_pos (by omega)]
      · rw [if_neg c2, if_neg (by omega)]
section SVS
variable {u : Nat → Int32} {sa : Int32}
theorem save6 (h : sa = nI sa.toNatClampNeg) (h6 : sa.toNatClampNeg = 6) : sp_X7_save_s u sa = sp_cp 0 6 (sp_sv u 5) 156 := by
  have e : sa = 6 := by rw [h, h6]; rfl
  subst e
  exact if_pos rfl
theorem save5 (h6 : sa.toNatClampNeg < 6) : sp_X7_save_s u sa = sp_cp 0 (sa.toNatClampNeg + 1) u 156 := by
  have e : ¬ sa = 6 := fun q => by rw [q] at h6; exact absurd h6 (by decide)
  unfold sp_X7_save_s svN
  rw [if_neg e, if_pos h6]
theorem save_0 (h : sa = nI sa.toNatClampNeg) (h6 : sa.toNatClampNeg ≤ 6) {k : Nat} (hk : k < 156) : sp_X7_save_s u sa k = u k := by
  by_cases c : sa.toNatClampNeg = 6
  · rw [save6 h c, cp_out _ (by omega) (by omega)]
    have := sv_gen u 5 (by omega) 0 k hk
    rw [Nat.mul_zero, Nat.zero_add] at this
    rw [this, if_neg (by omega)]
  · rw [save5 (by omega), cp_out _ (by omega) (by omega)]
theorem save_hi (h : sa = nI sa.toNatClampNeg) (h6 : sa.toNatClampNeg ≤ 6) {j k : Nat} (hj : 7 ≤ j) (hk : k < 156) : sp_X7_save_s u sa (156 * j + k) = u (156 * j + k) := by
  by_cases c : sa.toNatClampNeg = 6
  · rw [save6 h c, cp_out _ (by omega) (by omega), sv_gen u 5 (by omega) j k hk, if_neg (by omega)]
  · rw [save5 (by omega), cp_out _ (by omega) (by omega)]
end SVS
theorem spn2_eq {pn : Int32} (h : pn = nI pn.toNatClampNeg) (h6 : pn.toNatClampNeg ≤ 6) : sp_spn2 pn = nI (svN pn) := by
  unfold sp_spn2 sp_spn1 svN
  by_cases c : pn = 6
  · subst c; decide
  · have c6 : pn.toNatClampNeg ≠ 6 := fun q => c (by rw [h, q]; rfl)
    rw [if_neg c, if_pos (by omega)]
    conv => lhs; rw [h]
    exact nI_1 _
theorem sa_eq {pn : Int32} (h : pn = nI pn.toNatClampNeg) (h6 : pn.toNatClampNeg ≤ 6) : sp_X7_save_sa pn = sp_spn2 pn := by
  rw [spn2_eq h h6]
  exact svN_eq h h6
/-- the saving of a state keeps the two together -/
theorem RI.saved {r r' : xR} {po pn pl : Int32} {tx : Nat → Int32} {sv mm : xPl} {u u' fi t2 : Nat → Int32} {sa ln : Int32} (H : RI r po pn pl tx sv mm u fi t2 sa ln) (adn : Nat → Nat) (hu : ∀ q, 156 ≤ q → q < 1404 → u' q = sp_X7_save_s u sa q) (h0 : RS r' u' 0) : RI r' (sp_spo2 po pn) (sp_spn2 pn) pl tx (svS sv adn r po pn) mm u' fi t2 (sp_X7_save_sa sa) ln := by
  obtain ⟨hr, ⟨rfl, rfl, rfl⟩, hpl, hpo, hpn, hsv, hmm, hmn⟩ := H
  have e2 := spn2_eq hpn.1 hpn.2
  have hlt : svN sa ≤ 6 := svN_le sa
  have en : (sp_spn2 sa).toNatClampNeg = svN sa := by rw [e2, nI_clamp (by omega)]
  have hnew : ∀ {v : Nat}, (∀ k, k < 156 → u' (v + k) = u (0 + k)) → ∀ o : xR, RS (cpR r o) u' v := fun hv o => (hr.cp o).mv hv
  refine ⟨h0, ⟨sa_eq hpn.1 hpn.2, rfl, rfl⟩, hpl, sp_spo_ok sa hpo, spn2_ok hpn, fun k hk => ?_, fun k x hx => ?_, hmn⟩
  · rw [en] at hk
    by_cases c : sa.toNatClampNeg = 6
    · have es : sa = 6 := by rw [hpn.1, c]; rfl
      have hsN : svN sa = 6 := by unfold svN; rw [if_neg (by omega)]
      have eo : (sp_spo2 po sa).toNatClampNeg = (po.toNatClampNeg + 1) % 6 := by unfold sp_spo2; rw [if_pos es, nI_clamp (by omega)]
      have eK : slK po sa = po.toNatClampNeg := by
        unfold slK
        rw [if_pos es, if_pos es, nI_clamp (by omega), es]
        have h5 : (6 - 1 : Int32).toNatClampNeg = 5 := by decide
        rw [h5]
        have := hpo.2
        omega
      rw [eo]
      unfold svS
      rw [eK]
      by_cases ck : k = 5
      · have eslot : ((po.toNatClampNeg + 1) % 6 + k) % 6 = po.toNatClampNeg := by have := hpo.2; omega
        rw [eslot, upP_eq]
        refine ⟨_, _, rfl, ?_⟩
        have hb : ∀ q, q < 156 → u' (156 * (k + 1) + q) = u (0 + q) := fun q hq => by
          rw [hu _ (by omega) (by omega), save6 hpn.1 c, ck, cp_in _ (by omega) hq]
          have := sv_gen u 5 (by omega) 0 q hq
          rw [if_neg (by omega)] at this
          exact this.trans (congrArg u (by omega))
        split <;> exact hnew hb _
      · have hne : ((po.toNatClampNeg + 1) % 6 + k) % 6 ≠ po.toNatClampNeg := by have := hpo.2; omega
        rw [upP_ne _ _ hne]
        obtain ⟨a, r1, q1, q2⟩ := hsv (k + 1) (by omega)
        have es2 : ((po.toNatClampNeg + 1) % 6 + k) % 6 = (po.toNatClampNeg + (k + 1)) % 6 := by omega
        rw [es2]
        refine ⟨a, r1, q1, q2.mv fun q hq => ?_⟩
        rw [hu _ (by omega) (by omega), save6 hpn.1 c, cp_out _ (by omega) (by omega), sv_gen u 5 (by omega) (k + 1) q hq, if_pos (by omega)]
    · have es : ¬ sa = 6 := fun q => c (by rw [q]; rfl)
      have hsN : svN sa = sa.toNatClampNeg + 1 := by unfold svN; rw [if_pos (by omega)]
      have eo : sp_spo2 po sa = po := by unfold sp_spo2; rw [if_neg es]
      have eK : slK po sa = (po.toNatClampNeg + sa.toNatClampNeg) % 6 := by unfold slK; rw [if_neg es, if_neg es]
      rw [eo]
      unfold svS
      rw [eK]
      by_cases ck : k = sa.toNatClampNeg
      · rw [ck, upP_eq]
        refine ⟨_, _, rfl, ?_⟩
        have hb : ∀ q, q < 156 → u' (156 * (sa.toNatClampNeg + 1) + q) = u (0 + q) := fun q hq => by
          rw [hu _ (by omega) (by omega), save5 (by omega), cp_in _ (by omega) hq]
        split <;> exact hnew hb _
      · have hne : (po.toNatClampNeg + k) % 6 ≠ (po.toNatClampNeg + sa.toNatClampNeg) % 6 := by omega
        rw [upP_ne _ _ hne]
        obtain ⟨a, r1, q1, q2⟩ := hsv k (by omega)
        refine ⟨a, r1, q1, q2.mv fun q hq => ?_⟩
        rw [hu _ (by omega) (by omega), save5 (by omega), cp_out _ (by omega) (by omega)]
  · obtain ⟨m1, m2, m3⟩ := hmm k x hx
    refine ⟨m1, m2, m3.mv fun q hq => ?_⟩
    rw [hu _ (by omega) (by omega), save_hi hpn.1 hpn.2 (by omega) hq]
theorem RI.sv0 {r : xR} {po pn pl : Int32} {tx : Nat → Int32} {sv mm : xPl} {u fi t2 : Nat → Int32} {sa ln : Int32} (H : RI r po pn pl tx sv mm u fi t2 sa ln) : RS r (sp_X7_save_s u sa) 0 := H.1.mv fun k hk => by rw [Nat.zero_add, save_0 H.hs H.hs6 hk]
theorem SR.set_kp {r : xR} {w : Nat → Int32} {k0 : Nat} {p : Nat} {v : Int32} (h : SR r w 0) (h12 : rN w 0 ≤ 12) (hk0 : k0 < 4) (hp : p = 0 + k0) : SR (r.set_kp (upd r.kp k0 v)) (upd w p v) 0 := by
  have n : ∀ q, q ≠ p → upd w p v q = w q := fun q hq => un hq
  obtain ⟨h1, h2, h3, h4, ⟨h5, h6, h7⟩, h8, h9, ⟨g1, g2, g3, g4, g5, g6, g7, g8, g9⟩⟩ := h
  have hn : rN (upd w p v) 0 = rN w 0 := by unfold rN; rw [n _ (by omega)]
  exact ⟨fun k hk => (by
    by_cases c : k = k0
    · show upd r.kp k0 v k = upd w p v (0 + 0 + k)
      rw [ue c, ue (by omega)]
    · show upd r.kp k0 v k = upd w p v (0 + 0 + k)
      rw [un c, n _ (by omega)]
      exact h1 k hk), fun k hk => by rw [n _ (by omega)]; exact h2 k hk, fun k hk => by rw [n _ (by omega)]; exact h3 k hk, fun k hk => by rw [n _ (by omega)]; exact h4 k hk, ⟨by rw [n _ (by omega)]; exact h5, by rw [n _ (by omega)]; exact h6, by rw [n _ (by omega)]; exact h7⟩, fun j hj => (by
    rw [hn] at hj
    rw [n _ (by omega), n _ (by omega), n _ (by omega), n _ (by omega), n _ (by omega)]
    exact h8 j hj), fun k hk => (by
    rw [n _ (by omega), n _ (by omega), n _ (by omega), n _ (by omega), n _ (by omega), n _ (by omega), n _ (by omega), n _ (by omega), n _ (by omega), n _ (by omega)]
    exact h9 k hk), ⟨by rw [n _ (by omega)]; exact g1, by rw [n _ (by omega)]; exact g2, by rw [n _ (by omega)]; exact g3, by rw [n _ (by omega)]; exact g4, by rw [n _ (by omega)]; exact g5, by rw [n _ (by omega)]; exact g6, by rw [n _ (by omega)]; exact g7, by rw [n _ (by omega)]; exact g8, by rw [n _ (by omega)]; exact g9⟩⟩
theorem SR.set_ke {r : xR} {w : Nat → Int32} {k0 : Nat} {p : Nat} {v : Int32} (h : SR r w 0) (h12 : rN w 0 ≤ 12) (hk0 : k0 < 4) (hp : p = 4 + k0) : SR (r.set_ke (upd r.ke k0 v)) (upd w p v) 0 := by
  have n : ∀ q, q ≠ p → upd w p v q = w q := fun q hq => un hq
  obtain ⟨h1, h2, h3, h4, ⟨h5, h6, h7⟩, h8, h9, ⟨g1, g2, g3, g4, g5, g6, g7, g8, g9⟩⟩ := h
  have hn : rN (upd w p v) 0 = rN w 0 := by unfold rN; rw [n _ (by omega)]
  exact ⟨fun k hk => by rw [n _ (by omega)]; exact h1 k hk, fun k hk => (by
    by_cases c : k = k0
    · show upd r.ke k0 v k = upd w p v (0 + 4 + k)
      rw [ue c, ue (by omega)]
    · show upd r.ke k0 v k = upd w p v (0 + 4 + k)
      rw [un c, n _ (by omega)]
      exact h2 k hk), fun k hk => by rw [n _ (by omega)]; exact h3 k hk, fun k hk => by rw [n _ (by omega)]; exact h4 k hk, ⟨by rw [n _ (by omega)]; exact h5, by rw [n _ (by omega)]; exact h6, by rw [n _ (by omega)]; exact h7⟩, fun j hj => (by
    rw [hn] at hj
    rw [n _ (by omega), n _ (by omega), n _ (by omega), n _ (by omega), n _ (by omega)]
    exact h8 j hj), fun k hk => (by
    rw [n _ (by omega), n _ (by omega), n _ (by omega), n _ (by omega), n _ (by omega), n _ (by omega), n _ (by omega), n _ (by omega), n _ (by omega), n _ (by omega)]
    exact h9 k hk), ⟨by rw [n _ (by omega)]; exact g1, by rw [n _ (by omega)]; exact g2, by rw [n _ (by omega)]; exact g3, by rw [n _ (by omega)]; exact g4, by rw [n _ (by omega)]; exact g5, by rw [n _ (by omega)]; exact g6, by rw [n _ (by omega)]; exact g7, by rw [n _ (by omega)]; exact g8, by rw [n _ (by omega)]; exact g9⟩⟩
theorem SR.set_kr {r : xR} {w : Nat → Int32} {k0 : Nat} {p : Nat} {v : Int32} (h : SR r w 0) (h12 : rN w 0 ≤ 12) (hk0 : k0 < 8) (hp : p = 8 + k0) : SR (r.set_kr (upd r.kr k0 v)) (upd w p v) 0 := by
  have n : ∀ q, q ≠ p → upd w p v q = w q := fun q hq => un hq
  obtain ⟨h1, h2, h3, h4, ⟨h5, h6, h7⟩, h8, h9, ⟨g1, g2, g3, g4, g5, g6, g7, g8, g9⟩⟩ := h
  have hn : rN (upd w p v) 0 = rN w 0 := by unfold rN; rw [n _ (by omega)]
  exact ⟨fun k hk => by rw [n _ (by omega)]; exact h1 k hk, fun k hk => by rw [n _ (by omega)]; exact h2 k hk, fun k hk => (by
    by_cases c : k = k0
    · show upd r.kr k0 v k = upd w p v (0 + 8 + k)
      rw [ue c, ue (by omega)]
    · show upd r.kr k0 v k = upd w p v (0 + 8 + k)
      rw [un c, n _ (by omega)]
      exact h3 k hk), fun k hk => by rw [n _ (by omega)]; exact h4 k hk, ⟨by rw [n _ (by omega)]; exact h5, by rw [n _ (by omega)]; exact h6, by rw [n _ (by omega)]; exact h7⟩, fun j hj => (by
    rw [hn] at hj
    rw [n _ (by omega), n _ (by omega), n _ (by omega), n _ (by omega), n _ (by omega)]
    exact h8 j hj), fun k hk => (by
    rw [n _ (by omega), n _ (by omega), n _ (by omega), n _ (by omega), n _ (by omega), n _ (by omega), n _ (by omega), n _ (by omega), n _ (by omega), n _ (by omega)]
    exact h9 k hk), ⟨by rw [n _ (by omega)]; exact g1, by rw [n _ (by omega)]; exact g2, by rw [n _ (by omega)]; exact g3, by rw [n _ (by omega)]; exact g4, by rw [n _ (by omega)]; exact g5, by rw [n _ (by omega)]; exact g6, by rw [n _ (by omega)]; exact g7, by rw [n _ (by omega)]; exact g8, by rw [n _ (by omega)]; exact g9⟩⟩
theorem SR.set_kt {r : xR} {w : Nat → Int32} {k0 : Nat} {p : Nat} {v : Int32} (h : SR r w 0) (h12 : rN w 0 ≤ 12) (hk0 : k0 < 8) (hp : p = 16 + k0) : SR (r.set_kt (upd r.kt k0 v)) (upd w p v) 0 := by
  have n : ∀ q, q ≠ p → upd w p v q = w q := fun q hq => un hq
  obtain ⟨h1, h2, h3, h4, ⟨h5, h6, h7⟩, h8, h9, ⟨g1, g2, g3, g4, g5, g6, g7, g8, g9⟩⟩ := h
  have hn : rN (upd w p v) 0 = rN w 0 := by unfold rN; rw [n _ (by omega)]
  exact ⟨fun k hk => by rw [n _ (by omega)]; exact h1 k hk, fun k hk => by rw [n _ (by omega)]; exact h2 k hk, fun k hk => by rw [n _ (by omega)]; exact h3 k hk, fun k hk => (by
    by_cases c : k = k0
    · show upd r.kt k0 v k = upd w p v (0 + 16 + k)
      rw [ue c, ue (by omega)]
    · show upd r.kt k0 v k = upd w p v (0 + 16 + k)
      rw [un c, n _ (by omega)]
      exact h4 k hk), ⟨by rw [n _ (by omega)]; exact h5, by rw [n _ (by omega)]; exact h6, by rw [n _ (by omega)]; exact h7⟩, fun j hj => (by
    rw [hn] at hj
    rw [n _ (by omega), n _ (by omega), n _ (by omega), n _ (by omega), n _ (by omega)]
    exact h8 j hj), fun k hk => (by
    rw [n _ (by omega), n _ (by omega), n _ (by omega), n _ (by omega), n _ (by omega), n _ (by omega), n _ (by omega), n _ (by omega), n _ (by omega), n _ (by omega)]
    exact h9 k hk), ⟨by rw [n _ (by omega)]; exact g1, by rw [n _ (by omega)]; exact g2, by rw [n _ (by omega)]; exact g3, by rw [n _ (by omega)]; exact g4, by rw [n _ (by omega)]; exact g5, by rw [n _ (by omega)]; exact g6, by rw [n _ (by omega)]; exact g7, by rw [n _ (by omega)]; exact g8, by rw [n _ (by omega)]; exact g9⟩⟩
theorem SR.set_kh {r : xR} {w : Nat → Int32} {p : Nat} {v : Int32} (h : SR r w 0) (h12 : rN w 0 ≤ 12) (hp : p = 24) : SR (r.set_kh v) (upd w p v) 0 := by
  have n : ∀ q, q ≠ p → upd w p v q = w q := fun q hq => un hq
  obtain ⟨h1, h2, h3, h4, ⟨h5, h6, h7⟩, h8, h9, ⟨g1, g2, g3, g4, g5, g6, g7, g8, g9⟩⟩ := h
  have hn : rN (upd w p v) 0 = rN w 0 := by unfold rN; rw [n _ (by omega)]
  exact ⟨fun k hk => by rw [n _ (by omega)]; exact h1 k hk, fun k hk => by rw [n _ (by omega)]; exact h2 k hk, fun k hk => by rw [n _ (by omega)]; exact h3 k hk, fun k hk => by rw [n _ (by omega)]; exact h4 k hk, ⟨(show v = upd w p v (0 + 24) from (ue (by omega)).symm), by rw [n _ (by omega)]; exact h6, by rw [n _ (by omega)]; exact h7⟩, fun j hj => (by
    rw [hn] at hj
    rw [n _ (by omega), n _ (by omega), n _ (by omega), n _ (by omega), n _ (by omega)]
    exact h8 j hj), fun k hk => (by
    rw [n _ (by omega), n _ (by omega), n _ (by omega), n _ (by omega), n _ (by omega), n _ (by omega), n _ (by omega), n _ (by omega), n _ (by omega), n _ (by omega)]
    exact h9 k hk), ⟨by rw [n _ (by omega)]; exact g1, by rw [n _ (by omega)]; exact g2, by rw [n _ (by omega)]; exact g3, by rw [n _ (by omega)]; exact g4, by rw [n _ (by omega)]; exact g5, by rw [n _ (by omega)]; exact g6, by rw [n _ (by omega)]; exact g7, by rw [n _ (by omega)]; exact g8, by rw [n _ (by omega)]; exact g9⟩⟩
theorem SR.set_kc {r : xR} {w : Nat → Int32} {p : Nat} {v : Int32} (h : SR r w 0) (h12 : rN w 0 ≤ 12) (hp : p = 25) : SR (r.set_kc v) (upd w p v) 0 := by
  have n : ∀ q, q ≠ p → upd w p v q = w q := fun q hq => un hq
  obtain ⟨h1, h2, h3, h4, ⟨h5, h6, h7⟩, h8, h9, ⟨g1, g2, g3, g4, g5, g6, g7, g8, g9⟩⟩ := h
  have hn : rN (upd w p v) 0 = rN w 0 := by unfold rN; rw [n _ (by omega)]
  exact ⟨fun k hk => by rw [n _ (by omega)]; exact h1 k hk, fun k hk => by rw [n _ (by omega)]; exact h2 k hk, fun k hk => by rw [n _ (by omega)]; exact h3 k hk, fun k hk => by rw [n _ (by omega)]; exact h4 k hk, ⟨by rw [n _ (by omega)]; exact h5, (show v = upd w p v (0 + 25) from (ue (by omega)).symm), by rw [n _ (by omega)]; exact h7⟩, fun j hj => (by
    rw [hn] at hj
    rw [n _ (by omega), n _ (by omega), n _ (by omega), n _ (by omega), n _ (by omega)]
    exact h8 j hj), fun k hk => (by
    rw [n _ (by omega), n _ (by omega), n _ (by omega), n _ (by omega), n _ (by omega), n _ (by omega), n _ (by omega), n _ (by omega), n _ (by omega), n _ (by omega)]
    exact h9 k hk), ⟨by rw [n _ (by omega)]; exact g1, by rw [n _ (by omega)]; exact g2, by rw [n _ (by omega)]; exact g3, by rw [n _ (by omega)]; exact g4, by rw [n _ (by omega)]; exact g5, by rw [n _ (by omega)]; exact g6, by rw [n _ (by omega)]; exact g7, by rw [n _ (by omega)]; exact g8, by rw [n _ (by omega)]; exact g9⟩⟩
theorem SR.set_vd {r : xR} {w : Nat → Int32} {k0 : Nat} {p : Nat} {v : Int32} (h : SR r w 0) (h12 : rN w 0 ≤ 12) (hk0 : k0 < 6) (hp : p = 87 + 10 * k0 + 0) (vd : Int32) (hvd : vd = if v = 1 then -1 else 1) : SR (r.set_vd (upd r.vd k0 vd)) (upd w p v) 0 := by
  have n : ∀ q, q ≠ p → upd w p v q = w q := fun q hq => un hq
  obtain ⟨h1, h2, h3, h4, ⟨h5, h6, h7⟩, h8, h9, ⟨g1, g2, g3, g4, g5, g6, g7, g8, g9⟩⟩ := h
  have hn : rN (upd w p v) 0 = rN w 0 := by unfold rN; rw [n _ (by omega)]
  exact ⟨fun k hk => by rw [n _ (by omega)]; exact h1 k hk, fun k hk => by rw [n _ (by omega)]; exact h2 k hk, fun k hk => by rw [n _ (by omega)]; exact h3 k hk, fun k hk => by rw [n _ (by omega)]; exact h4 k hk, ⟨by rw [n _ (by omega)]; exact h5, by rw [n _ (by omega)]; exact h6, by rw [n _ (by omega)]; exact h7⟩, fun j hj => (by
    rw [hn] at hj
    rw [n _ (by omega), n _ (by omega), n _ (by omega), n _ (by omega), n _ (by omega)]
    exact h8 j hj), fun k hk => (by
    obtain ⟨a0, a1, a2, a3, a4, a5, a6, a7, a8, a9⟩ := h9 k hk
    by_cases c : k = k0
    · exact ⟨(by
      show upd r.vd k0 vd k = (if upd w p v (0 + 87 + 10 * k + 0) = 1 then -1 else 1)
      rw [ue c, ue (by omega)]
      exact hvd), by rw [n _ (by omega)]; exact a1, by rw [n _ (by omega)]; exact a2, by rw [n _ (by omega)]; exact a3, by rw [n _ (by omega)]; exact a4, by rw [n _ (by omega)]; exact a5, by rw [n _ (by omega)]; exact a6, by rw [n _ (by omega)]; exact a7, by rw [n _ (by omega)]; exact a8, by rw [n _ (by omega)]; exact a9⟩
    · exact ⟨(by
      show upd r.vd k0 vd k = (if upd w p v (0 + 87 + 10 * k + 0) = 1 then -1 else 1)
      rw [un c, n _ (by omega)]
      exact a0), by rw [n _ (by omega)]; exact a1, by rw [n _ (by omega)]; exact a2, by rw [n _ (by omega)]; exact a3, by rw [n _ (by omega)]; exact a4, by rw [n _ (by omega)]; exact a5, by rw [n _ (by omega)]; exact a6, by rw [n _ (by omega)]; exact a7, by rw [n _ (by omega)]; exact a8, by rw [n _ (by omega)]; exact a9⟩), ⟨by rw [n _ (by omega)]; exact g1, by rw [n _ (by omega)]; exact g2, by rw [n _ (by omega)]; exact g3, by rw [n _ (by omega)]; exact g4, by rw [n _ (by omega)]; exact g5, by rw [n _ (by omega)]; exact g6, by rw [n _ (by omega)]; exact g7, by rw [n _ (by omega)]; exact g8, by rw [n _ (by omega)]; exact g9⟩⟩
theorem SR.set_vn {r : xR} {w : Nat → Int32} {k0 : Nat} {p : Nat} {v : Int32} (h : SR r w 0) (h12 : rN w 0 ≤ 12) (hk0 : k0 < 6) (hp : p = 87 + 10 * k0 + 1) : SR (r.set_vn (upd r.vn k0 v)) (upd w p v) 0 := by
  have n : ∀ q, q ≠ p → upd w p v q = w q := fun q hq => un hq
  obtain ⟨h1, h2, h3, h4, ⟨h5, h6, h7⟩, h8, h9, ⟨g1, g2, g3, g4, g5, g6, g7, g8, g9⟩⟩ := h
  have hn : rN (upd w p v) 0 = rN w 0 := by unfold rN; rw [n _ (by omega)]
  exact ⟨fun k hk => by rw [n _ (by omega)]; exact h1 k hk, fun k hk => by rw [n _ (by omega)]; exact h2 k hk, fun k hk => by rw [n _ (by omega)]; exact h3 k hk, fun k hk => by rw [n _ (by omega)]; exact h4 k hk, ⟨by rw [n _ (by omega)]; exact h5, by rw [n _ (by omega)]; exact h6, by rw [n _ (by omega)]; exact h7⟩, fun j hj => (by
    rw [hn] at hj
    rw [n _ (by omega), n _ (by omega), n _ (by omega), n _ (by omega), n _ (by omega)]
    exact h8 j hj), fun k hk => (by
    obtain ⟨a0, a1, a2, a3, a4, a5, a6, a7, a8, a9⟩ := h9 k hk
    by_cases c : k = k0
    · exact ⟨by rw [n _ (by omega)]; exact a0, (by
      show upd r.vn k0 v k = upd w p v (0 + 87 + 10 * k + 1)
      rw [ue c, ue (by omega)]), by rw [n _ (by omega)]; exact a2, by rw [n _ (by omega)]; exact a3, by rw [n _ (by omega)]; exact a4, by rw [n _ (by omega)]; exact a5, by rw [n _ (by omega)]; exact a6, by rw [n _ (by omega)]; exact a7, by rw [n _ (by omega)]; exact a8, by rw [n _ (by omega)]; exact a9⟩
    · exact ⟨by rw [n _ (by omega)]; exact a0, (by
      show upd r.vn k0 v k = upd w p v (0 + 87 + 10 * k + 1)
      rw [un c, n _ (by omega)]
      exact a1), by rw [n _ (by omega)]; exact a2, by rw [n _ (by omega)]; exact a3, by rw [n _ (by omega)]; exact a4, by rw [n _ (by omega)]; exact a5, by rw [n _ (by omega)]; exact a6, by rw [n _ (by omega)]; exact a7, by rw [n _ (by omega)]; exact a8, by rw [n _ (by omega)]; exact a9⟩), ⟨by rw [n _ (by omega)]; exact g1, by rw [n _ (by omega)]; exact g2, by rw [n _ (by omega)]; exact g3, by rw [n _ (by omega)]; exact g4, by rw [n _ (by omega)]; exact g5, by rw [n _ (by omega)]; exact g6, by rw [n _ (by omega)]; exact g7, by rw [n _ (by omega)]; exact g8, by rw [n _ (by omega)]; exact g9⟩⟩
theorem SR.set_vl {r : xR} {w : Nat → Int32} {k0 : Nat} {p : Nat} {v : Int32} (h : SR r w 0) (h12 : rN w 0 ≤ 12) (hk0 : k0 < 6) (hp : p = 87 + 10 * k0 + 2) : SR (r.set_vl (upd r.vl k0 v)) (upd w p v) 0 := by
  have n : ∀ q, q ≠ p → upd w p v q = w q := fun q hq => un hq
  obtain ⟨h1, h2, h3, h4, ⟨h5, h6, h7⟩, h8, h9, ⟨g1, g2, g3, g4, g5, g6, g7, g8, g9⟩⟩ := h
  have hn : rN (upd w p v) 0 = rN w 0 := by unfold rN; rw [n _ (by omega)]
  exact ⟨fun k hk => by rw [n _ (by omega)]; exact h1 k hk, fun k hk => by rw [n _ (by omega)]; exact h2 k hk, fun k hk => by rw [n _ (by omega)]; exact h3 k hk, fun k hk => by rw [n _ (by omega)]; exact h4 k hk, ⟨by rw [n _ (by omega)]; exact h5, by rw [n _ (by omega)]; exact h6, by rw [n _ (by omega)]; exact h7⟩, fun j hj => (by
    rw [hn] at hj
    rw [n _ (by omega), n _ (by omega), n _ (by omega), n _ (by omega), n _ (by omega)]
    exact h8 j hj), fun k hk => (by
    obtain ⟨a0, a1, a2, a3, a4, a5, a6, a7, a8, a9⟩ := h9 k hk
    by_cases c : k = k0
    · exact ⟨by rw [n _ (by omega)]; exact a0, by rw [n _ (by omega)]; exact a1, (by
      show upd r.vl k0 v k = upd w p v (0 + 87 + 10 * k + 2)
      rw [ue c, ue (by omega)]), by rw [n _ (by omega)]; exact a3, by rw [n _ (by omega)]; exact a4, by rw [n _ (by omega)]; exact a5, by rw [n _ (by omega)]; exact a6, by rw [n _ (by omega)]; exact a7, by rw [n _ (by omega)]; exact a8, by rw [n _ (by omega)]; exact a9⟩
    · exact ⟨by rw [n _ (by omega)]; exact a0, by rw [n _ (by omega)]; exact a1, (by
      show upd r.vl k0 v k = upd w p v (0 + 87 + 10 * k + 2)
      rw [un c, n _ (by omega)]
      exact a2), by rw [n _ (by omega)]; exact a3, by rw [n _ (by omega)]; exact a4, by rw [n _ (by omega)]; exact a5, by rw [n _ (by omega)]; exact a6, by rw [n _ (by omega)]; exact a7, by rw [n _ (by omega)]; exact a8, by rw [n _ (by omega)]; exact a9⟩), ⟨by rw [n _ (by omega)]; exact g1, by rw [n _ (by omega)]; exact g2, by rw [n _ (by omega)]; exact g3, by rw [n _ (by omega)]; exact g4, by rw [n _ (by omega)]; exact g5, by rw [n _ (by omega)]; exact g6, by rw [n _ (by omega)]; exact g7, by rw [n _ (by omega)]; exact g8, by rw [n _ (by omega)]; exact g9⟩⟩
theorem SR.set_vu {r : xR} {w : Nat → Int32} {k0 : Nat} {p : Nat} {v : Int32} (h : SR r w 0) (h12 : rN w 0 ≤ 12) (hk0 : k0 < 6) (hp : p = 87 + 10 * k0 + 3) : SR (r.set_vu (upd r.vu k0 v)) (upd w p v) 0 := by
  have n : ∀ q, q ≠ p → upd w p v q = w q := fun q hq => un hq
  obtain ⟨h1, h2, h3, h4, ⟨h5, h6, h7⟩, h8, h9, ⟨g1, g2, g3, g4, g5, g6, g7, g8, g9⟩⟩ := h
  have hn : rN (upd w p v) 0 = rN w 0 := by unfold rN; rw [n _ (by omega)]
  exact ⟨fun k hk => by rw [n _ (by omega)]; exact h1 k hk, fun k hk => by rw [n _ (by omega)]; exact h2 k hk, fun k hk => by rw [n _ (by omega)]; exact h3 k hk, fun k hk => by rw [n _ (by omega)]; exact h4 k hk, ⟨by rw [n _ (by omega)]; exact h5, by rw [n _ (by omega)]; exact h6, by rw [n _ (by omega)]; exact h7⟩, fun j hj => (by
    rw [hn] at hj
    rw [n _ (by omega), n _ (by omega), n _ (by omega), n _ (by omega), n _ (by omega)]
    exact h8 j hj), fun k hk => (by
    obtain ⟨a0, a1, a2, a3, a4, a5, a6, a7, a8, a9⟩ := h9 k hk
    by_cases c : k = k0
    · exact ⟨by rw [n _ (by omega)]; exact a0, by rw [n _ (by omega)]; exact a1, by rw [n _ (by omega)]; exact a2, (by
      show upd r.vu k0 v k = upd w p v (0 + 87 + 10 * k + 3)
      rw [ue c, ue (by omega)]), by rw [n _ (by omega)]; exact a4, by rw [n _ (by omega)]; exact a5, by rw [n _ (by omega)]; exact a6, by rw [n _ (by omega)]; exact a7, by rw [n _ (by omega)]; exact a8, by rw [n _ (by omega)]; exact a9⟩
    · exact ⟨by rw [n _ (by omega)]; exact a0, by rw [n _ (by omega)]; exact a1, by rw [n _ (by omega)]; exact a2, (by
      show upd r.vu k0 v k = upd w p v (0 + 87 + 10 * k + 3)
      rw [un c, n _ (by omega)]
      exact a3), by rw [n _ (by omega)]; exact a4, by rw [n _ (by omega)]; exact a5, by rw [n _ (by omega)]; exact a6, by rw [n _ (by omega)]; exact a7, by rw [n _ (by omega)]; exact a8, by rw [n _ (by omega)]; exact a9⟩), ⟨by rw [n _ (by omega)]; exact g1, by rw [n _ (by omega)]; exact g2, by rw [n _ (by omega)]; exact g3, by rw [n _ (by omega)]; exact g4, by rw [n _ (by omega)]; exact g5, by rw [n _ (by omega)]; exact g6, by rw [n _ (by omega)]; exact g7, by rw [n _ (by omega)]; exact g8, by rw [n _ (by omega)]; exact g9⟩⟩
theorem SR.set_vs {r : xR} {w : Nat → Int32} {k0 : Nat} {p : Nat} {v : Int32} (h : SR r w 0) (h12 : rN w 0 ≤ 12) (hk0 : k0 < 6) (hp : p = 87 + 10 * k0 + 4) : SR (r.set_vs (upd r.vs k0 v)) (upd w p v) 0 := by
  have n : ∀ q, q ≠ p → upd w p v q = w q := fun q hq => un hq
  obtain ⟨h1, h2, h3, h4, ⟨h5, h6, h7⟩, h8, h9, ⟨g1, g2, g3, g4, g5, g6, g7, g8, g9⟩⟩ := h
  have hn : rN (upd w p v) 0 = rN w 0 := by unfold rN; rw [n _ (by omega)]
  exact ⟨fun k hk => by rw [n _ (by omega)]; exact h1 k hk, fun k hk => by rw [n _ (by omega)]; exact h2 k hk, fun k hk => by rw [n _ (by omega)]; exact h3 k hk, fun k hk => by rw [n _ (by omega)]; exact h4 k hk, ⟨by rw [n _ (by omega)]; exact h5, by rw [n _ (by omega)]; exact h6, by rw [n _ (by omega)]; exact h7⟩, fun j hj => (by
    rw [hn] at hj
    rw [n _ (by omega), n _ (by omega), n _ (by omega), n _ (by omega), n _ (by omega)]
    exact h8 j hj), fun k hk => (by
    obtain ⟨a0, a1, a2, a3, a4, a5, a6, a7, a8, a9⟩ := h9 k hk
    by_cases c : k = k0
    · exact ⟨by rw [n _ (by omega)]; exact a0, by rw [n _ (by omega)]; exact a1, by rw [n _ (by omega)]; exact a2, by rw [n _ (by omega)]; exact a3, (by
      show upd r.vs k0 v k = upd w p v (0 + 87 + 10 * k + 4)
      rw [ue c, ue (by omega)]), by rw [n _ (by omega)]; exact a5, by rw [n _ (by omega)]; exact a6, by rw [n _ (by omega)]; exact a7, by rw [n _ (by omega)]; exact a8, by rw [n _ (by omega)]; exact a9⟩
    · exact ⟨by rw [n _ (by omega)]; exact a0, by rw [n _ (by omega)]; exact a1, by rw [n _ (by omega)]; exact a2, by rw [n _ (by omega)]; exact a3, (by
      show upd r.vs k0 v k = upd w p v (0 + 87 + 10 * k + 4)
      rw [un c, n _ (by omega)]
      exact a4), by rw [n _ (by omega)]; exact a5, by rw [n _ (by omega)]; exact a6, by rw [n _ (by omega)]; exact a7, by rw [n _ (by omega)]; exact a8, by rw [n _ (by omega)]; exact a9⟩), ⟨by rw [n _ (by omega)]; exact g1, by rw [n _ (by omega)]; exact g2, by rw [n _ (by omega)]; exact g3, by rw [n _ (by omega)]; exact g4, by rw [n _ (by omega)]; exact g5, by rw [n _ (by omega)]; exact g6, by rw [n _ (by omega)]; exact g7, by rw [n _ (by omega)]; exact g8, by rw [n _ (by omega)]; exact g9⟩⟩
theorem SR.set_vm {r : xR} {w : Nat → Int32} {k0 : Nat} {p : Nat} {v : Int32} (h : SR r w 0) (h12 : rN w 0 ≤ 12) (hk0 : k0 < 6) (hp : p = 87 + 10 * k0 + 5) : SR (r.set_vm (upd r.vm k0 v)) (upd w p v) 0 := by
  have n : ∀ q, q ≠ p → upd w p v q = w q := fun q hq => un hq
  obtain ⟨h1, h2, h3, h4, ⟨h5, h6, h7⟩, h8, h9, ⟨g1, g2, g3, g4, g5, g6, g7, g8, g9⟩⟩ := h
  have hn : rN (upd w p v) 0 = rN w 0 := by unfold rN; rw [n _ (by omega)]
  exact ⟨fun k hk => by rw [n _ (by omega)]; exact h1 k hk, fun k hk => by rw [n _ (by omega)]; exact h2 k hk, fun k hk => by rw [n _ (by omega)]; exact h3 k hk, fun k hk => by rw [n _ (by omega)]; exact h4 k hk, ⟨by rw [n _ (by omega)]; exact h5, by rw [n _ (by omega)]; exact h6, by rw [n _ (by omega)]; exact h7⟩, fun j hj => (by
    rw [hn] at hj
    rw [n _ (by omega), n _ (by omega), n _ (by omega), n _ (by omega), n _ (by omega)]
    exact h8 j hj), fun k hk => (by
    obtain ⟨a0, a1, a2, a3, a4, a5, a6, a7, a8, a9⟩ := h9 k hk
    by_cases c : k = k0
    · exact ⟨by rw [n _ (by omega)]; exact a0, by rw [n _ (by omega)]; exact a1, by rw [n _ (by omega)]; exact a2, by rw [n _ (by omega)]; exact a3, by rw [n _ (by omega)]; exact a4, (by
      show upd r.vm k0 v k = upd w p v (0 + 87 + 10 * k + 5)
      rw [ue c, ue (by omega)]), by rw [n _ (by omega)]; exact a6, by rw [n _ (by omega)]; exact a7, by rw [n _ (by omega)]; exact a8, by rw [n _ (by omega)]; exact a9⟩
    · exact ⟨by rw [n _ (by omega)]; exact a0, by rw [n _ (by omega)]; exact a1, by rw [n _ (by omega)]; exact a2, by rw [n _ (by omega)]; exact a3, by rw [n _ (by omega)]; exact a4, (by
      show upd r.vm k0 v k = upd w p v (0 + 87 + 10 * k + 5)
      rw [un c, n _ (by omega)]
      exact a5), by rw [n _ (by omega)]; exact a6, by rw [n _ (by omega)]; exact a7, by rw [n _ (by omega)]; exact a8, by rw [n _ (by omega)]; exact a9⟩), ⟨by rw [n _ (by omega)]; exact g1, by rw [n _ (by omega)]; exact g2, by rw [n _ (by omega)]; exact g3, by rw [n _ (by omega)]; exact g4, by rw [n _ (by omega)]; exact g5, by rw [n _ (by omega)]; exact g6, by rw [n _ (by omega)]; exact g7, by rw [n _ (by omega)]; exact g8, by rw [n _ (by omega)]; exact g9⟩⟩
theorem SR.set_vp {r : xR} {w : Nat → Int32} {k0 : Nat} {p : Nat} {v : Int32} (h : SR r w 0) (h12 : rN w 0 ≤ 12) (hk0 : k0 < 6) (hp : p = 87 + 10 * k0 + 6) : SR (r.set_vp (upd r.vp k0 v)) (upd w p v) 0 := by
  have n : ∀ q, q ≠ p → upd w p v q = w q := fun q hq => un hq
  obtain ⟨h1, h2, h3, h4, ⟨h5, h6, h7⟩, h8, h9, ⟨g1, g2, g3, g4, g5, g6, g7, g8, g9⟩⟩ := h
  have hn : rN (upd w p v) 0 = rN w 0 := by unfold rN; rw [n _ (by omega)]
  exact ⟨fun k hk => by rw [n _ (by omega)]; exact h1 k hk, fun k hk => by rw [n _ (by omega)]; exact h2 k hk, fun k hk => by rw [n _ (by omega)]; exact h3 k hk, fun k hk => by rw [n _ (by omega)]; exact h4 k hk, ⟨by rw [n _ (by omega)]; exact h5, by rw [n _ (by omega)]; exact h6, by rw [n _ (by omega)]; exact h7⟩, fun j hj => (by
    rw [hn] at hj
    rw [n _ (by omega), n _ (by omega), n _ (by omega), n _ (by omega), n _ (by omega)]
    exact h8 j hj), fun k hk => (by
    obtain ⟨a0, a1, a2, a3, a4, a5, a6, a7, a8, a9⟩ := h9 k hk
    by_cases c : k = k0
    · exact ⟨by rw [n _ (by omega)]; exact a0, by rw [n _ (by omega)]; exact a1, by rw [n _ (by omega)]; exact a2, by rw [n _ (by omega)]; exact a3, by rw [n _ (by omega)]; exact a4, by rw [n _ (by omega)]; exact a5, (by
      show upd r.vp k0 v k = upd w p v (0 + 87 + 10 * k + 6)
      rw [ue c, ue (by omega)]), by rw [n _ (by omega)]; exact a7, by rw [n _ (by omega)]; exact a8, by rw [n _ (by omega)]; exact a9⟩
    · exact ⟨by rw [n _ (by omega)]; exact a0, by rw [n _ (by omega)]; exact a1, by rw [n _ (by omega)]; exact a2, by rw [n _ (by omega)]; exact a3, by rw [n _ (by omega)]; exact a4, by rw [n _ (by omega)]; exact a5, (by
      show upd r.vp k0 v k = upd w p v (0 + 87 + 10 * k + 6)
      rw [un c, n _ (by omega)]
      exact a6), by rw [n _ (by omega)]; exact a7, by rw [n _ (by omega)]; exact a8, by rw [n _ (by omega)]; exact a9⟩), ⟨by rw [n _ (by omega)]; exact g1, by rw [n _ (by omega)]; exact g2, by rw [n _ (by omega)]; exact g3, by rw [n _ (by omega)]; exact g4, by rw [n _ (by omega)]; exact g5, by rw [n _ (by omega)]; exact g6, by rw [n _ (by omega)]; exact g7, by rw [n _ (by omega)]; exact g8, by rw [n _ (by omega)]; exact g9⟩⟩
theorem SR.set_vt {r : xR} {w : Nat → Int32} {k0 : Nat} {p : Nat} {v : Int32} (h : SR r w 0) (h12 : rN w 0 ≤ 12) (hk0 : k0 < 6) (hp : p = 87 + 10 * k0 + 7) : SR (r.set_vt (upd r.vt k0 v)) (upd w p v) 0 := by
  have n : ∀ q, q ≠ p → upd w p v q = w q := fun q hq => un hq
  obtain ⟨h1, h2, h3, h4, ⟨h5, h6, h7⟩, h8, h9, ⟨g1, g2, g3, g4, g5, g6, g7, g8, g9⟩⟩ := h
  have hn : rN (upd w p v) 0 = rN w 0 := by unfold rN; rw [n _ (by omega)]
  exact ⟨fun k hk => by rw [n _ (by omega)]; exact h1 k hk, fun k hk => by rw [n _ (by omega)]; exact h2 k hk, fun k hk => by rw [n _ (by omega)]; exact h3 k hk, fun k hk => by rw [n _ (by omega)]; exact h4 k hk, ⟨by rw [n _ (by omega)]; exact h5, by rw [n _ (by omega)]; exact h6, by rw [n _ (by omega)]; exact h7⟩, fun j hj => (by
    rw [hn] at hj
    rw [n _ (by omega), n _ (by omega), n _ (by omega), n _ (by omega), n _ (by omega)]
    exact h8 j hj), fun k hk => (by
    obtain ⟨a0, a1, a2, a3, a4, a5, a6, a7, a8, a9⟩ := h9 k hk
    by_cases c : k = k0
    · exact ⟨by rw [n _ (by omega)]; exact a0, by rw [n _ (by omega)]; exact a1, by rw [n _ (by omega)]; exact a2, by rw [n _ (by omega)]; exact a3, by rw [n _ (by omega)]; exact a4, by rw [n _ (by omega)]; exact a5, by rw [n _ (by omega)]; exact a6, (by
      show upd r.vt k0 v k = upd w p v (0 + 87 + 10 * k + 7)
      rw [ue c, ue (by omega)]), by rw [n _ (by omega)]; exact a8, by rw [n _ (by omega)]; exact a9⟩
    · exact ⟨by rw [n _ (by omega)]; exact a0, by rw [n _ (by omega)]; exact a1, by rw [n _ (by omega)]; exact a2, by rw [n _ (by omega)]; exact a3, by rw [n _ (by omega)]; exact a4, by rw [n _ (by omega)]; exact a5, by rw [n _ (by omega)]; exact a6, (by
      show upd r.vt k0 v k = upd w p v (0 + 87 + 10 * k + 7)
      rw [un c, n _ (by omega)]
      exact a7), by rw [n _ (by omega)]; exact a8, by rw [n _ (by omega)]; exact a9⟩), ⟨by rw [n _ (by omega)]; exact g1, by rw [n _ (by omega)]; exact g2, by rw [n _ (by omega)]; exact g3, by rw [n _ (by omega)]; exact g4, by rw [n _ (by omega)]; exact g5, by rw [n _ (by omega)]; exact g6, by rw [n _ (by omega)]; exact g7, by rw [n _ (by omega)]; exact g8, by rw [n _ (by omega)]; exact g9⟩⟩
theorem SR.set_va {r : xR} {w : Nat → Int32} {k0 : Nat} {p : Nat} {v : Int32} (h : SR r w 0) (h12 : rN w 0 ≤ 12) (hk0 : k0 < 6) (hp : p = 87 + 10 * k0 + 8) : SR (r.set_va (upd r.va k0 v)) (upd w p v) 0 := by
  have n : ∀ q, q ≠ p → upd w p v q = w q := fun q hq => un hq
  obtain ⟨h1, h2, h3, h4, ⟨h5, h6, h7⟩, h8, h9, ⟨g1, g2, g3, g4, g5, g6, g7, g8, g9⟩⟩ := h
  have hn : rN (upd w p v) 0 = rN w 0 := by unfold rN; rw [n _ (by omega)]
  exact ⟨fun k hk => by rw [n _ (by omega)]; exact h1 k hk, fun k hk => by rw [n _ (by omega)]; exact h2 k hk, fun k hk => by rw [n _ (by omega)]; exact h3 k hk, fun k hk => by rw [n _ (by omega)]; exact h4 k hk, ⟨by rw [n _ (by omega)]; exact h5, by rw [n _ (by omega)]; exact h6, by rw [n _ (by omega)]; exact h7⟩, fun j hj => (by
    rw [hn] at hj
    rw [n _ (by omega), n _ (by omega), n _ (by omega), n _ (by omega), n _ (by omega)]
    exact h8 j hj), fun k hk => (by
    obtain ⟨a0, a1, a2, a3, a4, a5, a6, a7, a8, a9⟩ := h9 k hk
    by_cases c : k = k0
    · exact ⟨by rw [n _ (by omega)]; exact a0, by rw [n _ (by omega)]; exact a1, by rw [n _ (by omega)]; exact a2, by rw [n _ (by omega)]; exact a3, by rw [n _ (by omega)]; exact a4, by rw [n _ (by omega)]; exact a5, by rw [n _ (by omega)]; exact a6, by rw [n _ (by omega)]; exact a7, (by
      show upd r.va k0 v k = upd w p v (0 + 87 + 10 * k + 8)
      rw [ue c, ue (by omega)]), by rw [n _ (by omega)]; exact a9⟩
    · exact ⟨by rw [n _ (by omega)]; exact a0, by rw [n _ (by omega)]; exact a1, by rw [n _ (by omega)]; exact a2, by rw [n _ (by omega)]; exact a3, by rw [n _ (by omega)]; exact a4, by rw [n _ (by omega)]; exact a5, by rw [n _ (by omega)]; exact a6, by rw [n _ (by omega)]; exact a7, (by
      show upd r.va k0 v k = upd w p v (0 + 87 + 10 * k + 8)
      rw [un c, n _ (by omega)]
      exact a8), by rw [n _ (by omega)]; exact a9⟩), ⟨by rw [n _ (by omega)]; exact g1, by rw [n _ (by omega)]; exact g2, by rw [n _ (by omega)]; exact g3, by rw [n _ (by omega)]; exact g4, by rw [n _ (by omega)]; exact g5, by rw [n _ (by omega)]; exact g6, by rw [n _ (by omega)]; exact g7, by rw [n _ (by omega)]; exact g8, by rw [n _ (by omega)]; exact g9⟩⟩
theorem SR.set_vw {r : xR} {w : Nat → Int32} {k0 : Nat} {p : Nat} {v : Int32} (h : SR r w 0) (h12 : rN w 0 ≤ 12) (hk0 : k0 < 6) (hp : p = 87 + 10 * k0 + 9) : SR (r.set_vw (upd r.vw k0 v)) (upd w p v) 0 := by
  have n : ∀ q, q ≠ p → upd w p v q = w q := fun q hq => un hq
  obtain ⟨h1, h2, h3, h4, ⟨h5, h6, h7⟩, h8, h9, ⟨g1, g2, g3, g4, g5, g6, g7, g8, g9⟩⟩ := h
  have hn : rN (upd w p v) 0 = rN w 0 := by unfold rN; rw [n _ (by omega)]
  exact ⟨fun k hk => by rw [n _ (by omega)]; exact h1 k hk, fun k hk => by rw [n _ (by omega)]; exact h2 k hk, fun k hk => by rw [n _ (by omega)]; exact h3 k hk, fun k hk => by rw [n _ (by omega)]; exact h4 k hk, ⟨by rw [n _ (by omega)]; exact h5, by rw [n _ (by omega)]; exact h6, by rw [n _ (by omega)]; exact h7⟩, fun j hj => (by
    rw [hn] at hj
    rw [n _ (by omega), n _ (by omega), n _ (by omega), n _ (by omega), n _ (by omega)]
    exact h8 j hj), fun k hk => (by
    obtain ⟨a0, a1, a2, a3, a4, a5, a6, a7, a8, a9⟩ := h9 k hk
    by_cases c : k = k0
    · exact ⟨by rw [n _ (by omega)]; exact a0, by rw [n _ (by omega)]; exact a1, by rw [n _ (by omega)]; exact a2, by rw [n _ (by omega)]; exact a3, by rw [n _ (by omega)]; exact a4, by rw [n _ (by omega)]; exact a5, by rw [n _ (by omega)]; exact a6, by rw [n _ (by omega)]; exact a7, by rw [n _ (by omega)]; exact a8, (by
      show upd r.vw k0 v k = upd w p v (0 + 87 + 10 * k + 9)
      rw [ue c, ue (by omega)])⟩
    · exact ⟨by rw [n _ (by omega)]; exact a0, by rw [n _ (by omega)]; exact a1, by rw [n _ (by omega)]; exact a2, by rw [n _ (by omega)]; exact a3, by rw [n _ (by omega)]; exact a4, by rw [n _ (by omega)]; exact a5, by rw [n _ (by omega)]; exact a6, by rw [n _ (by omega)]; exact a7, by rw [n _ (by omega)]; exact a8, (by
      show upd r.vw k0 v k = upd w p v (0 + 87 + 10 * k + 9)
      rw [un c, n _ (by omega)]
      exact a9)⟩), ⟨by rw [n _ (by omega)]; exact g1, by rw [n _ (by omega)]; exact g2, by rw [n _ (by omega)]; exact g3, by rw [n _ (by omega)]; exact g4, by rw [n _ (by omega)]; exact g5, by rw [n _ (by omega)]; exact g6, by rw [n _ (by omega)]; exact g7, by rw [n _ (by omega)]; exact g8, by rw [n _ (by omega)]; exact g9⟩⟩
theorem SR.set_jd {r : xR} {w : Nat → Int32} {p : Nat} {v : Int32} (h : SR r w 0) (h12 : rN w 0 ≤ 12) (hp : p = 147) : SR (r.set_jd v) (upd w p v) 0 := by
  have n : ∀ q, q ≠ p → upd w p v q = w q := fun q hq => un hq
  obtain ⟨h1, h2, h3, h4, ⟨h5, h6, h7⟩, h8, h9, ⟨g1, g2, g3, g4, g5, g6, g7, g8, g9⟩⟩ := h
  have hn : rN (upd w p v) 0 = rN w 0 := by unfold rN; rw [n _ (by omega)]
  exact ⟨fun k hk => by rw [n _ (by omega)]; exact h1 k hk, fun k hk => by rw [n _ (by omega)]; exact h2 k hk, fun k hk => by rw [n _ (by omega)]; exact h3 k hk, fun k hk => by rw [n _ (by omega)]; exact h4 k hk, ⟨by rw [n _ (by omega)]; exact h5, by rw [n _ (by omega)]; exact h6, by rw [n _ (by omega)]; exact h7⟩, fun j hj => (by
    rw [hn] at hj
    rw [n _ (by omega), n _ (by omega), n _ (by omega), n _ (by omega), n _ (by omega)]
    exact h8 j hj), fun k hk => (by
    rw [n _ (by omega), n _ (by omega), n _ (by omega), n _ (by omega), n _ (by omega), n _ (by omega), n _ (by omega), n _ (by omega), n _ (by omega), n _ (by omega)]
    exact h9 k hk), ⟨(show v = upd w p v (0 + 147) from (ue (by omega)).symm), by rw [n _ (by omega)]; exact g2, by rw [n _ (by omega)]; exact g3, by rw [n _ (by omega)]; exact g4, by rw [n _ (by omega)]; exact g5, by rw [n _ (by omega)]; exact g6, by rw [n _ (by omega)]; exact g7, by rw [n _ (by omega)]; exact g8, by rw [n _ (by omega)]; exact g9⟩⟩
theorem SR.set_jb {r : xR} {w : Nat → Int32} {p : Nat} {v : Int32} (h : SR r w 0) (h12 : rN w 0 ≤ 12) (hp : p = 148) : SR (r.set_jb v) (upd w p v) 0 := by
  have n : ∀ q, q ≠ p → upd w p v q = w q := fun q hq => un hq
  obtain ⟨h1, h2, h3, h4, ⟨h5, h6, h7⟩, h8, h9, ⟨g1, g2, g3, g4, g5, g6, g7, g8, g9⟩⟩ := h
  have hn : rN (upd w p v) 0 = rN w 0 := by unfold rN; rw [n _ (by omega)]
  exact ⟨fun k hk => by rw [n _ (by omega)]; exact h1 k hk, fun k hk => by rw [n _ (by omega)]; exact h2 k hk, fun k hk => by rw [n _ (by omega)]; exact h3 k hk, fun k hk => by rw [n _ (by omega)]; exact h4 k hk, ⟨by rw [n _ (by omega)]; exact h5, by rw [n _ (by omega)]; exact h6, by rw [n _ (by omega)]; exact h7⟩, fun j hj => (by
    rw [hn] at hj
    rw [n _ (by omega), n _ (by omega), n _ (by omega), n _ (by omega), n _ (by omega)]
    exact h8 j hj), fun k hk => (by
    rw [n _ (by omega), n _ (by omega), n _ (by omega), n _ (by omega), n _ (by omega), n _ (by omega), n _ (by omega), n _ (by omega), n _ (by omega), n _ (by omega)]
    exact h9 k hk), ⟨by rw [n _ (by omega)]; exact g1, (show v = upd w p v (0 + 148) from (ue (by omega)).symm), by rw [n _ (by omega)]; exact g3, by rw [n _ (by omega)]; exact g4, by rw [n _ (by omega)]; exact g5, by rw [n _ (by omega)]; exact g6, by rw [n _ (by omega)]; exact g7, by rw [n _ (by omega)]; exact g8, by rw [n _ (by omega)]; exact g9⟩⟩
theorem SR.set_jc {r : xR} {w : Nat → Int32} {p : Nat} {v : Int32} (h : SR r w 0) (h12 : rN w 0 ≤ 12) (hp : p = 149) : SR (r.set_jc v) (upd w p v) 0 := by
  have n : ∀ q, q ≠ p → upd w p v q = w q := fun q hq => un hq
  obtain ⟨h1, h2, h3, h4, ⟨h5, h6, h7⟩, h8, h9, ⟨g1, g2, g3, g4, g5, g6, g7, g8, g9⟩⟩ := h
  have hn : rN (upd w p v) 0 = rN w 0 := by unfold rN; rw [n _ (by omega)]
  exact ⟨fun k hk => by rw [n _ (by omega)]; exact h1 k hk, fun k hk => by rw [n _ (by omega)]; exact h2 k hk, fun k hk => by rw [n _ (by omega)]; exact h3 k hk, fun k hk => by rw [n _ (by omega)]; exact h4 k hk, ⟨by rw [n _ (by omega)]; exact h5, by rw [n _ (by omega)]; exact h6, by rw [n _ (by omega)]; exact h7⟩, fun j hj => (by
    rw [hn] at hj
    rw [n _ (by omega), n _ (by omega), n _ (by omega), n _ (by omega), n _ (by omega)]
    exact h8 j hj), fun k hk => (by
    rw [n _ (by omega), n _ (by omega), n _ (by omega), n _ (by omega), n _ (by omega), n _ (by omega), n _ (by omega), n _ (by omega), n _ (by omega), n _ (by omega)]
    exact h9 k hk), ⟨by rw [n _ (by omega)]; exact g1, by rw [n _ (by omega)]; exact g2, (show v = upd w p v (0 + 149) from (ue (by omega)).symm), by rw [n _ (by omega)]; exact g4, by rw [n _ (by omega)]; exact g5, by rw [n _ (by omega)]; exact g6, by rw [n _ (by omega)]; exact g7, by rw [n _ (by omega)]; exact g8, by rw [n _ (by omega)]; exact g9⟩⟩
theorem SR.set_js {r : xR} {w : Nat → Int32} {p : Nat} {v : Int32} (h : SR r w 0) (h12 : rN w 0 ≤ 12) (hp : p = 150) : SR (r.set_js v) (upd w p v) 0 := by
  have n : ∀ q, q ≠ p → upd w p v q = w q := fun q hq => un hq
  obtain ⟨h1, h2, h3, h4, ⟨h5, h6, h7⟩, h8, h9, ⟨g1, g2, g3, g4, g5, g6, g7, g8, g9⟩⟩ := h
  have hn : rN (upd w p v) 0 = rN w 0 := by unfold rN; rw [n _ (by omega)]
  exact ⟨fun k hk => by rw [n _ (by omega)]; exact h1 k hk, fun k hk => by rw [n _ (by omega)]; exact h2 k hk, fun k hk => by rw [n _ (by omega)]; exact h3 k hk, fun k hk => by rw [n _ (by omega)]; exact h4 k hk, ⟨by rw [n _ (by omega)]; exact h5, by rw [n _ (by omega)]; exact h6, by rw [n _ (by omega)]; exact h7⟩, fun j hj => (by
    rw [hn] at hj
    rw [n _ (by omega), n _ (by omega), n _ (by omega), n _ (by omega), n _ (by omega)]
    exact h8 j hj), fun k hk => (by
    rw [n _ (by omega), n _ (by omega), n _ (by omega), n _ (by omega), n _ (by omega), n _ (by omega), n _ (by omega), n _ (by omega), n _ (by omega), n _ (by omega)]
    exact h9 k hk), ⟨by rw [n _ (by omega)]; exact g1, by rw [n _ (by omega)]; exact g2, by rw [n _ (by omega)]; exact g3, (show v = upd w p v (0 + 150) from (ue (by omega)).symm), by rw [n _ (by omega)]; exact g5, by rw [n _ (by omega)]; exact g6, by rw [n _ (by omega)]; exact g7, by rw [n _ (by omega)]; exact g8, by rw [n _ (by omega)]; exact g9⟩⟩
theorem SR.set_jl {r : xR} {w : Nat → Int32} {p : Nat} {v : Int32} (h : SR r w 0) (h12 : rN w 0 ≤ 12) (hp : p = 151) : SR (r.set_jl v) (upd w p v) 0 := by
  have n : ∀ q, q ≠ p → upd w p v q = w q := fun q hq => un hq
  obtain ⟨h1, h2, h3, h4, ⟨h5, h6, h7⟩, h8, h9, ⟨g1, g2, g3, g4, g5, g6, g7, g8, g9⟩⟩ := h
  have hn : rN (upd w p v) 0 = rN w 0 := by unfold rN; rw [n _ (by omega)]
  exact ⟨fun k hk => by rw [n _ (by omega)]; exact h1 k hk, fun k hk => by rw [n _ (by omega)]; exact h2 k hk, fun k hk => by rw [n _ (by omega)]; exact h3 k hk, fun k hk => by rw [n _ (by omega)]; exact h4 k hk, ⟨by rw [n _ (by omega)]; exact h5, by rw [n _ (by omega)]; exact h6, by rw [n _ (by omega)]; exact h7⟩, fun j hj => (by
    rw [hn] at hj
    rw [n _ (by omega), n _ (by omega), n _ (by omega), n _ (by omega), n _ (by omega)]
    exact h8 j hj), fun k hk => (by
    rw [n _ (by omega), n _ (by omega), n _ (by omega), n _ (by omega), n _ (by omega), n _ (by omega), n _ (by omega), n _ (by omega), n _ (by omega), n _ (by omega)]
    exact h9 k hk), ⟨by rw [n _ (by omega)]; exact g1, by rw [n _ (by omega)]; exact g2, by rw [n _ (by omega)]; exact g3, by rw [n _ (by omega)]; exact g4, (show v = upd w p v (0 + 151) from (ue (by omega)).symm), by rw [n _ (by omega)]; exact g6, by rw [n _ (by omega)]; exact g7, by rw [n _ (by omega)]; exact g8, by rw [n _ (by omega)]; exact g9⟩⟩
theorem SR.set_jx {r : xR} {w : Nat → Int32} {p : Nat} {v : Int32} (h : SR r w 0) (h12 : rN w 0 ≤ 12) (hp : p = 152) : SR (r.set_jx v) (upd w p v) 0 := by
  have n : ∀ q, q ≠ p → upd w p v q = w q := fun q hq => un hq
  obtain ⟨h1, h2, h3, h4, ⟨h5, h6, h7⟩, h8, h9, ⟨g1, g2, g3, g4, g5, g6, g7, g8, g9⟩⟩ := h
  have hn : rN (upd w p v) 0 = rN w 0 := by unfold rN; rw [n _ (by omega)]
  exact ⟨fun k hk => by rw [n _ (by omega)]; exact h1 k hk, fun k hk => by rw [n _ (by omega)]; exact h2 k hk, fun k hk => by rw [n _ (by omega)]; exact h3 k hk, fun k hk => by rw [n _ (by omega)]; exact h4 k hk, ⟨by rw [n _ (by omega)]; exact h5, by rw [n _ (by omega)]; exact h6, by rw [n _ (by omega)]; exact h7⟩, fun j hj => (by
    rw [hn] at hj
    rw [n _ (by omega), n _ (by omega), n _ (by omega), n _ (by omega), n _ (by omega)]
    exact h8 j hj), fun k hk => (by
    rw [n _ (by omega), n _ (by omega), n _ (by omega), n _ (by omega), n _ (by omega), n _ (by omega), n _ (by omega), n _ (by omega), n _ (by omega), n _ (by omega)]
    exact h9 k hk), ⟨by rw [n _ (by omega)]; exact g1, by rw [n _ (by omega)]; exact g2, by rw [n _ (by omega)]; exact g3, by rw [n _ (by omega)]; exact g4, by rw [n _ (by omega)]; exact g5, (show v = upd w p v (0 + 152) from (ue (by omega)).symm), by rw [n _ (by omega)]; exact g7, by rw [n _ (by omega)]; exact g8, by rw [n _ (by omega)]; exact g9⟩⟩
theorem SR.set_ji {r : xR} {w : Nat → Int32} {p : Nat} {v : Int32} (h : SR r w 0) (h12 : rN w 0 ≤ 12) (hp : p = 153) : SR (r.set_ji v) (upd w p v) 0 := by
  have n : ∀ q, q ≠ p → upd w p v q = w q := fun q hq => un hq
  obtain ⟨h1, h2, h3, h4, ⟨h5, h6, h7⟩, h8, h9, ⟨g1, g2, g3, g4, g5, g6, g7, g8, g9⟩⟩ := h
  have hn : rN (upd w p v) 0 = rN w 0 := by unfold rN; rw [n _ (by omega)]
  exact ⟨fun k hk => by rw [n _ (by omega)]; exact h1 k hk, fun k hk => by rw [n _ (by omega)]; exact h2 k hk, fun k hk => by rw [n _ (by omega)]; exact h3 k hk, fun k hk => by rw [n _ (by omega)]; exact h4 k hk, ⟨by rw [n _ (by omega)]; exact h5, by rw [n _ (by omega)]; exact h6, by rw [n _ (by omega)]; exact h7⟩, fun j hj => (by
    rw [hn] at hj
    rw [n _ (by omega), n _ (by omega), n _ (by omega), n _ (by omega), n _ (by omega)]
    exact h8 j hj), fun k hk => (by
    rw [n _ (by omega), n _ (by omega), n _ (by omega), n _ (by omega), n _ (by omega), n _ (by omega), n _ (by omega), n _ (by omega), n _ (by omega), n _ (by omega)]
    exact h9 k hk), ⟨by rw [n _ (by omega)]; exact g1, by rw [n _ (by omega)]; exact g2, by rw [n _ (by omega)]; exact g3, by rw [n _ (by omega)]; exact g4, by rw [n _ (by omega)]; exact g5, by rw [n _ (by omega)]; exact g6, (show v = upd w p v (0 + 153) from (ue (by omega)).symm), by rw [n _ (by omega)]; exact g8, by rw [n _ (by omega)]; exact g9⟩⟩
theorem SR.set_jn {r : xR} {w : Nat → Int32} {p : Nat} {v : Int32} (h : SR r w 0) (h12 : rN w 0 ≤ 12) (hp : p = 154) : SR (r.set_jn v) (upd w p v) 0 := by
  have n : ∀ q, q ≠ p → upd w p v q = w q := fun q hq => un hq
  obtain ⟨h1, h2, h3, h4, ⟨h5, h6, h7⟩, h8, h9, ⟨g1, g2, g3, g4, g5, g6, g7, g8, g9⟩⟩ := h
  have hn : rN (upd w p v) 0 = rN w 0 := by unfold rN; rw [n _ (by omega)]
  exact ⟨fun k hk => by rw [n _ (by omega)]; exact h1 k hk, fun k hk => by rw [n _ (by omega)]; exact h2 k hk, fun k hk => by rw [n _ (by omega)]; exact h3 k hk, fun k hk => by rw [n _ (by omega)]; exact h4 k hk, ⟨by rw [n _ (by omega)]; exact h5, by rw [n _ (by omega)]; exact h6, by rw [n _ (by omega)]; exact h7⟩, fun j hj => (by
    rw [hn] at hj
    rw [n _ (by omega), n _ (by omega), n _ (by omega), n _ (by omega), n _ (by omega)]
    exact h8 j hj), fun k hk => (by
    rw [n _ (by omega), n _ (by omega), n _ (by omega), n _ (by omega), n _ (by omega), n _ (by omega), n _ (by omega), n _ (by omega), n _ (by omega), n _ (by omega)]
    exact h9 k hk), ⟨by rw [n _ (by omega)]; exact g1, by rw [n _ (by omega)]; exact g2, by rw [n _ (by omega)]; exact g3, by rw [n _ (by omega)]; exact g4, by rw [n _ (by omega)]; exact g5, by rw [n _ (by omega)]; exact g6, by rw [n _ (by omega)]; exact g7, (show v = upd w p v (0 + 154) from (ue (by omega)).symm), by rw [n _ (by omega)]; exact g9⟩⟩
theorem SR.set_jf {r : xR} {w : Nat → Int32} {p : Nat} {v : Int32} (h : SR r w 0) (h12 : rN w 0 ≤ 12) (hp : p = 155) : SR (r.set_jf v) (upd w p v) 0 := by
  have n : ∀ q, q ≠ p → upd w p v q = w q := fun q hq => un hq
  obtain ⟨h1, h2, h3, h4, ⟨h5, h6, h7⟩, h8, h9, ⟨g1, g2, g3, g4, g5, g6, g7, g8, g9⟩⟩ := h
  have hn : rN (upd w p v) 0 = rN w 0 := by unfold rN; rw [n _ (by omega)]
  exact ⟨fun k hk => by rw [n _ (by omega)]; exact h1 k hk, fun k hk => by rw [n _ (by omega)]; exact h2 k hk, fun k hk => by rw [n _ (by omega)]; exact h3 k hk, fun k hk => by rw [n _ (by omega)]; exact h4 k hk, ⟨by rw [n _ (by omega)]; exact h5, by rw [n _ (by omega)]; exact h6, by rw [n _ (by omega)]; exact h7⟩, fun j hj => (by
    rw [hn] at hj
    rw [n _ (by omega), n _ (by omega), n _ (by omega), n _ (by omega), n _ (by omega)]
    exact h8 j hj), fun k hk => (by
    rw [n _ (by omega), n _ (by omega), n _ (by omega), n _ (by omega), n _ (by omega), n _ (by omega), n _ (by omega), n _ (by omega), n _ (by omega), n _ (by omega)]
    exact h9 k hk), ⟨by rw [n _ (by omega)]; exact g1, by rw [n _ (by omega)]; exact g2, by rw [n _ (by omega)]; exact g3, by rw [n _ (by omega)]; exact g4, by rw [n _ (by omega)]; exact g5, by rw [n _ (by omega)]; exact g6, by rw [n _ (by omega)]; exact g7, by rw [n _ (by omega)]; exact g8, (show v = upd w p v (0 + 155) from (ue (by omega)).symm)⟩⟩
/-- a write that no bound forbids -/
theorem VB.set {w : Nat → Int32} {p : Nat} {v : Int32} (h : VB w 0) (h26 : p < 26 ∨ 87 ≤ p) (h24 : p = 24 → v = 0 ∨ v = 1) (h25 : p = 25 → v = 0 ∨ v = 1) (h155 : p = 155 → v = 0 ∨ v = 1) (h148 : p = 148 → 0 ≤ v)
    (hs : ∀ k, k < 6 → (p = 87 + 10 * k + 0 → v = 0 ∨ v = 1) ∧ (p = 87 + 10 * k + 2 → -150 ≤ v ∧ v ≤ 0) ∧ (p = 87 + 10 * k + 3 → 0 ≤ v ∧ v ≤ 150) ∧ (p = 87 + 10 * k + 4 → 1 ≤ v) ∧ (p = 87 + 10 * k + 7 → -150 ≤ v ∧ v ≤ 150) ∧ (p = 87 + 10 * k + 8 → -150 ≤ v ∧ v ≤ 150)) : VB (upd w p v) 0 := by
  have n : ∀ q, q ≠ p → upd w p v q = w q := fun q hq => un hq
  have b : ∀ (q : Nat) (P : Int32 → Prop), P (w q) → (p = q → P v) → P (upd w p v q) := fun q P h1 h2 => by
    by_cases c : q = p
    · rw [ue c]; exact h2 c.symm
    · rw [un c]; exact h1
  obtain ⟨⟨o1, o2, o3, o4⟩, g1, g2, g3, g4, g5⟩ := h
  have hn : rN (upd w p v) 0 = rN w 0 := by unfold rN; rw [n _ (by omega)]
  refine ⟨⟨by rw [hn, n _ (by omega)]; exact o1, by rw [hn]; exact o2, b _ (fun x => x = 0 ∨ x = 1) o3 (fun e => h24 (by omega)), fun j hj => ?_⟩, b _ (fun x => x = 0 ∨ x = 1) g1 (fun e => h25 (by omega)), b _ (fun x => x = 0 ∨ x = 1) g2 (fun e => h155 (by omega)), b _ (fun x => 0 ≤ x) g3 (fun e => h148 (by omega)), fun j hj => ?_, fun k hk => ?_⟩
  · rw [hn] at hj
    unfold rS
    rw [n _ (by omega)]
    exact o4 j hj
  · rw [hn] at hj
    rw [n _ (by omega), n _ (by omega), n _ (by omega)]
    exact g4 j hj
  · obtain ⟨s0, s2, s3, s4, s7, s8⟩ := g5 k hk
    obtain ⟨z0, z2, z3, z4, z7, z8⟩ := hs k hk
    exact ⟨b _ (fun x => x = 0 ∨ x = 1) s0 (fun e => z0 (by omega)), b _ (fun x => -150 ≤ x ∧ x ≤ 0) s2 (fun e => z2 (by omega)), b _ (fun x => 0 ≤ x ∧ x ≤ 150) s3 (fun e => z3 (by omega)), b _ (fun x => 1 ≤ x) s4 (fun e => z4 (by omega)), b _ (fun x => -150 ≤ x ∧ x ≤ 150) s7 (fun e => z7 (by omega)), b _ (fun x => -150 ≤ x ∧ x ≤ 150) s8 (fun e => z8 (by omega))⟩
