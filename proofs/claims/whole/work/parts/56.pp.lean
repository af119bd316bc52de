/-- one command done -/
theorem ex_eq {r : xR} {w : Nat → Int32} (h : RS r w 0) (dm : Nat → Int32) {q : xQ} {le sk nu : Int32} (e1 : q.2.1 = le) (e2 : (le = 115 ∨ le = 116) → q.2.2.1 = sk) (e3 : ¬ le = 99 → ¬ le = 114 → sp_X0_signedNumber q.2.2.2.2.1 q.2.2.2.2.2 = nu) (hd : dOk le sk nu) : RS (exS r q) (sp_X7_does_s w dm le sk nu) 0 ∧ exV r q = sp_X7_does w dm le nu ∧ ∀ p, 156 ≤ p → sp_X7_does_s w dm le sk nu p = w p := by
  obtain ⟨a, b, c, d, e, f⟩ := q
  have e1 : b = le := e1
  subst e1
  have e2 : (b = 115 ∨ b = 116) → c = sk := e2
  have e3 : ¬ b = 99 → ¬ b = 114 → sp_X0_signedNumber e f = nu := e3
  unfold exS exV exR sp_X7_does_s sp_X7_does
  simp only [sp_X6_executeCommand_kp, sp_X6_executeCommand_kt, sp_X6_executeCommand_kh, sp_X6_executeCommand_kc, sp_X6_executeCommand_vt, sp_X6_executeCommand_va, sp_X6_executeCommand_vw, sp_X6_executeCommand_jb, sp_X6_executeCommand_js, sp_X6_executeCommand_jl, sp_X6_executeCommand_jx, sp_X6_executeCommand_ji, sp_X6_executeCommand_jf, sp_X6_executeCommand_jn, sp_X6_executeCommand_dq, sp_X6_executeCommand]
  by_cases h99 : b = 99
  · simp only [if_pos h99]
    have hv : (if r.kc = 0 then (1 : Int32) else 0) = 1 - w 25 := by
      have g : r.kc = w 25 := h.1.2.2.2.2.1.2.1
      have g2 : w 25 = 0 ∨ w 25 = 1 := h.2.2.1
      rw [g]
      rcases g2 with q | q <;> rw [q] <;> decide
    have hb : (1 - w 25 : Int32) = 0 ∨ (1 - w 25 : Int32) = 1 := by
      have g2 : w 25 = 0 ∨ w 25 = 1 := h.2.2.1
      rcases g2 with q | q <;> rw [q] <;> decide
    have d : RS (r.set_kc (1 - w 25)) (upd w 25 (1 - w 25)) 0 := ⟨h.1.set_kc h.2.1.2.1 rfl, h.2.set (by omega) (by omega) (fun _ => hb) (by omega) (by omega) (fun k hk => by omega)⟩
    rw [hv]
    exact ⟨d, trivial, fun p hp => un (by omega)⟩
  · simp only [if_neg h99]
    by_cases h114 : b = 114
    · simp only [if_pos h114]
      have h15 : ¬ b = 115 := by rw [h114]; decide
      have h16 : ¬ b = 116 := by rw [h114]; decide
      have hv : (if r.kh = 0 then (1 : Int32) else 0) = 1 - w 24 := by
        have g : r.kh = w 24 := h.1.2.2.2.2.1.1
        have g2 : w 24 = 0 ∨ w 24 = 1 := h.2.1.2.2.1
        rw [g]
        rcases g2 with q | q <;> rw [q] <;> decide
      have hb : (1 - w 24 : Int32) = 0 ∨ (1 - w 24 : Int32) = 1 := by
        have g2 : w 24 = 0 ∨ w 24 = 1 := h.2.1.2.2.1
        rcases g2 with q | q <;> rw [q] <;> decide
      have d : RS (r.set_kh (1 - w 24)) (upd w 24 (1 - w 24)) 0 := ⟨h.1.set_kh h.2.1.2.1 rfl, h.2.set (by omega) (fun _ => hb) (by omega) (by omega) (by omega) (fun k hk => by omega)⟩
      rw [hv]
      exact ⟨d, trivial, fun p hp => un (by omega)⟩
    · simp only [if_neg h114]
      rw [e3 h99 h114]
      by_cases h115 : b = 115
      · simp only [if_pos h115]
        obtain ⟨s1, s2⟩ := hd.1 (Or.inl h115)
        have h16 : ¬ b = 116 := by rw [h115]; decide
        rw [e2 (Or.inl h115)]
        exact ⟨⟨h.1.set_kp h.2.1.2.1 s2 rfl, h.2.free (Or.inl (by omega))⟩, trivial, fun p hp => un (by omega)⟩
      · simp only [if_neg h115]
        by_cases h116 : b = 116
        · simp only [if_pos h116]
          obtain ⟨s1, s2⟩ := hd.1 (Or.inr h116)
          rw [e2 (Or.inr h116)]
          have hp : slN r.kh sk.toNatClampNeg = 4 * (w 24).toNatClampNeg + sk.toNatClampNeg := slN_eq h _
          have hb : (w 24).toNatClampNeg ≤ 1 := slN_b h
          exact ⟨⟨h.1.set_kt h.2.1.2.1 (by omega) (by omega), h.2.free (Or.inl (by omega))⟩, trivial, fun p hp => un (by omega)⟩
        · simp only [if_neg h116, sp_X4_transmit, sp_X4_transmit_vt, sp_X4_transmit_va, sp_X4_transmit_vw, sp_X4_transmit_jb, sp_X4_transmit_js, sp_X4_transmit_jl, sp_X4_transmit_jx, sp_X4_transmit_ji, sp_X4_transmit_jf, sp_X4_transmit_jn]
          obtain ⟨hA, hB⟩ := trs_RS h dm (if b = 102 then (1 : Int32) else 0) (nu.toNatClampNeg + 0)
          exact ⟨hA.dq_c _, hB, fun p hp => fs_hi _ _ _ _ hp _⟩
theorem fer_s {tx : Nat → Int32} {N : Nat} (hN : N ≤ 60) {i : Nat} (hi : i < N) (q : xQ) (f : Nat) : (sp_fer (nI N) tx (f + 1) (nI i) q.1 q.2.1 q.2.2.1 q.2.2.2.1 q.2.2.2.2.1 q.2.2.2.2.2) = (if tkQ q (tx i) = 0 then (nI i, nI i, rdT q (tx i)) else (sp_fer (nI N) tx f (nI (i + 1)) (rdT q (tx i)).1 (rdT q (tx i)).2.1 (rdT q (tx i)).2.2.1 (rdT q (tx i)).2.2.2.1 (rdT q (tx i)).2.2.2.2.1 (rdT q (tx i)).2.2.2.2.2)) := by
  simp only [sp_fer]
  rw [if_neg (show ¬ nI N ≤ nI i from fun q => by have := (nI_leI (by omega) (by omega)).mp q; omega), nI_clamp (by omega), nI_1]
  rfl
theorem fer_e {tx : Nat → Int32} {N : Nat} (q : xQ) (f : Nat) : (sp_fer (nI N) tx (f + 1) (nI N) q.1 q.2.1 q.2.2.1 q.2.2.2.1 q.2.2.2.2.1 q.2.2.2.2.2) = (nI N, nI N, q) := by
  simp only [sp_fer]
  rw [if_pos (Int32.le_refl _)]
theorem fer_w {tx : Nat → Int32} {N : Nat} (hN : N ≤ 60) (q' : xQ) (f : Nat) : ∀ n i q, WK tx n i q q' → i + n ≤ N → (sp_fer (nI N) tx (f + n) (nI i) q.1 q.2.1 q.2.2.1 q.2.2.2.1 q.2.2.2.2.1 q.2.2.2.2.2) = (sp_fer (nI N) tx f (nI (i + n)) q'.1 q'.2.1 q'.2.2.1 q'.2.2.2.1 q'.2.2.2.2.1 q'.2.2.2.2.2)
  | 0, i, q, h, _ => by
    have h : q = q' := h
    rw [h]
    rfl
  | n + 1, i, q, h, hn => by
    obtain ⟨h1, h2, h3⟩ := h
    have e := fer_s (tx := tx) hN (i := i) (by omega) q (f + n)
    rw [if_neg h1, fer_w hN q' f n (i + 1) _ h3 (by omega), show i + 1 + n = i + (n + 1) from by omega] at e
    exact e
theorem at_end (x : Int32) : (x = 5 ∨ x = 6) ↔ ¬ sp_X0_isAtCommandEnd x = 0 := by
  unfold sp_X0_isAtCommandEnd
  by_cases h : x = 5
  · rw [if_pos h]; exact ⟨fun _ => by decide, fun _ => Or.inl h⟩
  · rw [if_neg h]
    by_cases h2 : x = 6
    · rw [if_pos h2]; exact ⟨fun _ => by decide, fun _ => Or.inr h2⟩
    · rw [if_neg h2]; exact ⟨fun q => absurd q (by rintro (q | q); exact h q; exact h2 q), fun q => absurd rfl q⟩
theorem sep_q {q : xQ} (h : q.1 = 5 ∨ q.1 = 6) : ¬ tkQ q 59 = 0 ∧ rdT q 59 = (0, q.2.1, q.2.2.1, q.2.2.2.1, 0, 0) := by
  obtain ⟨a, b, c, d, e, f⟩ := q
  rcases h with h | h
  · have h : a = 5 := h
    subst h
    exact ⟨by rw [tks5]; decide, rts5 _ _ _ _ _⟩
  · have h : a = 6 := h
    subst h
    exact ⟨by rw [tks6]; decide, rts6 _ _ _ _ _⟩
theorem p_lt {N p : Nat} (hN : N ≤ 60) (hp : p < N) : nI p < nI N := (nI_ltI (by omega) (by omega)).mpr hp
/-- both passes over the text find the same first error -/
theorem ferP {tx : Nat → Int32} {N : Nat} (hN : N ≤ 60) : ∀ fr i rl rs rm le sk nu fc, i ≤ N → N - i < fr → N - i < fc → (sp_fer (nI N) tx fc (nI i) 0 rl rs rm 0 0).1 = (sp_ipl tx (nI N) fr (nI i) le sk nu).2.1 ∧ ((¬ (sp_ipl tx (nI N) fr (nI i) le sk nu).1 = 0) ↔ (¬ (sp_fer (nI N) tx fc (nI i) 0 rl rs rm 0 0).1 < nI N ∧ ¬ sp_X0_isAtCommandEnd (sp_fer (nI N) tx fc (nI i) 0 rl rs rm 0 0).2.2.1 = 0))
  | 0, i, rl, rs, rm, le, sk, nu, fc, _, h, _ => absurd h (Nat.not_lt_zero _)
  | fr + 1, i, rl, rs, rm, le, sk, nu, fc, hi, hf, hc => by
    obtain ⟨p, q', n, ⟨hp, hw⟩, hpN, e, h⟩ := cmd_cm (tx := tx) hN hi rl rs rm sk nu
    have hG := fer_w hN q' (fc - n) n i _ hw (by omega)
    rw [show fc - n + n = fc from by omega, ← hp] at hG
    simp only [] at hG
    rw [hG]
    obtain ⟨f2, hf2⟩ : ∃ f2, fc - n = f2 + 1 := ⟨fc - n - 1, by omega⟩
    rw [hf2]
    simp only [sp_ipl]
    rw [e]
    have iN : nI p = nI N ↔ p = N := nI_eq (by omega) (by omega)
    rcases h with ⟨hR, h⟩ | ⟨hR, h1, h2, h3, h4, h5⟩
    · rw [if_pos hR]
      rcases h with ⟨a1, a2⟩ | ⟨a1, a2, a3⟩
      · rw [fer_s hN a1, if_pos a2]
        exact ⟨rfl, fun q => absurd rfl q, fun q => absurd (p_lt hN a1) q.1⟩
      · rw [a1, fer_e]
        exact ⟨rfl, fun q => absurd rfl q, fun q => absurd ((at_end _).mpr q.2) (by rintro (q | q); exact a2 q; exact a3 q)⟩
    · rw [if_neg hR]
      by_cases c : p = N
      · rw [if_pos (iN.mpr c), c, fer_e]
        exact ⟨rfl, fun _ => ⟨fun q => Int32.lt_irrefl q, (at_end _).mp h1⟩, fun _ => z10⟩
      · have hlt : p < N := by omega
        rw [if_neg (fun q => c (iN.mp q)), fer_s hN hlt]
        by_cases c2 : tx p = 59
        · obtain ⟨t1, t2⟩ := tp_yes (cc := 59) ((sg_lt hN hlt).trans c2)
          obtain ⟨s1, s2⟩ := sep_q h1
          rw [t1, t2, if_neg z10, c2, if_neg s1, s2, nI_1]
          have hlen : n ≤ N := by omega
          exact ferP hN fr (p + 1) _ _ _ _ _ _ f2 (by omega) (by omega) (by omega)
        · obtain ⟨t1, t2⟩ := tp_no (cc := 59) (fun q => c2 ((sg_lt hN hlt).symm.trans q))
          rw [t1, t2, if_pos rfl, if_pos (h5 hlt c2)]
          exact ⟨rfl, fun q => absurd rfl q, fun q => absurd (p_lt hN hlt) q.1⟩
theorem wk_rd {tx : Nat → Int32} (q0 : xQ) (r : xR) (q' : xQ) : ∀ n i q, WK tx n i q q' → rdI tx q0 i = q → rdI tx q0 (i + n) = q' ∧ ruN tx q0 r (i + n) = ruN tx q0 r i ∧ ∀ k, i ≤ k → k < i + n → ¬ tx k = 59
  | 0, i, q, h, e => by
    have h : q = q' := h
    exact ⟨e.trans h, rfl, fun k a b => by omega⟩
  | n + 1, i, q, h, e => by
    obtain ⟨h1, h2, h3⟩ := h
    have e1 : rdI tx q0 (i + 1) = rdT q (tx i) := by show rdT (rdI tx q0 i) (tx i) = _; rw [e]
    obtain ⟨a1, a2, a3⟩ := wk_rd q0 r q' n (i + 1) _ h3 e1
    have e2 : ruN tx q0 r (i + 1) = ruN tx q0 r i := by
      show (if tx i = 59 then _ else _) = _
      rw [if_neg h2]
    rw [show i + (n + 1) = i + 1 + n from by omega]
    refine ⟨a1, a2.trans e2, fun k k1 k2 => ?_⟩
    by_cases c : k = i
    · rw [c]; exact h2
    · exact a3 k (by omega) (by omega)
theorem rc_N {tx : Nat → Int32} {N : Nat} (hN : N ≤ 60) : sp_X7_readsCommand tx (nI N) (nI N) = 0 := by
  have hk : pOk (nI N) (nI N) := by
    have e : (nI N).toNatClampNeg = N := nI_clamp (by omega)
    exact ⟨by rw [e], by omega, by rw [e], Nat.le_refl _⟩
  obtain ⟨f1, f2, f3⟩ := rc_fact (tx := tx) hk
  refine Decidable.not_not.mp (fun q => ?_)
  have := f3 q
  have := f1.2.2.2
  omega
theorem run_N {tx : Nat → Int32} {N : Nat} (hN : N ≤ 60) (w dm : Nat → Int32) (acc le sk nu : Int32) : ∀ fr, (sp_run tx (nI N) fr w dm acc (nI N) le sk nu).1 = w ∧ (sp_run tx (nI N) fr w dm acc (nI N) le sk nu).2.2.1 = acc
  | 0 => ⟨rfl, rfl⟩
  | fr + 1 => by
    simp only [sp_run]
    rw [if_pos (rc_N hN)]
    exact ⟨rfl, rfl⟩
/-- the second pass over a text without an error -/
theorem ruP {tx : Nat → Int32} {N : Nat} (hN : N ≤ 60) (q0 : xQ) (r : xR) : ∀ fr i rl rs rm le sk nu le2 sk2 nu2 fr2, i ≤ N → N - i < fr → N - i < fr2 → rdI tx q0 i = (0, rl, rs, rm, 0, 0) → ¬ (sp_ipl tx (nI N) fr (nI i) le sk nu).1 = 0 → ((∀ k, i ≤ k → k < N → tx k = 59 → qOk (rdI tx q0 k)) ∧ qOk (rdI tx q0 N)) ∧ ∀ w dm, RS (ruN tx q0 r i).2 w 0 → RS (exS (ruN tx q0 r N).2 (rdI tx q0 N)) (sp_run tx (nI N) fr2 w dm (ruN tx q0 r i).1 (nI i) le2 sk2 nu2).1 0 ∧ (ruN tx q0 r N).1 + exV (ruN tx q0 r N).2 (rdI tx q0 N) = (sp_run tx (nI N) fr2 w dm (ruN tx q0 r i).1 (nI i) le2 sk2 nu2).2.2.1 ∧ ∀ p, 156 ≤ p → (sp_run tx (nI N) fr2 w dm (ruN tx q0 r i).1 (nI i) le2 sk2 nu2).1 p = w p
  | 0, _, _, _, _, _, _, _, _, _, _, _, _, h, _, _, _ => absurd h (Nat.not_lt_zero _)
  | fr + 1, i, rl, rs, rm, le, sk, nu, le2, sk2, nu2, 0, _, _, h, _, _ => absurd h (Nat.not_lt_zero _)
  | fr + 1, i, rl, rs, rm, le, sk, nu, le2, sk2, nu2, fr2 + 1, hi, hf, hf2, hq, hI => by
    obtain ⟨p, q', n, ⟨hp, hw⟩, hpN, e, h⟩ := cmd_cm (tx := tx) hN hi rl rs rm sk2 nu2
    obtain ⟨w1, w2, w3⟩ := wk_rd q0 r q' n i _ hw hq
    rw [← hp] at w1 w2 w3
    simp only [sp_ipl] at hI
    rw [e] at hI
    have iN : nI p = nI N ↔ p = N := nI_eq (by omega) (by omega)
    rcases h with ⟨hR, -⟩ | ⟨hR, h1, h2, h3, h4, h5⟩
    · rw [if_pos hR] at hI
      exact absurd rfl hI
    · rw [if_neg hR] at hI
      have hd := rc_dOk (sk := sk2) (nu := nu2) hR
      have hqk : qOk (rdI tx q0 p) := by
        rw [w1]
        unfold qOk
        rw [h2]
        exact ⟨fun a => by rw [h3 a]; exact hd.1 a, fun a b c d => by rw [h4 a b]; exact hd.2 a b c d⟩
      have hE : ∀ w dm, RS (ruN tx q0 r i).2 w 0 → _ := fun w dm hr => ex_eq hr dm h2 h3 h4 hd
      have hX : ∀ w dm, sp_run tx (nI N) (fr2 + 1) w dm (ruN tx q0 r i).1 (nI i) le2 sk2 nu2 = sp_run tx (nI N) fr2 (sp_X7_does_s w dm (sp_X7_sign tx (nI N) (nI i)) (sp_X7_readsCommand_sk tx (nI N) (nI i) sk2) (sp_X7_readsCommand_nu tx (nI N) (nI i) nu2)) (sp_X7_does_dm w dm (sp_X7_sign tx (nI N) (nI i)) (sp_X7_readsCommand_nu tx (nI N) (nI i) nu2)) ((ruN tx q0 r i).1 + sp_X7_does w dm (sp_X7_sign tx (nI N) (nI i)) (sp_X7_readsCommand_nu tx (nI N) (nI i) nu2)) (sp_X7_takes_pa tx (nI N) (nI p) 59) (sp_X7_sign tx (nI N) (nI i)) (sp_X7_readsCommand_sk tx (nI N) (nI i) sk2) (sp_X7_readsCommand_nu tx (nI N) (nI i) nu2) := fun w dm => by
        simp only [sp_run]
        rw [if_neg hR, e]
        rfl
      by_cases c : p = N
      · subst c
        refine ⟨⟨fun k k1 k2 k3 => absurd k3 (w3 k k1 k2), hqk⟩, fun w dm hr => ?_⟩
        obtain ⟨x1, x2, x3⟩ := hE w dm hr
        have t2 := (tp_no (tx := tx) (cc := 59) (fun q => by rw [sg_ge hN (by omega) (Nat.le_refl _)] at q; exact absurd q (by decide) : ¬ sp_X7_sign tx (nI p) (nI p) = 59)).2
        rw [hX, t2, (run_N hN _ _ _ _ _ _ _).1, (run_N hN _ _ _ _ _ _ _).2, w2, w1]
        exact ⟨x1, by rw [x2], x3⟩
      · have hlt : p < N := by omega
        rw [if_neg (fun q => c (iN.mp q))] at hI
        by_cases c2 : tx p = 59
        · obtain ⟨t1, t2⟩ := tp_yes (cc := 59) ((sg_lt hN hlt).trans c2)
          obtain ⟨s1, s2⟩ := sep_q h1
          rw [t1, t2, if_neg z10, nI_1] at hI
          have eq1 : rdI tx q0 (p + 1) = (0, q'.2.1, q'.2.2.1, q'.2.2.2.1, 0, 0) := by
            show rdT (rdI tx q0 p) (tx p) = _
            rw [w1, c2, s2]
          have eq2 : ruN tx q0 r (p + 1) = ((ruN tx q0 r i).1 + exV (ruN tx q0 r i).2 q', exS (ruN tx q0 r i).2 q') := by
            show (if tx p = 59 then ((ruN tx q0 r p).1 + exV (ruN tx q0 r p).2 (rdI tx q0 p), exS (ruN tx q0 r p).2 (rdI tx q0 p)) else ruN tx q0 r p) = _
            rw [if_pos c2, w1, w2]
          obtain ⟨⟨b1, b2⟩, b3⟩ := ruP hN q0 r fr (p + 1) _ _ _ _ _ _ (sp_X7_sign tx (nI N) (nI i)) (sp_X7_readsCommand_sk tx (nI N) (nI i) sk2) (sp_X7_readsCommand_nu tx (nI N) (nI i) nu2) fr2 (by omega) (by omega) (by omega) eq1 hI
          refine ⟨⟨fun k k1 k2 k3 => ?_, b2⟩, fun w dm hr => ?_⟩
          · by_cases d : k < p
            · exact absurd k3 (w3 k k1 d)
            · by_cases d2 : k = p
              · rw [d2]; exact hqk
              · exact b1 k (by omega) k2 k3
          · obtain ⟨x1, x2, x3⟩ := hE w dm hr
            rw [hX, t2, nI_1]
            have hh := b3 (sp_X7_does_s w dm (sp_X7_sign tx (nI N) (nI i)) (sp_X7_readsCommand_sk tx (nI N) (nI i) sk2) (sp_X7_readsCommand_nu tx (nI N) (nI i) nu2)) (sp_X7_does_dm w dm (sp_X7_sign tx (nI N) (nI i)) (sp_X7_readsCommand_nu tx (nI N) (nI i) nu2)) (by rw [eq2]; exact x1)
            have ea : (ruN tx q0 r (p + 1)).1 = (ruN tx q0 r i).1 + sp_X7_does w dm (sp_X7_sign tx (nI N) (nI i)) (sp_X7_readsCommand_nu tx (nI N) (nI i) nu2) := by
              rw [eq2, ← x2]
            rw [ea] at hh
            obtain ⟨y1, y2, y3⟩ := hh
            exact ⟨y1, y2, fun k hk => (y3 k hk).trans (x3 k hk)⟩
        · obtain ⟨t1, t2⟩ := tp_no (cc := 59) (fun q => c2 ((sg_lt hN hlt).symm.trans q))
          rw [t1, if_pos rfl] at hI
          exact absurd rfl hI
