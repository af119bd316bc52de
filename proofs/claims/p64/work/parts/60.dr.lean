/-! who drives whom -/
def bitk (m : Int32) (k : Nat) : Int32 := (m >>> (nI k &&& 31)) &&& 1
theorem bit_or : ∀ m, m < 64 → ∀ n, n < 6 → (nI m ||| (1 <<< ((nI n) &&& 31)) = nI (m ||| 2 ^ n) ∧ (m ||| 2 ^ n) < 64) ∧ ∀ k, k < 6 → bitk (nI (m ||| 2 ^ n)) k = if k = n then 1 else bitk (nI m) k := by
  unfold bitk
  decide +kernel
theorem bit_0 : ∀ k, k < 6 → bitk 0 k = 0 := by
  unfold bitk
  decide +kernel
theorem bit_01 : ∀ m, m < 64 → ∀ k, k < 6 → bitk (nI m) k = 0 ∨ bitk (nI m) k = 1 := by
  unfold bitk
  decide +kernel
theorem bit_sum : ∀ m, m < 64 → nI m = bitk (nI m) 0 + 2 * bitk (nI m) 1 + 4 * bitk (nI m) 2 + 8 * bitk (nI m) 3 + 16 * bitk (nI m) 4 + 32 * bitk (nI m) 5 := by
  unfold bitk
  decide +kernel
def fB (a b k : Nat) : Int32 := if k = a ∨ k = b then 1 else 0
theorem fB_sum : ∀ a, a < 6 → ∀ b, b < 6 → fB a b 0 + 2 * fB a b 1 + 4 * fB a b 2 + 8 * fB a b 3 + 16 * fB a b 4 + 32 * fB a b 5 = ((1 : Int32) <<< (nI a &&& 31)) ||| ((1 : Int32) <<< (nI b &&& 31)) := by
  unfold fB
  decide +kernel
theorem bit_ab {m : Nat} (hm : m < 64) {a b : Nat} (ha : a < 6) (hb : b < 6) (h : ∀ k, k < 6 → (bitk (nI m) k = 1 ↔ (k = a ∨ k = b))) : nI m = ((1 : Int32) <<< (nI a &&& 31)) ||| ((1 : Int32) <<< (nI b &&& 31)) := by
  have e : ∀ k, k < 6 → bitk (nI m) k = fB a b k := fun k hk => by
    unfold fB
    by_cases q : k = a ∨ k = b
    · rw [if_pos q]; exact (h k hk).mpr q
    · rw [if_neg q]
      rcases bit_01 m hm k hk with z | z
      · exact z
      · exact absurd ((h k hk).mp z) q
  rw [bit_sum m hm, e 0 (by decide), e 1 (by decide), e 2 (by decide), e 3 (by decide), e 4 (by decide), e 5 (by decide)]
  exact fB_sum a ha b hb
theorem bit_no {m : Nat} (hm : m < 64) (h : ∀ k, k < 6 → ¬ bitk (nI m) k = 1) : nI m = 0 := by
  have e : ∀ k, k < 6 → bitk (nI m) k = 0 := fun k hk => (bit_01 m hm k hk).resolve_right (h k hk)
  rw [bit_sum m hm, e 0 (by decide), e 1 (by decide), e 2 (by decide), e 3 (by decide), e 4 (by decide), e 5 (by decide)]
  rfl
def idv (c : xR) (ds sk kn : Int32) (f : Nat) (i : Int32) : Int32 × Int32 := sp_idv c.xn c.xs c.xv c.xc ds sk kn c.kh f i
/-- a mix by which the stick, or a servo of the mask, drives the servo -/
def drv (c : xR) (ds sk kn : Int32) (j : Nat) : Prop := c.xv j = ds ∧ ¬ sp_X2_holds c.xc j c.kh = 0 ∧ ¬ sp_X2_isFrom c.xs j sk kn = 0
theorem idv_ok {c : xR} (hb : rB c) (ds sk kn : Int32) : ∀ f i, i ≤ xN c → xN c - i < f → ((idv c ds sk kn f (nI i)).1 = 0 ∧ ∀ j, i ≤ j → j < xN c → ¬ drv c ds sk kn j) ∨ ((idv c ds sk kn f (nI i)).1 = 1 ∧ ∃ j, j < xN c ∧ drv c ds sk kn j)
  | 0, i, _, h => absurd h (Nat.not_lt_zero _)
  | f + 1, i, hi, h => by
    have h12 := xn_12 hb
    have ci : (nI i).toNatClampNeg = i := nI_clamp (by omega)
    unfold idv
    simp only [sp_idv]
    by_cases q : c.xn ≤ nI i
    · rw [if_pos q]
      refine Or.inl ⟨rfl, fun j h1 h2 => ?_⟩
      rw [xn_ne hb] at q
      have := (nI_leI (by omega) (by omega)).mp q
      omega
    · rw [if_neg q]
      have hlt : i < xN c := by
        rw [xn_ne hb] at q
        rcases Nat.lt_or_ge i (xN c) with y | y
        · exact y
        · exact absurd (nI_le y (by omega)) q
      rw [ci, nI_1]
      have ih := idv_ok hb ds sk kn f (i + 1) (by omega) (by omega)
      unfold idv at ih
      have nxt : (¬ drv c ds sk kn i) → ((sp_idv c.xn c.xs c.xv c.xc ds sk kn c.kh f (nI (i + 1))).1 = 0 ∧ ∀ j, i ≤ j → j < xN c → ¬ drv c ds sk kn j) ∨ ((sp_idv c.xn c.xs c.xv c.xc ds sk kn c.kh f (nI (i + 1))).1 = 1 ∧ ∃ j, j < xN c ∧ drv c ds sk kn j) := fun hn => by
        rcases ih with ⟨a1, a2⟩ | ⟨a1, a2⟩
        · refine Or.inl ⟨a1, fun j h1 h2 => ?_⟩
          by_cases e : j = i
          · rw [e]; exact hn
          · exact a2 j (by omega) h2
        · exact Or.inr ⟨a1, a2⟩
      by_cases d1 : c.xv i = ds
      · rw [if_pos d1]
        by_cases d2 : sp_X2_holds c.xc i c.kh = 0
        · rw [if_pos d2]
          exact nxt (fun y => y.2.1 d2)
        · rw [if_neg d2]
          by_cases d3 : sp_X2_isFrom c.xs i sk kn = 0
          · rw [if_pos d3]
            exact nxt (fun y => y.2.2 d3)
          · rw [if_neg d3]
            exact Or.inr ⟨rfl, i, hlt, d1, d2, d3⟩
      · rw [if_neg d1]
        exact nxt (fun y => d1 y.1)
/-- the mask behind n servos: a bit for each that is driven -/
theorem dby_ok {c : xR} (hb : rB c) (sk : Int32) : ∀ n, n ≤ 6 → ∃ m, m < 64 ∧ sp_dby c sk 0 n = nI m ∧ (∀ k, k < 6 → bitk (nI m) k = 1 → k < n) ∧ ∀ k, k < n → (bitk (nI m) k = 1 ↔ ∃ j, j < xN c ∧ drv c (nI k) sk (sp_dby c sk 0 k) j)
  | 0, _ => ⟨0, by decide, rfl, fun k hk q => absurd (q.symm.trans (bit_0 k hk)) (by decide), fun k hk => absurd hk (Nat.not_lt_zero _)⟩
  | n + 1, hn => by
    have h12 := xn_12 hb
    obtain ⟨m, m1, m2, m3, m4⟩ := dby_ok hb sk n (by omega)
    have I := idv_ok hb (nI n) sk (sp_dby c sk 0 n) 13 0 (Nat.zero_le _) (by omega)
    unfold idv at I
    have e0 : (nI 0) = 0 := rfl
    rw [e0] at I
    simp only [sp_dby]
    rcases I with ⟨i1, i2⟩ | ⟨i1, i2⟩
    · rw [if_pos i1]
      refine ⟨m, m1, m2, fun k hk q => Nat.lt_succ_of_lt (m3 k hk q), fun k hk => ?_⟩
      by_cases e : k = n
      · rw [e]
        refine ⟨fun q => absurd (m3 n (by omega) q) (Nat.lt_irrefl _), fun ⟨j, j1, j2⟩ => absurd j2 (i2 j (Nat.zero_le _) j1)⟩
      · exact m4 k (by omega)
    · rw [if_neg (by rw [i1]; decide), m2]
      obtain ⟨⟨b1, b2⟩, b3⟩ := bit_or m m1 n (by omega)
      refine ⟨m ||| 2 ^ n, b2, b1, fun k hk q => ?_, fun k hk => ?_⟩
      · rw [b3 k hk] at q
        by_cases e : k = n
        · omega
        · rw [if_neg e] at q
          exact Nat.lt_succ_of_lt (m3 k hk q)
      · rw [b3 k (by omega)]
        by_cases e : k = n
        · rw [if_pos e, e]
          exact ⟨fun _ => i2, fun _ => rfl⟩
        · rw [if_neg e]
          exact m4 k (by omega)
/-- the bits of the lower servos stay -/
theorem dby_bit {c : xR} (hb : rB c) (sk : Int32) {n k : Nat} (hn : n ≤ 6) (hk : k < n) : bitk (sp_dby c sk 0 n) k = 1 ↔ bitk (sp_dby c sk 0 6) k = 1 := by
  obtain ⟨m, m1, m2, m3, m4⟩ := dby_ok hb sk n hn
  obtain ⟨m', m1', m2', m3', m4'⟩ := dby_ok hb sk 6 (Nat.le_refl _)
  rw [m2, m2', m4 k hk, m4' k (by omega)]
/-- a servo that the stick does not drive has the same demand, whatever the stick commands -/
theorem smr_0 (c : xR) (i : Nat) (d : Nat → Int32) : smr c i d 0 = 0 := rfl
theorem dmd_no {c c' : xR} (hM : gM c) (hb : rB c) {s : Nat} (hs : s < 4) (h1 : c'.kh = c.kh) (h2 : c'.xn = c.xn ∧ c'.xs = c.xs ∧ c'.xv = c.xv ∧ c'.xh = c.xh ∧ c'.xo = c.xo ∧ c'.xc = c.xc) (hc : ∀ k, k < 4 → ¬ k = s → cmd c' k = cmd c k) : ∀ n v, v < n → n ≤ 6 → ¬ bitk (sp_dby c (nI s) 0 6) v = 1 → dmd c' v = dmd c v := by
  obtain ⟨g1, g2, g3, g4, g5, g6⟩ := h2
  intro n
  induction n with
  | zero => intro v h; exact absurd h (Nat.not_lt_zero _)
  | succ n ih =>
    intro v hv hn hd
    have v6 : v < 6 := by omega
    have hM' : gM c' := by
      unfold gM at hM ⊢
      rw [g1, g2, g3]
      exact hM
    have hx : xN c' = xN c := by unfold xN; rw [g1]
    have hO : cOk c'.kh c'.xn c'.xs := by rw [h1, g1, g2]; exact hb.1
    -- rB of c' for the mixes alone
    obtain ⟨m, m1, m2, m3, m4⟩ := dby_ok hb (nI s) 6 (Nat.le_refl _)
    have nod : ∀ j, j < xN c → ¬ drv c (nI v) (nI s) (sp_dby c (nI s) 0 v) j := fun j hj y => hd (by rw [m2]; exact (m4 v v6).mpr ⟨j, hj, y⟩)
    have vals : ∀ j, j < xN c → c.xv j = nI v → vlr c' (dmd c') j = vlr c (dmd c) j := fun j hj ev => by
      unfold vlr sp_X4_valueOf
      rw [h1, g2, g4, g5, g6]
      by_cases a : sp_X2_holds c.xc j c.kh = 0
      · rw [if_pos a, if_pos a]
      · rw [if_neg a, if_neg a]
        have nf : sp_X2_isFrom c.xs j (nI s) (sp_dby c (nI s) 0 v) = 0 := Classical.byContradiction (fun y => nod j hj ⟨ev, a, y⟩)
        obtain ⟨s1, s2⟩ := hb.1.2.2.2 j hj
        obtain ⟨⟨w1, w2⟩, w3⟩ := hM j hj
        have wv : (c.xv j).toNatClampNeg = v := by rw [ev]; exact nI_clamp (by omega)
        unfold sp_X2_isFrom at nf
        by_cases q : 4 ≤ c.xs j
        · rw [if_pos q] at nf ⊢
          rw [if_pos q]
          have g := xle_of (k := 4) (c := 4) rfl s1 (by decide) (Int32.toNatClampNeg_lt _) q
          have e4 : c.xs j - 4 = nI ((c.xs j).toNatClampNeg - 4) := by
            conv => lhs; rw [s1]
            exact xnI_sub g
          rw [e4] at nf
          have nb : ¬ bitk (sp_dby c (nI s) 0 v) ((c.xs j).toNatClampNeg - 4) = 1 := fun y => by
            unfold bitk at y
            rw [if_pos y] at nf
            exact absurd nf (by decide)
          have nb6 : ¬ bitk (sp_dby c (nI s) 0 6) ((c.xs j).toNatClampNeg - 4) = 1 := fun y => nb ((dby_bit hb (nI s) (n := v) (by omega) (by omega)).mpr y)
          rw [ih _ (by omega) (by omega) nb6]
        · rw [if_neg q] at nf ⊢
          rw [if_neg q]
          have lt4 := xlt_of (k := 4) (c := 4) rfl s1 (by decide) (Int32.toNatClampNeg_lt _) q
          have ns : ¬ (c.xs j).toNatClampNeg = s := fun y => by
            rw [if_pos (by rw [s1, y])] at nf
            exact absurd nf (by decide)
          have := hc _ lt4 ns
          unfold cmd at this
          rw [h1] at this
          rw [this]
    have sums : ∀ i, i ≤ xN c → smr c' v (dmd c') i = smr c v (dmd c) i := fun i => by
      induction i with
      | zero => intro _; rw [smr_0, smr_0]
      | succ i ihs =>
        intro hi
        rw [smr_s, smr_s, ihs (by omega), g3]
        by_cases e : c.xv i = nI v
        · rw [if_pos e, if_pos e, vals i (by omega) e]
        · rw [if_neg e, if_neg e]
    have eq' : dmd c' v = c300 (smr c' v (dmd c') (xN c')) := by
      unfold dmd
      rw [dmr_st c' _ v 6 v6, dmr_s, up_at, if_pos rfl]
      have hbm : ∀ d d' : Nat → Int32, (∀ k, k < v → d k = d' k) → ∀ i, i ≤ xN c' → smr c' v d i = smr c' v d' i := fun d d' hdd i => by
        induction i with
        | zero => intro _; rw [smr_0, smr_0]
        | succ i ihs =>
          intro hi
          rw [smr_s, smr_s, ihs (by omega)]
          by_cases e : c'.xv i = nI v
          · rw [if_pos e, if_pos e]
            have : vlr c' d i = vlr c' d' i := by
              unfold vlr sp_X4_valueOf
              by_cases a : sp_X2_holds c'.xc i c'.kh = 0
              · rw [if_pos a, if_pos a]
              · rw [if_neg a, if_neg a]
                by_cases q : 4 ≤ c'.xs i
                · rw [if_pos q, if_pos q]
                  have hi' : i < c'.xn.toNatClampNeg := show i < xN c' by omega
                  obtain ⟨s1, s2⟩ := hO.2.2.2 i hi'
                  obtain ⟨⟨w1, w2⟩, w3⟩ := hM' i hi'
                  have wv : (c'.xv i).toNatClampNeg = v := by rw [e]; exact nI_clamp (by omega)
                  have g := xle_of (k := 4) (c := 4) rfl s1 (by decide) (Int32.toNatClampNeg_lt _) q
                  rw [hdd _ (by omega)]
                · rw [if_neg q, if_neg q]
            rw [this]
          · rw [if_neg e, if_neg e]
      rw [hbm _ (dmr c' (fun _ => 0) 6) (fun j hj => by rw [dmr_st c' _ j v hj, dmr_st c' _ j 6 (by omega)]) _ (Nat.le_refl _)]
    rw [eq', dmd_sum hM hb v6, hx, sums _ (Nat.le_refl _)]
theorem aim_no {c c' : xR} (hM : gM c) (hb : rB c) {s : Nat} (hs : s < 4) (h1 : c'.kh = c.kh) (h2 : c'.xn = c.xn ∧ c'.xs = c.xs ∧ c'.xv = c.xv ∧ c'.xh = c.xh ∧ c'.xo = c.xo ∧ c'.xc = c.xc) (hc : ∀ k, k < 4 → ¬ k = s → cmd c' k = cmd c k) (h3 : c'.vd = c.vd ∧ c'.vn = c.vn ∧ c'.vl = c.vl ∧ c'.vu = c.vu) {v : Nat} (hv : v < 6) (hd : ¬ bitk (sp_dby c (nI s) 0 6) v = 1) : aimA c' v = aimA c v := by
  have e := dmd_no hM hb hs h1 h2 hc 6 v hv (Nat.le_refl _) hd
  unfold aimA rawA
  rw [e, h3.1, h3.2.1, h3.2.2.1, h3.2.2.2]
theorem cmd_kp {c : xR} {s k : Nat} {p : Int32} (h : ¬ k = s) : cmd (c.set_kp (upd c.kp s p)) k = cmd c k := by
  show sp_X5_commandOf (upd c.kp s p) c.ke c.kr c.kt c.kh c.kc k = sp_X5_commandOf c.kp c.ke c.kr c.kt c.kh c.kc k
  unfold sp_X5_commandOf
  rw [up_at, if_neg h]
theorem cmd_kt {c : xR} {s k : Nat} {p : Int32} (hs : s < 4) (hk : k < 4) (h : ¬ k = s) : cmd (c.set_kt (upd c.kt (slN c.kh s) p)) k = cmd c k := by
  have hne : ¬ (if c.kh = 0 then k else 4 + k) = slN c.kh s := by
    unfold slN
    by_cases q : c.kh = 0
    · rw [if_pos q, if_pos q]; exact h
    · rw [if_neg q, if_neg q]; omega
  show sp_X5_commandOf c.kp c.ke c.kr (upd c.kt (slN c.kh s) p) c.kh c.kc k = sp_X5_commandOf c.kp c.ke c.kr c.kt c.kh c.kc k
  unfold sp_X5_commandOf
  rw [up_at, if_neg hne]
theorem aim_kp {c : xR} (hM : gM c) (hb : rB c) {s v : Nat} (hs : s < 4) (hv : v < 6) (p : Int32) (hd : ¬ bitk (sp_dby c (nI s) 0 6) v = 1) : aimA (c.set_kp (upd c.kp s p)) v = aimA c v := aim_no (c' := c.set_kp (upd c.kp s p)) hM hb hs rfl ⟨rfl, rfl, rfl, rfl, rfl, rfl⟩ (fun k _ h => cmd_kp h) ⟨rfl, rfl, rfl, rfl⟩ hv hd
theorem aim_ktn {c : xR} (hM : gM c) (hb : rB c) {s v : Nat} (hs : s < 4) (hv : v < 6) (p : Int32) (hd : ¬ bitk (sp_dby c (nI s) 0 6) v = 1) : aimA (c.set_kt (upd c.kt (slN c.kh s) p)) v = aimA c v := aim_no (c' := c.set_kt (upd c.kt (slN c.kh s) p)) hM hb hs rfl ⟨rfl, rfl, rfl, rfl, rfl, rfl⟩ (fun k hk h => cmd_kt hs hk h) ⟨rfl, rfl, rfl, rfl⟩ hv hd
