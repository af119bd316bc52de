/-! the servos of one frame -/
abbrev xA : Type := (Nat → Int32) × (Nat → Int32) × Int32 × Int32
theorem avs_s (vs vm vt : Nat → Int32) (jf : Int32) (va vw : Nat → Int32) (b : Int32) (i : Nat) (x : xA) (hx : sp_avs vs vm vt jf va vw 0 b i = x) : sp_avs vs vm vt jf va vw 0 b (i + 1) = (if jf = 0 ∨ ¬ vm i = 2 then (sp_X3_advance_va vs vt x.1 i x.2.2.2, sp_X3_advance_vw vs vt x.1 x.2.1 i x.2.2.2, x.2.2.1 + sp_X3_advance vs vt x.1 i x.2.2.2, x.2.2.2 - sp_X3_advance vs vt x.1 i x.2.2.2) else x) := by
  simp only [sp_avs]
  rw [hx]
  by_cases h1 : jf = 0
  · simp only [if_pos h1, if_pos (show jf = 0 ∨ ¬ vm i = 2 from Or.inl h1)]
  · by_cases h2 : vm i = 2
    · simp only [if_neg h1, if_pos h2, if_neg (show ¬ (jf = 0 ∨ ¬ vm i = 2) from fun q => q.elim h1 (fun q => q h2))]
    · simp only [if_neg h1, if_neg h2, if_pos (show jf = 0 ∨ ¬ vm i = 2 from Or.inr h2)]
/-- the first i servos have moved -/
def avI (vs vt : Nat → Int32) (jf : Int32) (va vw : Nat → Int32) (b : Int32) (i : Nat) (x : xA) : Prop :=
  (0 ≤ x.2.2.1.toInt ∧ x.2.2.2.toInt + x.2.2.1.toInt = b.toInt ∧ 0 ≤ x.2.2.2.toInt) ∧ wS x.2.1 6 = wS vw 6 + x.2.2.1.toInt ∧ (∀ k, k < 6 → bt (-150) 150 (x.1 k) ∧ (vw k).toInt ≤ (x.2.1 k).toInt) ∧ (∀ k, i ≤ k → x.1 k = va k ∧ x.2.1 k = vw k) ∧ (nz 6 x.1 ∧ nz 6 x.2.1) ∧
  (jf = 0 → 300 * (i : Int) ≤ b.toInt → x.2.2.1.toInt ≤ 300 * (i : Int) ∧ ∀ k, k < i → (((vt k).toInt - (x.1 k).toInt).natAbs : Int) = (((vt k).toInt - (va k).toInt).natAbs : Int) - min (((vt k).toInt - (va k).toInt).natAbs : Int) (vs k).toInt ∧ (x.2.1 k).toInt = (vw k).toInt + min (((vt k).toInt - (va k).toInt).natAbs : Int) (vs k).toInt)
theorem wS_ge {f : Nat → Int32} (h : ∀ k, k < 6 → 0 ≤ (f k).toInt) {k : Nat} (hk : k < 6) : (f k).toInt ≤ wS f 6 := by
  rw [wS_6]
  have h0 := h 0 (by decide); have h1 := h 1 (by decide); have h2 := h 2 (by decide); have h3 := h 3 (by decide); have h4 := h 4 (by decide); have h5 := h 5 (by decide)
  rcases (show k = 0 ∨ k = 1 ∨ k = 2 ∨ k = 3 ∨ k = 4 ∨ k = 5 by omega) with rfl | rfl | rfl | rfl | rfl | rfl <;> omega
theorem wS_nn {f : Nat → Int32} (h : ∀ k, k < 6 → 0 ≤ (f k).toInt) : 0 ≤ wS f 6 := Int.le_trans (h 0 (by decide)) (wS_ge h (by decide))
theorem avs_ok {vs vm vt : Nat → Int32} {jf : Int32} {va vw : Nat → Int32} {b : Int32} (ht : ∀ k, k < 6 → bt (-150) 150 (vt k)) (ha : ∀ k, k < 6 → bt (-150) 150 (va k)) (hs : ∀ k, k < 6 → bt 1 300 (vs k)) (hw : ∀ k, k < 6 → 0 ≤ (vw k).toInt) (hb : bt 0 20000 b) (hW : wS vw 6 ≤ 1000000000) (hz : nz 6 va ∧ nz 6 vw) : ∀ i, i ≤ 6 → avI vs vt jf va vw b i (sp_avs vs vm vt jf va vw 0 b i)
  | 0, _ => by
    have z0 : (0 : Int32).toInt = 0 := rfl
    refine ⟨⟨?_, ?_, hb.1⟩, ?_, fun k hk => ⟨ha k hk, Int.le_refl _⟩, fun k _ => ⟨rfl, rfl⟩, hz, fun _ _ => ⟨?_, fun k hk => absurd hk (Nat.not_lt_zero _)⟩⟩
    · show 0 ≤ (0 : Int32).toInt
      omega
    · show b.toInt + (0 : Int32).toInt = b.toInt
      omega
    · show wS vw 6 = wS vw 6 + (0 : Int32).toInt
      omega
    · show (0 : Int32).toInt ≤ 300 * ((0 : Nat) : Int)
      omega
  | i + 1, hi => by
    have ih := avs_ok (vm := vm) (jf := jf) ht ha hs hw hb hW hz i (by omega)
    rw [avs_s vs vm vt jf va vw b i _ rfl]
    generalize sp_avs vs vm vt jf va vw 0 b i = x at ih
    obtain ⟨⟨a1, a2, a3⟩, hB, hC, hD, hE, hF⟩ := ih
    have hi6 : i < 6 := by omega
    by_cases q : jf = 0 ∨ ¬ vm i = 2
    · rw [if_pos q]
      have ev := (hD i (Nat.le_refl _)).1
      have ew := (hD i (Nat.le_refl _)).2
      have t1 := ht i hi6
      have t2 : bt (-150) 150 (x.1 i) := (hC i hi6).1
      have t3 := hs i hi6
      have d := adv_d (vs := vs) (mu := x.2.2.2) t1 t2
      have p := adv_p (vs := vs) (mu := x.2.2.2) t1 t2 t3.1 a3
      obtain ⟨t1, t1'⟩ := t1
      obtain ⟨t2, t2'⟩ := t2
      obtain ⟨t3, t3'⟩ := t3
      obtain ⟨hb, hb'⟩ := hb
      have wi := wS_ge hw hi6
      have eW : (x.2.1 i).toInt = (vw i).toInt := by rw [ew]
      have w : (sp_X3_advance_vw vs vt x.1 x.2.1 i x.2.2.2 i).toInt = (x.2.1 i).toInt + (sp_X3_advance vs vt x.1 i x.2.2.2).toInt := by
        rw [advw_p]
        exact ti_add (by have := hw i hi6; omega) (by omega)
      have em : (x.2.2.1 + sp_X3_advance vs vt x.1 i x.2.2.2).toInt = x.2.2.1.toInt + (sp_X3_advance vs vt x.1 i x.2.2.2).toInt := ti_add (by omega) (by omega)
      have eb : (x.2.2.2 - sp_X3_advance vs vt x.1 i x.2.2.2).toInt = x.2.2.2.toInt - (sp_X3_advance vs vt x.1 i x.2.2.2).toInt := ti_sub (by omega) (by omega)
      have eV : (x.1 i).toInt = (va i).toInt := by rw [ev]
      refine ⟨⟨?_, ?_, ?_⟩, ?_, fun k hk => ?_, fun k hk => ?_, ⟨?_, ?_⟩, fun hj h300 => ?_⟩
      · show 0 ≤ (x.2.2.1 + sp_X3_advance vs vt x.1 i x.2.2.2).toInt
        omega
      · show (x.2.2.2 - sp_X3_advance vs vt x.1 i x.2.2.2).toInt + (x.2.2.1 + sp_X3_advance vs vt x.1 i x.2.2.2).toInt = b.toInt
        omega
      · show 0 ≤ (x.2.2.2 - sp_X3_advance vs vt x.1 i x.2.2.2).toInt
        omega
      · show wS (sp_X3_advance_vw vs vt x.1 x.2.1 i x.2.2.2) 6 = wS vw 6 + (x.2.2.1 + sp_X3_advance vs vt x.1 i x.2.2.2).toInt
        rw [wS_one hi6 w (fun j hj => advw_o hj), hB, em]
        omega
      · by_cases e : k = i
        · rw [e]
          refine ⟨?_, ?_⟩
          · show bt (-150) 150 (sp_X3_advance_va vs vt x.1 i x.2.2.2 i)
            unfold bt
            rw [p]
            by_cases g : 0 ≤ (vt i).toInt - (x.1 i).toInt
            · rw [if_pos g]
              omega
            · rw [if_neg g]
              omega
          · show (vw i).toInt ≤ (sp_X3_advance_vw vs vt x.1 x.2.1 i x.2.2.2 i).toInt
            omega
        · show bt (-150) 150 (sp_X3_advance_va vs vt x.1 i x.2.2.2 k) ∧ (vw k).toInt ≤ (sp_X3_advance_vw vs vt x.1 x.2.1 i x.2.2.2 k).toInt
          rw [adv_o e, advw_o e]
          exact hC k hk
      · show sp_X3_advance_va vs vt x.1 i x.2.2.2 k = va k ∧ sp_X3_advance_vw vs vt x.1 x.2.1 i x.2.2.2 k = vw k
        rw [adv_o (by omega), advw_o (by omega)]
        exact hD k (by omega)
      · exact nz_up hE.1 hi6
      · exact nz_up hE.2 hi6
      · obtain ⟨f1, f2⟩ := hF hj (by omega)
        have eD : (sp_X3_advance vs vt x.1 i x.2.2.2).toInt = min (((vt i).toInt - (va i).toInt).natAbs : Int) (vs i).toInt := by omega
        refine ⟨?_, fun k hk => ?_⟩
        · show (x.2.2.1 + sp_X3_advance vs vt x.1 i x.2.2.2).toInt ≤ 300 * ((i + 1 : Nat) : Int)
          omega
        · by_cases e : k = i
          · rw [e]
            refine ⟨?_, ?_⟩
            · show (((vt i).toInt - (sp_X3_advance_va vs vt x.1 i x.2.2.2 i).toInt).natAbs : Int) = _
              rw [p]
              by_cases g : 0 ≤ (vt i).toInt - (x.1 i).toInt
              · rw [if_pos g]
                omega
              · rw [if_neg g]
                omega
            · show (sp_X3_advance_vw vs vt x.1 x.2.1 i x.2.2.2 i).toInt = _
              omega
          · show (((vt k).toInt - (sp_X3_advance_va vs vt x.1 i x.2.2.2 k).toInt).natAbs : Int) = _ ∧ (sp_X3_advance_vw vs vt x.1 x.2.1 i x.2.2.2 k).toInt = _
            rw [adv_o e, advw_o e]
            exact f2 k (by omega)
    · rw [if_neg q]
      refine ⟨⟨a1, a2, a3⟩, hB, hC, fun k hk => hD k (by omega), hE, fun hj _ => absurd (Or.inl hj) q⟩
