def dvD (r : xR) (i : Nat) (qa kn : Int32) (j : Nat) : Prop := r.xv j = nI i ∧ ¬ sp_X2_holds r.xc j r.kh = 0 ∧ ¬ sp_X2_isFrom r.xs j qa kn = 0
theorem bt_F : ∀ a, a < 64 → ∀ i, i < 6 → ∀ k, k < 10 → (4 ≤ k ∧ k - 4 < i) → (((nI a ||| (1 <<< ((nI i) &&& 31))) >>> ((nI k - 4) &&& 31)) &&& 1) = ((nI a >>> ((nI k - 4) &&& 31)) &&& 1) := by decide +kernel
theorem bt_I : ∀ a, a < 64 → ∀ i, i < 6 → ((nI a ||| (1 <<< ((nI i) &&& 31))) ||| (1 <<< ((nI i) &&& 31))) = (nI a ||| (1 <<< ((nI i) &&& 31))) := by decide +kernel
theorem bt_R : ∀ a, a < 64 → ∀ i, i < 6 → (nI a ||| (1 <<< ((nI i) &&& 31))) = nI (a ||| 2 ^ i) ∧ (a ||| 2 ^ i) < 64 := by decide +kernel
theorem idv_spec {r : xR} {u : Nat → Int32} (h : RS r u 0) (i : Nat) (qa kn : Int32) : ∀ f v, v ≤ rN u 0 → rN u 0 - v < f → ((sp_idv r.xn r.xs r.xv r.xc (nI i) qa kn r.kh f (nI v)).1 = 0 ↔ ∀ j, v ≤ j → j < rN u 0 → ¬ dvD r i qa kn j)
  | 0, v, _, h2 => absurd h2 (Nat.not_lt_zero _)
  | f + 1, v, hv, hf => by
    obtain ⟨hx, h12, -⟩ := r_26 h
    have hle : (r.xn ≤ nI v) ↔ rN u 0 ≤ v := by rw [hx, nI_leI (by omega) (by omega)]
    simp only [sp_idv]
    rw [nI_clamp (by omega), nI_1]
    by_cases c : rN u 0 ≤ v
    · rw [if_pos (hle.mpr c)]
      exact ⟨fun _ j hj hj2 => by omega, fun _ => rfl⟩
    · rw [if_neg (fun q => c (hle.mp q))]
      have ih := idv_spec h i qa kn f (v + 1) (by omega) (by omega)
      have skip : ¬ dvD r i qa kn v → ((sp_idv r.xn r.xs r.xv r.xc (nI i) qa kn r.kh f (nI (v + 1))).1 = 0 ↔ ∀ j, v ≤ j → j < rN u 0 → ¬ dvD r i qa kn j) := fun hn => by
        rw [ih]
        refine ⟨fun q j hj hj2 => ?_, fun q j hj hj2 => q j (by omega) hj2⟩
        by_cases d : j = v
        · rw [d]; exact hn
        · exact q j (by omega) hj2
      by_cases c1 : r.xv v = nI i
      · rw [if_pos c1]
        by_cases c2 : sp_X2_holds r.xc v r.kh = 0
        · rw [if_pos c2]; exact skip (fun q => q.2.1 c2)
        · rw [if_neg c2]
          by_cases c3 : sp_X2_isFrom r.xs v qa kn = 0
          · rw [if_pos c3]; exact skip (fun q => q.2.2 c3)
          · rw [if_neg c3]
            exact ⟨fun q => absurd q (show ¬ (1 : Int32) = 0 from by decide), fun q => absurd ⟨c1, c2, c3⟩ (q v (Nat.le_refl _) (by omega))⟩
      · rw [if_neg c1]; exact skip (fun q => c1 q.1)
theorem drv_F {r : xR} {u : Nat → Int32} (h : RS r u 0) {i m a : Nat} {qa acc : Int32} (hi : i < 6) (hq : ¬ qa < 0 ∧ qa < 4) (ha : a < 64) (hm : m < rN u 0) (ht : u (0 + 27 + 5 * m + 1) = nI i) (hacc : acc = nI a ∨ acc = nI a ||| (1 <<< ((nI i) &&& 31))) : (if (u (0 + 27 + 5 * m + 0)) = qa then (1 : Int32) else (if (u (0 + 27 + 5 * m + 0)) < 4 then (0 : Int32) else (if ((acc >>> (((u (0 + 27 + 5 * m + 0)) - 4) &&& 31)) &&& 1) = 1 then (1 : Int32) else 0))) = sp_X2_isFrom r.xs m qa (nI a) := by
  obtain ⟨a0, a1, -⟩ := h.1.2.2.2.2.2.1 m hm
  obtain ⟨e1, e2⟩ := h.2.1.2.2.2 m hm
  obtain ⟨g1, -⟩ := h.2.2.2.2.2.1 m hm
  have es : u (0 + 27 + 5 * m + 0) = nI (rS u 0 m) := e1
  rw [es, ht, nI_clamp (by omega), nI_clamp (by omega)] at g1
  have eq : qa = nI qa.toNatClampNeg := rq_nat hq (by decide)
  have hq4 := S_lt hq
  unfold sp_X2_isFrom
  rw [a0, es, eq]
  generalize rS u 0 m = k at e2 g1 ⊢
  generalize qa.toNatClampNeg = t at hq4 ⊢
  have e4 : (nI k < 4) ↔ k < 4 := by rw [show (4 : Int32) = nI 4 from rfl, nI_ltI (by omega) (by omega)]
  have e5 : (4 ≤ nI k) ↔ 4 ≤ k := by rw [show (4 : Int32) = nI 4 from rfl, nI_leI (by omega) (by omega)]
  by_cases c : k < 4
  · rw [if_neg (show ¬ 4 ≤ nI k from fun q => by have := e5.mp q; omega)]
    by_cases d : nI k = nI t
    · rw [if_pos d, if_pos d]
    · rw [if_neg d, if_neg d, if_pos (e4.mpr c)]
  · rw [if_neg (show ¬ nI k = nI t from fun q => by have := (nI_eq (by omega) (by omega)).mp q; omega), if_neg (fun q => c (e4.mp q)), if_pos (e5.mpr (by omega))]
    rcases hacc with q | q
    · rw [q]
    · rw [q, bt_F a ha i hi k (by omega) (by omega)]
theorem drv1_spec {r : xR} {u : Nat → Int32} (h : RS r u 0) {i a : Nat} {qa : Int32} (hi : i < 6) (hq : ¬ qa < 0 ∧ qa < 4) (ha : a < 64) : ∀ m, m ≤ rN u 0 → (sp_drv1 u qa i (nI a) m = nI a ∧ ∀ j, j < m → ¬ dvD r i qa (nI a) j) ∨ (sp_drv1 u qa i (nI a) m = nI a ||| (1 <<< ((nI i) &&& 31)) ∧ ∃ j, j < m ∧ dvD r i qa (nI a) j)
  | 0, _ => Or.inl ⟨rfl, fun j hj => absurd hj (Nat.not_lt_zero _)⟩
  | m + 1, hm => by
    have ih := drv1_spec h hi hq ha m (by omega)
    obtain ⟨a0, a1, -⟩ := h.1.2.2.2.2.2.1 m (by omega)
    have hh := holds_eq h (j := m) (by omega)
    simp only [sp_drv1]
    generalize hacc : sp_drv1 u qa i (nI a) m = acc at ih ⊢
    have keep : ¬ dvD r i qa (nI a) m → (acc = nI a ∧ ∀ j, j < m + 1 → ¬ dvD r i qa (nI a) j) ∨ (acc = nI a ||| (1 <<< ((nI i) &&& 31)) ∧ ∃ j, j < m + 1 ∧ dvD r i qa (nI a) j) := fun hn => by
      rcases ih with ⟨q1, q2⟩ | ⟨q1, j, q2, q3⟩
      · refine Or.inl ⟨q1, fun j hj => ?_⟩
        by_cases d : j = m
        · rw [d]; exact hn
        · exact q2 j (by omega)
      · exact Or.inr ⟨q1, j, by omega, q3⟩
    by_cases c1 : u (0 + 27 + 5 * m + 1) = nI i
    · rw [if_pos c1, drv_F h hi hq ha (by omega) c1 (by rcases ih with q | q; exact Or.inl q.1; exact Or.inr q.1), ← hh]
      by_cases c3 : sp_X2_isFrom r.xs m qa (nI a) = 0
      · rw [if_pos c3, Int32.or_zero]; exact keep (fun q => q.2.2 c3)
      · rw [if_neg c3]
        by_cases c2 : sp_X2_holds r.xc m r.kh = 0
        · rw [if_pos c2, Int32.or_zero]; exact keep (fun q => q.2.1 c2)
        · rw [if_neg c2]
          refine Or.inr ⟨?_, m, by omega, a1.trans c1, c2, c3⟩
          rcases ih with q | q
          · rw [q.1]
          · rw [q.1]; exact bt_I a ha i hi
    · rw [if_neg c1, ite_self, Int32.or_zero]
      exact keep (fun q => c1 (a1.symm.trans q.1))
theorem dby_eq {r : xR} {u : Nat → Int32} (h : RS r u 0) {qa : Int32} (hq : ¬ qa < 0 ∧ qa < 4) : ∀ i, i ≤ 6 → sp_dby r qa 0 i = sp_drv u qa 0 i ∧ ∃ a, a < 64 ∧ sp_drv u qa 0 i = nI a
  | 0, _ => ⟨rfl, 0, by omega, rfl⟩
  | i + 1, hi => by
    obtain ⟨e, a, ha, ea⟩ := dby_eq h hq i (by omega)
    obtain ⟨-, h12, -⟩ := r_26 h
    simp only [sp_dby, sp_drv]
    rw [e, ea]
    have h1 := idv_spec h i qa (nI a) 13 0 (by omega) (by omega)
    rw [show nI 0 = (0 : Int32) from rfl] at h1
    rcases drv1_spec h (i := i) (by omega) hq ha (rN u 0) (Nat.le_refl _) with ⟨q1, q2⟩ | ⟨q1, j, q2, q3⟩
    · rw [if_pos (h1.mpr (fun j _ hj => q2 j hj)), q1]
      exact ⟨rfl, a, ha, rfl⟩
    · rw [if_neg (fun q => h1.mp q j (by omega) q2 q3), q1]
      exact ⟨rfl, _, (bt_R a ha i (by omega)).2, (bt_R a ha i (by omega)).1⟩
theorem P_drivenBy (r : xR) (po : Int32) (pn : Int32) (pl : Int32) (tx : Nat → Int32) (rp : Int32) (rl : Int32) (rs : Int32) (rm : Int32) (rn : Int32) (rz : Int32) (sv : xPl) (mm : xPl) (u : Nat → Int32) (fi : Nat → Int32) (t2 : Nat → Int32) (dm : Nat → Int32) (th : Int32) (sa : Int32) (ln : Int32) (pa : Int32) (le : Int32) (sk : Int32) (nu : Int32) (h : Int64) (qa : Int32) (H : RI r po pn pl tx sv mm u fi t2 sa ln) : ((er_X6_drivenBy qa) = none → (sp_X7_drivenBy_th qa) = 0 ∧ (sp_dby r qa 0 6) = (sp_X7_drivenBy u qa) ∧ RI r po pn pl tx sv mm u fi t2 sa ln) ∧ (∀ (E : String) (cd : Int32), (er_X6_drivenBy qa) = some E → ((E = xIO ∧ cd = 1)) → (sp_X7_drivenBy_th qa) = cd ∧ RI r po pn pl tx sv mm u fi t2 sa ln) := by
  unfold er_X6_drivenBy sp_X7_drivenBy_th sp_X7_drivenBy
  by_cases c : (¬ qa < 0 ∧ qa < 4)
  · have e := in_S.mp c
    simp only [if_pos c, if_neg e]
    exact ⟨fun _ => ⟨trivial, (dby_eq H.1 c 6 (by omega)).1, H⟩, fun E cd q => absurd q (by simp)⟩
  · have e : sp_X7_in qa 0 3 = 0 := Decidable.not_not.mp (fun q => c (in_S.mpr q))
    simp only [if_neg c, if_pos e]
    exact ⟨fun q => absurd q (by simp), fun E cd q w => ⟨w.2.symm, H⟩⟩
