theorem fer0 {pl : Int32} (tx : Nat → Int32) (hp : pl = nI pl.toNatClampNeg ∧ pl.toNatClampNeg ≤ 60) (rl rs rm le sk nu : Int32) : (sp_fer pl tx 61 0 0 rl rs rm 0 0).1 = (sp_ipl tx pl 61 0 le sk nu).2.1 ∧ ((¬ (sp_ipl tx pl 61 0 le sk nu).1 = 0) ↔ (¬ (sp_fer pl tx 61 0 0 rl rs rm 0 0).1 < pl ∧ ¬ sp_X0_isAtCommandEnd (sp_fer pl tx 61 0 0 rl rs rm 0 0).2.2.1 = 0)) := by
  have h := ferP (tx := tx) hp.2 61 0 rl rs rm le sk nu 61 (Nat.zero_le _) (by omega) (by omega)
  rw [← hp.1, show nI 0 = (0 : Int32) from rfl] at h
  exact h
theorem ru0 {pl : Int32} (tx : Nat → Int32) (hp : pl = nI pl.toNatClampNeg ∧ pl.toNatClampNeg ≤ 60) (rl rs rm : Int32) (r : xR) {le sk nu : Int32} (le2 sk2 nu2 : Int32) (hI : ¬ (sp_ipl tx pl 61 0 le sk nu).1 = 0) : ((∀ k, k < pl.toNatClampNeg → tx k = 59 → qOk (rdI tx (ferQ pl tx rl rs rm) k)) ∧ qOk (rdI tx (ferQ pl tx rl rs rm) pl.toNatClampNeg)) ∧ ∀ w dm, RS r w 0 → RS (ruR r pl tx rl rs rm) (sp_run tx pl 61 w dm 0 0 le2 sk2 nu2).1 0 ∧ ruV r pl tx rl rs rm = (sp_run tx pl 61 w dm 0 0 le2 sk2 nu2).2.2.1 ∧ ∀ p, 156 ≤ p → (sp_run tx pl 61 w dm 0 0 le2 sk2 nu2).1 p = w p := by
  have h := ruP (tx := tx) hp.2 (ferQ pl tx rl rs rm) r 61 0 _ _ _ le sk nu le2 sk2 nu2 61 (Nat.zero_le _) (by omega) (by omega) (show rdI tx (ferQ pl tx rl rs rm) 0 = (0, _, _, _, 0, 0) from rfl)
  rw [← hp.1, show nI 0 = (0 : Int32) from rfl] at h
  obtain ⟨⟨h1, h2⟩, h3⟩ := h hI
  exact ⟨⟨fun k hk => h1 k (Nat.zero_le _) hk, h2⟩, fun w dm hr => h3 w dm hr⟩
theorem P_firstError (r : xR) (po : Int32) (pn : Int32) (pl : Int32) (tx : Nat → Int32) (rp : Int32) (rl : Int32) (rs : Int32) (rm : Int32) (rn : Int32) (rz : Int32) (sv : xPl) (mm : xPl) (u : Nat → Int32) (fi : Nat → Int32) (t2 : Nat → Int32) (dm : Nat → Int32) (th : Int32) (sa : Int32) (ln : Int32) (pa : Int32) (le : Int32) (sk : Int32) (nu : Int32) (h : Int64) (H : RI r po pn pl tx sv mm u fi t2 sa ln) : (sp_fer pl tx 61 0 0 rl rs rm 0 0).1 = (sp_ipl t2 ln 61 0 le sk nu).2.1 ∧ RI r po pn pl tx sv mm u fi t2 sa ln := by
  refine ⟨?_, H⟩
  obtain ⟨-, ⟨-, e1, e2⟩, hp, -⟩ := H
  rw [e1, e2]
  exact (fer0 tx hp rl rs rm le sk nu).1
theorem RI.hrd {r : xR} {po : Int32} {pn : Int32} {pl : Int32} {tx : Nat → Int32} {rl : Int32} {rs : Int32} {rm : Int32} {sv : xPl} {mm : xPl} {u : Nat → Int32} {fi : Nat → Int32} {t2 : Nat → Int32} {sa : Int32} {ln : Int32} (H : RI r po pn pl tx sv mm u fi t2 sa ln) : ¬ (sp_fer pl tx 61 0 0 rl rs rm 0 0).1 < pl → ¬ sp_X0_isAtCommandEnd (sp_fer pl tx 61 0 0 rl rs rm 0 0).2.2.1 = 0 → (∀ i, i < pl.toNatClampNeg → tx i = 59 → qOk (rdI tx (ferQ pl tx rl rs rm) i)) ∧ qOk (rdI tx (ferQ pl tx rl rs rm) pl.toNatClampNeg) := by
  obtain ⟨-, -, hp, -⟩ := H
  intro a b
  exact (ru0 tx hp rl rs rm r 0 0 0 ((fer0 tx hp rl rs rm 0 0 0).2.mpr ⟨a, b⟩)).1
theorem P_run (r : xR) (po : Int32) (pn : Int32) (pl : Int32) (tx : Nat → Int32) (rp : Int32) (rl : Int32) (rs : Int32) (rm : Int32) (rn : Int32) (rz : Int32) (sv : xPl) (mm : xPl) (u : Nat → Int32) (fi : Nat → Int32) (t2 : Nat → Int32) (dm : Nat → Int32) (th : Int32) (sa : Int32) (ln : Int32) (pa : Int32) (le : Int32) (sk : Int32) (nu : Int32) (h : Int64) (H : RI r po pn pl tx sv mm u fi t2 sa ln) : ((er_X6_run pl tx rl rs rm) = none → (sp_X7_run_th t2 ln le sk nu) = 0 ∧ (ruV r pl tx rl rs rm) = (sp_X7_run u t2 dm sa ln le sk nu) ∧ ∀ adn : Nat → Nat, RI (ruR r pl tx rl rs rm) (sp_spo2 po pn) (sp_spn2 pn) 0 tx (svS sv adn r po pn) mm (sp_X7_run_s u t2 dm sa ln le sk nu) fi t2 (sp_X7_run_sa t2 sa ln le sk nu) (sp_X7_run_ln t2 ln le sk nu)) ∧ (∀ (E : String) (cd : Int32), (er_X6_run pl tx rl rs rm) = some E → ((E = xIA ∧ cd = 1)) → (sp_X7_run_th t2 ln le sk nu) = cd ∧ RI r po pn pl tx sv mm (sp_X7_run_s u t2 dm sa ln le sk nu) fi t2 (sp_X7_run_sa t2 sa ln le sk nu) (sp_X7_run_ln t2 ln le sk nu)) := by
  have hp := H.hpl
  have e1 : ln = pl := H.2.1.2.1
  have e2 : t2 = tx := H.2.1.2.2
  have hF := (fer0 tx hp rl rs rm le sk nu).2
  unfold er_X6_run sp_X7_run_th sp_X7_run sp_X7_run_s sp_X7_run_sa sp_X7_run_ln
  rw [e1, e2]
  by_cases c : (sp_ipl tx pl 61 0 le sk nu).1 = 0
  · simp only [if_pos c]
    refine ⟨fun q => ?_, fun E cd q w => ⟨w.2.symm, ?_⟩⟩
    · refine absurd c (hF.mpr ?_)
      by_cases c1 : (sp_fer pl tx 61 0 0 rl rs rm 0 0).1 < pl
      · rw [if_pos c1] at q; exact absurd q (by simp)
      · rw [if_neg c1] at q
        by_cases c2 : sp_X0_isAtCommandEnd (sp_fer pl tx 61 0 0 rl rs rm 0 0).2.2.1 = 0
        · rw [if_pos c2] at q; exact absurd q (by simp)
        · exact ⟨c1, c2⟩
    · rw [e1, e2] at H
      exact H
  · obtain ⟨c1, c2⟩ := hF.mp c
    simp only [if_neg c, if_neg c1, if_neg c2]
    obtain ⟨-, hR⟩ := ru0 tx hp rl rs rm r ((sp_ipl tx pl 61 0 le sk nu).2.2.1) ((sp_ipl tx pl 61 0 le sk nu).2.2.2.1) ((sp_ipl tx pl 61 0 le sk nu).2.2.2.2) c
    obtain ⟨x1, x2, x3⟩ := hR (sp_X7_save_s u sa) dm H.sv0
    refine ⟨fun _ => ⟨trivial, x2, fun adn => ?_⟩, fun E cd q => absurd q (by simp)⟩
    have hS := H.saved adn (fun q q1 _ => x3 q q1) x1
    rw [e2] at hS
    exact ⟨hS.1, ⟨hS.2.1.1, rfl, rfl⟩, ⟨rfl, Nat.zero_le _⟩, hS.2.2.2⟩
