theorem i_le {a b : Int32} : a ≤ b ↔ a.toInt ≤ b.toInt := Int32.le_iff_toInt_le
theorem i_lt {a b : Int32} : a < b ↔ a.toInt < b.toInt := Int32.lt_iff_toInt_lt
theorem in_iff {v lo hi : Int32} : (¬ v < lo ∧ v ≤ hi) ↔ ¬ sp_X7_in v lo hi = 0 := by
  unfold sp_X7_in
  by_cases c : v < lo
  · rw [if_pos c]; exact ⟨fun h => absurd c h.1, fun h => absurd rfl h⟩
  · rw [if_neg c]
    by_cases d : hi < v
    · rw [if_pos d]; exact ⟨fun h => absurd h.2 (Int32.not_le.mpr d), fun h => absurd rfl h⟩
    · rw [if_neg d]; exact ⟨fun _ => by decide, fun _ => ⟨c, Int32.not_lt.mp d⟩⟩
theorem lt_le {v : Int32} {a b : Int32} (h : b.toInt = a.toInt + 1) : v < b ↔ v ≤ a := by rw [i_lt, i_le]; omega
theorem in_S {v : Int32} : (¬ v < 0 ∧ v < 4) ↔ ¬ sp_X7_in v 0 3 = 0 := by rw [lt_le (a := 3) (b := 4) (by decide)]; exact in_iff
theorem in_V {v : Int32} : (¬ v < 0 ∧ v < 6) ↔ ¬ sp_X7_in v 0 5 = 0 := by rw [lt_le (a := 5) (b := 6) (by decide)]; exact in_iff
theorem S_lt {v : Int32} (h : ¬ v < 0 ∧ v < 4) : v.toNatClampNeg < 4 := rq_lt h (show (4 : Int32) = nI 4 from rfl) (by decide)
theorem V_lt {v : Int32} (h : ¬ v < 0 ∧ v < 6) : v.toNatClampNeg < 6 := rq_lt h (show (6 : Int32) = nI 6 from rfl) (by decide)
section GG
variable {P1 P2 P3 : Prop} {d1 : Decidable P1} {d2 : Decidable P2} {d3 : Decidable P3} {i1 i2 i3 v6 v7 : Int32} {X1 X2 : String}
theorem g1 {R : Prop} (h1 : P1 ↔ ¬ i1 = 0) (hv : P1 → v6 = v7) (hR : R) : ((if P1 then none else some X1) = none → (if i1 = 0 then 1 else 0) = (0 : Int32) ∧ v6 = (if i1 = 0 then 0 else v7) ∧ R) ∧ (∀ (E : String) (cd : Int32), (if P1 then none else some X1) = some E → (E = X1 ∧ cd = 1) → (if i1 = 0 then 1 else 0) = cd ∧ R) := by
  by_cases c : P1
  · have e := h1.mp c
    simp only [if_pos c, if_neg e]
    exact ⟨fun _ => ⟨trivial, hv c, hR⟩, fun E cd q => absurd q (by simp)⟩
  · have e : i1 = 0 := Decidable.not_not.mp (fun q => c (h1.mpr q))
    simp only [if_neg c, if_pos e]
    exact ⟨fun q => absurd q (by simp), fun E cd _ q => ⟨q.2.symm, hR⟩⟩
/-- one check, and a change -/
theorem g1s {T : Type} {F : (Nat → Nat) → T → Prop} {G : T → Prop} {t0 t1 : T} {tt : T} (ht : tt = if i1 = 0 then t0 else t1) (h1 : P1 ↔ ¬ i1 = 0) (hv : P1 → v6 = v7) (hF : P1 → ∀ adn, F adn t1) (hG : G t0) : ((if P1 then none else some X1) = none → (if i1 = 0 then 1 else 0) = (0 : Int32) ∧ v6 = (if i1 = 0 then 0 else v7) ∧ ∀ adn, F adn tt) ∧ (∀ (E : String) (cd : Int32), (if P1 then none else some X1) = some E → (E = X1 ∧ cd = 1) → (if i1 = 0 then 1 else 0) = cd ∧ G tt) := by
  subst ht
  by_cases c : P1
  · have e := h1.mp c
    simp only [if_pos c, if_neg e]
    exact ⟨fun _ => ⟨trivial, hv c, hF c⟩, fun E cd q => absurd q (by simp)⟩
  · have e : i1 = 0 := Decidable.not_not.mp (fun q => c (h1.mpr q))
    simp only [if_neg c, if_pos e]
    exact ⟨fun q => absurd q (by simp), fun E cd _ q => ⟨q.2.symm, hG⟩⟩
theorem g2s {T : Type} {F : (Nat → Nat) → T → Prop} {G : T → Prop} {t0 t1 tt : T} (ht : tt = if i1 = 0 then t0 else if i2 = 0 then t0 else t1) (hX : X1 ≠ X2) (h1 : P1 ↔ ¬ i1 = 0) (h2 : P2 ↔ ¬ i2 = 0) (hv : P1 → P2 → v6 = v7) (hF : P1 → P2 → ∀ adn, F adn t1) (hG : G t0) : ((if P1 then (if P2 then none else some X2) else some X1) = none → (if i1 = 0 then 1 else (if i2 = 0 then 2 else 0)) = (0 : Int32) ∧ v6 = (if i1 = 0 then 0 else (if i2 = 0 then 0 else v7)) ∧ ∀ adn, F adn tt) ∧ (∀ (E : String) (cd : Int32), (if P1 then (if P2 then none else some X2) else some X1) = some E → ((E = X2 ∧ cd = 2) ∨ (E = X1 ∧ cd = 1)) → (if i1 = 0 then 1 else (if i2 = 0 then 2 else 0)) = cd ∧ G tt) := by
  subst ht
  by_cases c : P1
  · have e := h1.mp c
    by_cases c2 : P2
    · have e2 := h2.mp c2
      simp only [if_pos c, if_neg e, if_pos c2, if_neg e2]
      exact ⟨fun _ => ⟨trivial, hv c c2, hF c c2⟩, fun E cd q => absurd q (by simp)⟩
    · have e2 : i2 = 0 := Decidable.not_not.mp (fun q => c2 (h2.mpr q))
      simp only [if_pos c, if_neg e, if_neg c2, if_pos e2]
      refine ⟨fun q => absurd q (by simp), fun E cd q r => ⟨?_, hG⟩⟩
      cases q
      rcases r with ⟨-, r⟩ | ⟨r, -⟩
      · exact r.symm
      · exact absurd r.symm hX
  · have e : i1 = 0 := Decidable.not_not.mp (fun q => c (h1.mpr q))
    simp only [if_neg c, if_pos e]
    refine ⟨fun q => absurd q (by simp), fun E cd q r => ⟨?_, hG⟩⟩
    cases q
    rcases r with ⟨r, -⟩ | ⟨-, r⟩
    · exact absurd r hX
    · exact r.symm
theorem g3s {T : Type} {F : (Nat → Nat) → T → Prop} {G : T → Prop} {t0 t1 tt : T} (ht : tt = if i1 = 0 then t0 else if i2 = 0 then t0 else if i3 = 0 then t0 else t1) (hX : X1 ≠ X2) (h1 : P1 ↔ ¬ i1 = 0) (h2 : P2 ↔ ¬ i2 = 0) (h3 : P3 ↔ ¬ i3 = 0) (hv : P1 → P2 → P3 → v6 = v7) (hF : P1 → P2 → P3 → ∀ adn, F adn t1) (hG : G t0) : ((if P1 then (if P2 then (if P3 then none else some X2) else some X2) else some X1) = none → (if i1 = 0 then 1 else (if i2 = 0 then 2 else (if i3 = 0 then 2 else 0))) = (0 : Int32) ∧ v6 = (if i1 = 0 then 0 else (if i2 = 0 then 0 else (if i3 = 0 then 0 else v7))) ∧ ∀ adn, F adn tt) ∧ (∀ (E : String) (cd : Int32), (if P1 then (if P2 then (if P3 then none else some X2) else some X2) else some X1) = some E → ((E = X2 ∧ cd = 2) ∨ (E = X1 ∧ cd = 1)) → (if i1 = 0 then 1 else (if i2 = 0 then 2 else (if i3 = 0 then 2 else 0))) = cd ∧ G tt) := by
  subst ht
  have hq : ∀ (E : String) (cd : Int32), some X2 = some E → ((E = X2 ∧ cd = 2) ∨ (E = X1 ∧ cd = 1)) → (2 : Int32) = cd := fun E cd q r => by
    cases q
    rcases r with ⟨-, r⟩ | ⟨r, -⟩
    · exact r.symm
    · exact absurd r.symm hX
  by_cases c : P1
  · have e := h1.mp c
    by_cases c2 : P2
    · have e2 := h2.mp c2
      by_cases c3 : P3
      · have e3 := h3.mp c3
        simp only [if_pos c, if_neg e, if_pos c2, if_neg e2, if_pos c3, if_neg e3]
        exact ⟨fun _ => ⟨trivial, hv c c2 c3, hF c c2 c3⟩, fun E cd q => absurd q (by simp)⟩
      · have e3 : i3 = 0 := Decidable.not_not.mp (fun q => c3 (h3.mpr q))
        simp only [if_pos c, if_neg e, if_pos c2, if_neg e2, if_neg c3, if_pos e3]
        exact ⟨fun q => absurd q (by simp), fun E cd q r => ⟨hq E cd q r, hG⟩⟩
    · have e2 : i2 = 0 := Decidable.not_not.mp (fun q => c2 (h2.mpr q))
      simp only [if_pos c, if_neg e, if_neg c2, if_pos e2]
      exact ⟨fun q => absurd q (by simp), fun E cd q r => ⟨hq E cd q r, hG⟩⟩
  · have e : i1 = 0 := Decidable.not_not.mp (fun q => c (h1.mpr q))
    simp only [if_neg c, if_pos e]
    refine ⟨fun q => absurd q (by simp), fun E cd q r => ⟨?_, hG⟩⟩
    cases q
    rcases r with ⟨r, -⟩ | ⟨-, r⟩
    · exact absurd r hX
    · exact r.symm
end GG
theorem xOA : xIO ≠ xIA := by decide
theorem ite2 {A B : Type} {c : Prop} {i : Decidable c} {a a' : A} {b b' : B} : ((if c then a else a'), (if c then b else b')) = (if c then (a, b) else (a', b')) := by
  cases i <;> rfl
theorem VB.free {w : Nat → Int32} {p : Nat} {v : Int32} (h : VB w 0) (hp : p < 24 ∨ p = 147 ∨ (149 ≤ p ∧ p ≠ 155) ∨ ∃ k, k < 6 ∧ (p = 87 + 10 * k + 1 ∨ p = 87 + 10 * k + 5 ∨ p = 87 + 10 * k + 6 ∨ p = 87 + 10 * k + 9)) : VB (upd w p v) 0 := by
  refine h.set ?_ (fun e => ?_) (fun e => ?_) (fun e => ?_) (fun e => ?_) (fun k hk => ⟨fun e => ?_, fun e => ?_, fun e => ?_, fun e => ?_, fun e => ?_, fun e => ?_⟩)
  · rcases hp with hp | hp | hp | ⟨j, hj, hp⟩ <;> omega
  all_goals exfalso; rcases hp with hp | hp | hp | ⟨j, hj, hp⟩ <;> omega
theorem P_position (r : xR) (po : Int32) (pn : Int32) (pl : Int32) (tx : Nat → Int32) (rp : Int32) (rl : Int32) (rs : Int32) (rm : Int32) (rn : Int32) (rz : Int32) (sv : xPl) (mm : xPl) (u : Nat → Int32) (fi : Nat → Int32) (t2 : Nat → Int32) (dm : Nat → Int32) (th : Int32) (sa : Int32) (ln : Int32) (pa : Int32) (le : Int32) (sk : Int32) (nu : Int32) (h : Int64) (qa : Int32) (H : RI r po pn pl tx sv mm u fi t2 sa ln) : ((er_X6_position qa) = none → (sp_X7_position_th qa) = 0 ∧ (r.kp (Int32.toNatClampNeg qa)) = (sp_X7_position u qa) ∧ RI r po pn pl tx sv mm u fi t2 sa ln) ∧ (∀ (E : String) (cd : Int32), (er_X6_position qa) = some E → ((E = xIO ∧ cd = 1)) → (sp_X7_position_th qa) = cd ∧ RI r po pn pl tx sv mm u fi t2 sa ln) := g1 in_S (fun c => (H.1.1.1 _ (S_lt c)).trans (congrArg u (by omega))) H
theorem P_expo (r : xR) (po : Int32) (pn : Int32) (pl : Int32) (tx : Nat → Int32) (rp : Int32) (rl : Int32) (rs : Int32) (rm : Int32) (rn : Int32) (rz : Int32) (sv : xPl) (mm : xPl) (u : Nat → Int32) (fi : Nat → Int32) (t2 : Nat → Int32) (dm : Nat → Int32) (th : Int32) (sa : Int32) (ln : Int32) (pa : Int32) (le : Int32) (sk : Int32) (nu : Int32) (h : Int64) (qa : Int32) (H : RI r po pn pl tx sv mm u fi t2 sa ln) : ((er_X6_expo qa) = none → (sp_X7_expo_th qa) = 0 ∧ (r.ke (Int32.toNatClampNeg qa)) = (sp_X7_expo u qa) ∧ RI r po pn pl tx sv mm u fi t2 sa ln) ∧ (∀ (E : String) (cd : Int32), (er_X6_expo qa) = some E → ((E = xIO ∧ cd = 1)) → (sp_X7_expo_th qa) = cd ∧ RI r po pn pl tx sv mm u fi t2 sa ln) := g1 in_S (fun c => (H.1.1.2.1 _ (S_lt c)).trans (congrArg u (by omega))) H
theorem slN_eq {r : xR} {u : Nat → Int32} {b : Nat} (h : RS r u b) (k : Nat) : slN r.kh k = 4 * (u (b + 24)).toNatClampNeg + k := by
  unfold slN
  rw [h.1.2.2.2.2.1.1]
  rcases h.2.1.2.2.1 with e | e <;> rw [e]
  · rw [if_pos rfl]; show k = 4 * 0 + k; omega
  · rw [if_neg (by decide)]; show 4 + k = 4 * 1 + k; omega
theorem slN_b {r : xR} {u : Nat → Int32} {b : Nat} (h : RS r u b) : (u (b + 24)).toNatClampNeg ≤ 1 := by rcases h.2.1.2.2.1 with e | e <;> rw [e] <;> decide
theorem P_trim (r : xR) (po : Int32) (pn : Int32) (pl : Int32) (tx : Nat → Int32) (rp : Int32) (rl : Int32) (rs : Int32) (rm : Int32) (rn : Int32) (rz : Int32) (sv : xPl) (mm : xPl) (u : Nat → Int32) (fi : Nat → Int32) (t2 : Nat → Int32) (dm : Nat → Int32) (th : Int32) (sa : Int32) (ln : Int32) (pa : Int32) (le : Int32) (sk : Int32) (nu : Int32) (h : Int64) (qa : Int32) (H : RI r po pn pl tx sv mm u fi t2 sa ln) : ((er_X6_trim qa) = none → (sp_X7_trim_th qa) = 0 ∧ (r.kt (slN r.kh (Int32.toNatClampNeg qa))) = (sp_X7_trim u qa) ∧ RI r po pn pl tx sv mm u fi t2 sa ln) ∧ (∀ (E : String) (cd : Int32), (er_X6_trim qa) = some E → ((E = xIO ∧ cd = 1)) → (sp_X7_trim_th qa) = cd ∧ RI r po pn pl tx sv mm u fi t2 sa ln) := g1 in_S (fun c => by
  have e := slN_eq H.1 qa.toNatClampNeg
  rw [Nat.zero_add] at e
  have hl := S_lt c
  have hb := slN_b H.1
  rw [Nat.zero_add] at hb
  rw [e]
  exact (H.1.1.2.2.2.1 _ (by omega)).trans (congrArg u (by omega))) H
theorem P_rate (r : xR) (po : Int32) (pn : Int32) (pl : Int32) (tx : Nat → Int32) (rp : Int32) (rl : Int32) (rs : Int32) (rm : Int32) (rn : Int32) (rz : Int32) (sv : xPl) (mm : xPl) (u : Nat → Int32) (fi : Nat → Int32) (t2 : Nat → Int32) (dm : Nat → Int32) (th : Int32) (sa : Int32) (ln : Int32) (pa : Int32) (le : Int32) (sk : Int32) (nu : Int32) (h : Int64) (qa : Int32) (H : RI r po pn pl tx sv mm u fi t2 sa ln) : ((er_X6_rate qa) = none → (sp_X7_rate_th qa) = 0 ∧ (r.kr (slN r.kh (Int32.toNatClampNeg qa))) = (sp_X7_rate u qa) ∧ RI r po pn pl tx sv mm u fi t2 sa ln) ∧ (∀ (E : String) (cd : Int32), (er_X6_rate qa) = some E → ((E = xIO ∧ cd = 1)) → (sp_X7_rate_th qa) = cd ∧ RI r po pn pl tx sv mm u fi t2 sa ln) := g1 in_S (fun c => by
  have e := slN_eq H.1 qa.toNatClampNeg
  rw [Nat.zero_add] at e
  have hl := S_lt c
  have hb := slN_b H.1
  rw [Nat.zero_add] at hb
  rw [e]
  exact (H.1.1.2.2.1 _ (by omega)).trans (congrArg u (by omega))) H
theorem P_target (r : xR) (po : Int32) (pn : Int32) (pl : Int32) (tx : Nat → Int32) (rp : Int32) (rl : Int32) (rs : Int32) (rm : Int32) (rn : Int32) (rz : Int32) (sv : xPl) (mm : xPl) (u : Nat → Int32) (fi : Nat → Int32) (t2 : Nat → Int32) (dm : Nat → Int32) (th : Int32) (sa : Int32) (ln : Int32) (pa : Int32) (le : Int32) (sk : Int32) (nu : Int32) (h : Int64) (qa : Int32) (H : RI r po pn pl tx sv mm u fi t2 sa ln) : ((er_X6_target qa) = none → (sp_X7_target_th qa) = 0 ∧ (r.vt (Int32.toNatClampNeg qa)) = (sp_X7_target u qa) ∧ RI r po pn pl tx sv mm u fi t2 sa ln) ∧ (∀ (E : String) (cd : Int32), (er_X6_target qa) = some E → ((E = xIO ∧ cd = 1)) → (sp_X7_target_th qa) = cd ∧ RI r po pn pl tx sv mm u fi t2 sa ln) := g1 in_V (fun c => (H.1.1.2.2.2.2.2.2.1 _ (V_lt c)).2.2.2.2.2.2.2.1) H
theorem P_servoPosition (r : xR) (po : Int32) (pn : Int32) (pl : Int32) (tx : Nat → Int32) (rp : Int32) (rl : Int32) (rs : Int32) (rm : Int32) (rn : Int32) (rz : Int32) (sv : xPl) (mm : xPl) (u : Nat → Int32) (fi : Nat → Int32) (t2 : Nat → Int32) (dm : Nat → Int32) (th : Int32) (sa : Int32) (ln : Int32) (pa : Int32) (le : Int32) (sk : Int32) (nu : Int32) (h : Int64) (qa : Int32) (H : RI r po pn pl tx sv mm u fi t2 sa ln) : ((er_X6_servoPosition qa) = none → (sp_X7_servoPosition_th qa) = 0 ∧ (r.va (Int32.toNatClampNeg qa)) = (sp_X7_servoPosition u qa) ∧ RI r po pn pl tx sv mm u fi t2 sa ln) ∧ (∀ (E : String) (cd : Int32), (er_X6_servoPosition qa) = some E → ((E = xIO ∧ cd = 1)) → (sp_X7_servoPosition_th qa) = cd ∧ RI r po pn pl tx sv mm u fi t2 sa ln) := g1 in_V (fun c => (H.1.1.2.2.2.2.2.2.1 _ (V_lt c)).2.2.2.2.2.2.2.2.1) H
theorem P_wear (r : xR) (po : Int32) (pn : Int32) (pl : Int32) (tx : Nat → Int32) (rp : Int32) (rl : Int32) (rs : Int32) (rm : Int32) (rn : Int32) (rz : Int32) (sv : xPl) (mm : xPl) (u : Nat → Int32) (fi : Nat → Int32) (t2 : Nat → Int32) (dm : Nat → Int32) (th : Int32) (sa : Int32) (ln : Int32) (pa : Int32) (le : Int32) (sk : Int32) (nu : Int32) (h : Int64) (qa : Int32) (H : RI r po pn pl tx sv mm u fi t2 sa ln) : ((er_X6_wear qa) = none → (sp_X7_wear_th qa) = 0 ∧ (r.vw (Int32.toNatClampNeg qa)) = (sp_X7_wear u qa) ∧ RI r po pn pl tx sv mm u fi t2 sa ln) ∧ (∀ (E : String) (cd : Int32), (er_X6_wear qa) = some E → ((E = xIO ∧ cd = 1)) → (sp_X7_wear_th qa) = cd ∧ RI r po pn pl tx sv mm u fi t2 sa ln) := g1 in_V (fun c => (H.1.1.2.2.2.2.2.2.1 _ (V_lt c)).2.2.2.2.2.2.2.2.2) H
theorem in_M {r : xR} {u : Nat → Int32} (h : RS r u 0) {v : Int32} : (¬ v < 0 ∧ v < r.xn) ↔ ¬ sp_X7_in v 0 (u 26 - 1) = 0 := by
  have e : r.xn = u 26 := h.1.2.2.2.2.1.2.2
  have h1 : u 26 = nI (rN u 0) := h.2.1.1
  have h2 : rN u 0 ≤ 12 := h.2.1.2.1
  have e1 : (u 26).toInt = (rN u 0 : Int) := by
    rw [h1]
    exact nI_toInt (by omega)
  have e2 : (u 26).toInt = (u 26 - 1).toInt + 1 := by
    by_cases c : rN u 0 = 0
    · rw [h1, c]; decide
    · have e3 : u 26 - 1 = nI (rN u 0 - 1) := by
        conv => lhs; rw [h1]
        exact pk_sub1 (by omega)
      rw [e1, e3, nI_toInt (by omega)]
      omega
  rw [e, lt_le e2]
  exact in_iff
theorem M_lt {r : xR} {u : Nat → Int32} (h : RS r u 0) {v : Int32} (c : ¬ v < 0 ∧ v < r.xn) : v.toNatClampNeg < rN u 0 := by
  have e : r.xn = u (0 + 26) := h.1.2.2.2.2.1.2.2
  rw [e] at c
  exact rq_lt c h.2.1.1 (by have := h.2.1.2.1; omega)
theorem P_mixSource (r : xR) (po : Int32) (pn : Int32) (pl : Int32) (tx : Nat → Int32) (rp : Int32) (rl : Int32) (rs : Int32) (rm : Int32) (rn : Int32) (rz : Int32) (sv : xPl) (mm : xPl) (u : Nat → Int32) (fi : Nat → Int32) (t2 : Nat → Int32) (dm : Nat → Int32) (th : Int32) (sa : Int32) (ln : Int32) (pa : Int32) (le : Int32) (sk : Int32) (nu : Int32) (h : Int64) (qa : Int32) (H : RI r po pn pl tx sv mm u fi t2 sa ln) : ((er_X6_mixSource r qa) = none → (sp_X7_mixSource_th u qa) = 0 ∧ (r.xs (Int32.toNatClampNeg qa)) = (sp_X7_mixSource u qa) ∧ RI r po pn pl tx sv mm u fi t2 sa ln) ∧ (∀ (E : String) (cd : Int32), (er_X6_mixSource r qa) = some E → ((E = xIO ∧ cd = 1)) → (sp_X7_mixSource_th u qa) = cd ∧ RI r po pn pl tx sv mm u fi t2 sa ln) := g1 (in_M H.1) (fun c => (H.1.1.2.2.2.2.2.1 _ (M_lt H.1 c)).1) H
theorem P_mixServo (r : xR) (po : Int32) (pn : Int32) (pl : Int32) (tx : Nat → Int32) (rp : Int32) (rl : Int32) (rs : Int32) (rm : Int32) (rn : Int32) (rz : Int32) (sv : xPl) (mm : xPl) (u : Nat → Int32) (fi : Nat → Int32) (t2 : Nat → Int32) (dm : Nat → Int32) (th : Int32) (sa : Int32) (ln : Int32) (pa : Int32) (le : Int32) (sk : Int32) (nu : Int32) (h : Int64) (qa : Int32) (H : RI r po pn pl tx sv mm u fi t2 sa ln) : ((er_X6_mixServo r qa) = none → (sp_X7_mixServo_th u qa) = 0 ∧ (r.xv (Int32.toNatClampNeg qa)) = (sp_X7_mixServo u qa) ∧ RI r po pn pl tx sv mm u fi t2 sa ln) ∧ (∀ (E : String) (cd : Int32), (er_X6_mixServo r qa) = some E → ((E = xIO ∧ cd = 1)) → (sp_X7_mixServo_th u qa) = cd ∧ RI r po pn pl tx sv mm u fi t2 sa ln) := g1 (in_M H.1) (fun c => (H.1.1.2.2.2.2.2.1 _ (M_lt H.1 c)).2.1) H
theorem P_move (r : xR) (po : Int32) (pn : Int32) (pl : Int32) (tx : Nat → Int32) (rp : Int32) (rl : Int32) (rs : Int32) (rm : Int32) (rn : Int32) (rz : Int32) (sv : xPl) (mm : xPl) (u : Nat → Int32) (fi : Nat → Int32) (t2 : Nat → Int32) (dm : Nat → Int32) (th : Int32) (sa : Int32) (ln : Int32) (pa : Int32) (le : Int32) (sk : Int32) (nu : Int32) (h : Int64) (qa : Int32) (qb : Int32) (H : RI r po pn pl tx sv mm u fi t2 sa ln) : ((er_X6_move qa qb) = none → (sp_X7_move_th qa qb) = 0 ∧ (r.kp (Int32.toNatClampNeg qa)) = (sp_X7_move u sa qa qb) ∧ ∀ adn : Nat → Nat, RI (r.set_kp (upd r.kp (Int32.toNatClampNeg qa) qb)) (sp_spo2 po pn) (sp_spn2 pn) pl tx (svS sv adn r po pn) mm (sp_X7_move_s u sa qa qb) fi t2 (sp_X7_move_sa sa qa qb) ln) ∧ (∀ (E : String) (cd : Int32), (er_X6_move qa qb) = some E → ((E = xIA ∧ cd = 2) ∨ (E = xIO ∧ cd = 1)) → (sp_X7_move_th qa qb) = cd ∧ RI r po pn pl tx sv mm (sp_X7_move_s u sa qa qb) fi t2 (sp_X7_move_sa sa qa qb) ln) := by
  refine g2s (T := (Nat → Int32) × Int32) (F := fun adn t => RI (r.set_kp (upd r.kp (Int32.toNatClampNeg qa) qb)) (sp_spo2 po pn) (sp_spn2 pn) pl tx (svS sv adn r po pn) mm t.1 fi t2 t.2 ln) (G := fun t => RI r po pn pl tx sv mm t.1 fi t2 t.2 ln) (t0 := (u, sa)) (t1 := (upd (sp_X7_save_s u sa) (0 + qa.toNatClampNeg) qb, sp_X7_save_sa sa)) (tt := (sp_X7_move_s u sa qa qb, sp_X7_move_sa sa qa qb)) ?_ xOA in_S in_iff (fun c c2 => ?_) (fun c c2 adn => ?_) H
  · unfold sp_X7_move_s sp_X7_move_sa
    rw [ite2, ite2]
  · have hk := S_lt c
    exact (H.sv0.1.1 _ hk).trans (congrArg _ (by omega))
  · have hk := S_lt c
    exact H.saved adn (fun q q1 q2 => un (by omega)) ⟨H.sv0.1.set_kp H.sv0.2.1.2.1 hk rfl, H.sv0.2.free (Or.inl (by omega))⟩
theorem P_setExpo (r : xR) (po : Int32) (pn : Int32) (pl : Int32) (tx : Nat → Int32) (rp : Int32) (rl : Int32) (rs : Int32) (rm : Int32) (rn : Int32) (rz : Int32) (sv : xPl) (mm : xPl) (u : Nat → Int32) (fi : Nat → Int32) (t2 : Nat → Int32) (dm : Nat → Int32) (th : Int32) (sa : Int32) (ln : Int32) (pa : Int32) (le : Int32) (sk : Int32) (nu : Int32) (h : Int64) (qa : Int32) (qb : Int32) (H : RI r po pn pl tx sv mm u fi t2 sa ln) : ((er_X6_setExpo qa qb) = none → (sp_X7_setExpo_th qa qb) = 0 ∧ (r.ke (Int32.toNatClampNeg qa)) = (sp_X7_setExpo u sa qa qb) ∧ ∀ adn : Nat → Nat, RI (r.set_ke (upd r.ke (Int32.toNatClampNeg qa) qb)) (sp_spo2 po pn) (sp_spn2 pn) pl tx (svS sv adn r po pn) mm (sp_X7_setExpo_s u sa qa qb) fi t2 (sp_X7_setExpo_sa sa qa qb) ln) ∧ (∀ (E : String) (cd : Int32), (er_X6_setExpo qa qb) = some E → ((E = xIA ∧ cd = 2) ∨ (E = xIO ∧ cd = 1)) → (sp_X7_setExpo_th qa qb) = cd ∧ RI r po pn pl tx sv mm (sp_X7_setExpo_s u sa qa qb) fi t2 (sp_X7_setExpo_sa sa qa qb) ln) := by
  refine g2s (T := (Nat → Int32) × Int32) (F := fun adn t => RI (r.set_ke (upd r.ke (Int32.toNatClampNeg qa) qb)) (sp_spo2 po pn) (sp_spn2 pn) pl tx (svS sv adn r po pn) mm t.1 fi t2 t.2 ln) (G := fun t => RI r po pn pl tx sv mm t.1 fi t2 t.2 ln) (t0 := (u, sa)) (t1 := (upd (sp_X7_save_s u sa) (4 + qa.toNatClampNeg) qb, sp_X7_save_sa sa)) (tt := (sp_X7_setExpo_s u sa qa qb, sp_X7_setExpo_sa sa qa qb)) ?_ xOA in_S in_iff (fun c c2 => ?_) (fun c c2 adn => ?_) H
  · unfold sp_X7_setExpo_s sp_X7_setExpo_sa
    rw [ite2, ite2]
  · have hk := S_lt c
    exact (H.sv0.1.2.1 _ hk).trans (congrArg _ (by omega))
  · have hk := S_lt c
    exact H.saved adn (fun q q1 q2 => un (by omega)) ⟨H.sv0.1.set_ke H.sv0.2.1.2.1 hk rfl, H.sv0.2.free (Or.inl (by omega))⟩
theorem P_setTrim (r : xR) (po : Int32) (pn : Int32) (pl : Int32) (tx : Nat → Int32) (rp : Int32) (rl : Int32) (rs : Int32) (rm : Int32) (rn : Int32) (rz : Int32) (sv : xPl) (mm : xPl) (u : Nat → Int32) (fi : Nat → Int32) (t2 : Nat → Int32) (dm : Nat → Int32) (th : Int32) (sa : Int32) (ln : Int32) (pa : Int32) (le : Int32) (sk : Int32) (nu : Int32) (h : Int64) (qa : Int32) (qb : Int32) (H : RI r po pn pl tx sv mm u fi t2 sa ln) : ((er_X6_setTrim qa qb) = none → (sp_X7_setTrim_th qa qb) = 0 ∧ (r.kt (slN r.kh (Int32.toNatClampNeg qa))) = (sp_X7_setTrim u sa qa qb) ∧ ∀ adn : Nat → Nat, RI (r.set_kt (upd r.kt (slN r.kh (Int32.toNatClampNeg qa)) qb)) (sp_spo2 po pn) (sp_spn2 pn) pl tx (svS sv adn r po pn) mm (sp_X7_setTrim_s u sa qa qb) fi t2 (sp_X7_setTrim_sa sa qa qb) ln) ∧ (∀ (E : String) (cd : Int32), (er_X6_setTrim qa qb) = some E → ((E = xIA ∧ cd = 2) ∨ (E = xIO ∧ cd = 1)) → (sp_X7_setTrim_th qa qb) = cd ∧ RI r po pn pl tx sv mm (sp_X7_setTrim_s u sa qa qb) fi t2 (sp_X7_setTrim_sa sa qa qb) ln) := by
  refine g2s (T := (Nat → Int32) × Int32) (F := fun adn t => RI (r.set_kt (upd r.kt (slN r.kh (Int32.toNatClampNeg qa)) qb)) (sp_spo2 po pn) (sp_spn2 pn) pl tx (svS sv adn r po pn) mm t.1 fi t2 t.2 ln) (G := fun t => RI r po pn pl tx sv mm t.1 fi t2 t.2 ln) (t0 := (u, sa)) (t1 := (upd (sp_X7_save_s u sa) (16 + 4 * (u 24).toNatClampNeg + qa.toNatClampNeg) qb, sp_X7_save_sa sa)) (tt := (sp_X7_setTrim_s u sa qa qb, sp_X7_setTrim_sa sa qa qb)) ?_ xOA in_S in_iff (fun c c2 => ?_) (fun c c2 adn => ?_) H
  · unfold sp_X7_setTrim_s sp_X7_setTrim_sa
    rw [ite2, ite2]
  · have hk := S_lt c
    have e := slN_eq H.1 qa.toNatClampNeg
    rw [Nat.zero_add] at e
    have hb := slN_b H.1
    rw [Nat.zero_add] at hb
    have hl : slN r.kh qa.toNatClampNeg < 8 := slN_lt _ hk
    exact (H.sv0.1.2.2.2.1 _ hl).trans (congrArg _ (by omega))
  · have hk := S_lt c
    have e := slN_eq H.1 qa.toNatClampNeg
    rw [Nat.zero_add] at e
    have hb := slN_b H.1
    rw [Nat.zero_add] at hb
    have hl : slN r.kh qa.toNatClampNeg < 8 := slN_lt _ hk
    exact H.saved adn (fun q q1 q2 => un (by omega)) ⟨H.sv0.1.set_kt H.sv0.2.1.2.1 hl (by omega), H.sv0.2.free (Or.inl (by omega))⟩
theorem P_setRate (r : xR) (po : Int32) (pn : Int32) (pl : Int32) (tx : Nat → Int32) (rp : Int32) (rl : Int32) (rs : Int32) (rm : Int32) (rn : Int32) (rz : Int32) (sv : xPl) (mm : xPl) (u : Nat → Int32) (fi : Nat → Int32) (t2 : Nat → Int32) (dm : Nat → Int32) (th : Int32) (sa : Int32) (ln : Int32) (pa : Int32) (le : Int32) (sk : Int32) (nu : Int32) (h : Int64) (qa : Int32) (qb : Int32) (H : RI r po pn pl tx sv mm u fi t2 sa ln) : ((er_X6_setRate qa qb) = none → (sp_X7_setRate_th qa qb) = 0 ∧ (r.kr (slN r.kh (Int32.toNatClampNeg qa))) = (sp_X7_setRate u sa qa qb) ∧ ∀ adn : Nat → Nat, RI (r.set_kr (upd r.kr (slN r.kh (Int32.toNatClampNeg qa)) qb)) (sp_spo2 po pn) (sp_spn2 pn) pl tx (svS sv adn r po pn) mm (sp_X7_setRate_s u sa qa qb) fi t2 (sp_X7_setRate_sa sa qa qb) ln) ∧ (∀ (E : String) (cd : Int32), (er_X6_setRate qa qb) = some E → ((E = xIA ∧ cd = 2) ∨ (E = xIO ∧ cd = 1)) → (sp_X7_setRate_th qa qb) = cd ∧ RI r po pn pl tx sv mm (sp_X7_setRate_s u sa qa qb) fi t2 (sp_X7_setRate_sa sa qa qb) ln) := by
  refine g2s (T := (Nat → Int32) × Int32) (F := fun adn t => RI (r.set_kr (upd r.kr (slN r.kh (Int32.toNatClampNeg qa)) qb)) (sp_spo2 po pn) (sp_spn2 pn) pl tx (svS sv adn r po pn) mm t.1 fi t2 t.2 ln) (G := fun t => RI r po pn pl tx sv mm t.1 fi t2 t.2 ln) (t0 := (u, sa)) (t1 := (upd (sp_X7_save_s u sa) (8 + 4 * (u 24).toNatClampNeg + qa.toNatClampNeg) qb, sp_X7_save_sa sa)) (tt := (sp_X7_setRate_s u sa qa qb, sp_X7_setRate_sa sa qa qb)) ?_ xOA in_S in_iff (fun c c2 => ?_) (fun c c2 adn => ?_) H
  · unfold sp_X7_setRate_s sp_X7_setRate_sa
    rw [ite2, ite2]
  · have hk := S_lt c
    have e := slN_eq H.1 qa.toNatClampNeg
    rw [Nat.zero_add] at e
    have hb := slN_b H.1
    rw [Nat.zero_add] at hb
    have hl : slN r.kh qa.toNatClampNeg < 8 := slN_lt _ hk
    exact (H.sv0.1.2.2.1 _ hl).trans (congrArg _ (by omega))
  · have hk := S_lt c
    have e := slN_eq H.1 qa.toNatClampNeg
    rw [Nat.zero_add] at e
    have hb := slN_b H.1
    rw [Nat.zero_add] at hb
    have hl : slN r.kh qa.toNatClampNeg < 8 := slN_lt _ hk
    exact H.saved adn (fun q q1 q2 => un (by omega)) ⟨H.sv0.1.set_kr H.sv0.2.1.2.1 hl (by omega), H.sv0.2.free (Or.inl (by omega))⟩
theorem P_setNeutral (r : xR) (po : Int32) (pn : Int32) (pl : Int32) (tx : Nat → Int32) (rp : Int32) (rl : Int32) (rs : Int32) (rm : Int32) (rn : Int32) (rz : Int32) (sv : xPl) (mm : xPl) (u : Nat → Int32) (fi : Nat → Int32) (t2 : Nat → Int32) (dm : Nat → Int32) (th : Int32) (sa : Int32) (ln : Int32) (pa : Int32) (le : Int32) (sk : Int32) (nu : Int32) (h : Int64) (qa : Int32) (qb : Int32) (H : RI r po pn pl tx sv mm u fi t2 sa ln) : ((er_X6_setNeutral qa qb) = none → (sp_X7_setNeutral_th qa qb) = 0 ∧ (r.vn (Int32.toNatClampNeg qa)) = (sp_X7_setNeutral u sa qa qb) ∧ ∀ adn : Nat → Nat, RI (r.set_vn (upd r.vn (Int32.toNatClampNeg qa) qb)) (sp_spo2 po pn) (sp_spn2 pn) pl tx (svS sv adn r po pn) mm (sp_X7_setNeutral_s u sa qa qb) fi t2 (sp_X7_setNeutral_sa sa qa qb) ln) ∧ (∀ (E : String) (cd : Int32), (er_X6_setNeutral qa qb) = some E → ((E = xIA ∧ cd = 2) ∨ (E = xIO ∧ cd = 1)) → (sp_X7_setNeutral_th qa qb) = cd ∧ RI r po pn pl tx sv mm (sp_X7_setNeutral_s u sa qa qb) fi t2 (sp_X7_setNeutral_sa sa qa qb) ln) := by
  refine g2s (T := (Nat → Int32) × Int32) (F := fun adn t => RI (r.set_vn (upd r.vn (Int32.toNatClampNeg qa) qb)) (sp_spo2 po pn) (sp_spn2 pn) pl tx (svS sv adn r po pn) mm t.1 fi t2 t.2 ln) (G := fun t => RI r po pn pl tx sv mm t.1 fi t2 t.2 ln) (t0 := (u, sa)) (t1 := (upd (sp_X7_save_s u sa) (87 + 10 * qa.toNatClampNeg + 1) qb, sp_X7_save_sa sa)) (tt := (sp_X7_setNeutral_s u sa qa qb, sp_X7_setNeutral_sa sa qa qb)) ?_ xOA in_V in_iff (fun c c2 => ?_) (fun c c2 adn => ?_) H
  · unfold sp_X7_setNeutral_s sp_X7_setNeutral_sa
    rw [ite2, ite2]
  · have hk := V_lt c
    exact (H.sv0.1.2.2.2.2.2.2.1 _ hk).2.1.trans (congrArg _ (by omega))
  · have hk := V_lt c
    exact H.saved adn (fun q q1 q2 => un (by omega)) ⟨H.sv0.1.set_vn H.sv0.2.1.2.1 hk rfl, H.sv0.2.free (Or.inr (Or.inr (Or.inr ⟨_, hk, Or.inl rfl⟩)))⟩
theorem P_setSpeed (r : xR) (po : Int32) (pn : Int32) (pl : Int32) (tx : Nat → Int32) (rp : Int32) (rl : Int32) (rs : Int32) (rm : Int32) (rn : Int32) (rz : Int32) (sv : xPl) (mm : xPl) (u : Nat → Int32) (fi : Nat → Int32) (t2 : Nat → Int32) (dm : Nat → Int32) (th : Int32) (sa : Int32) (ln : Int32) (pa : Int32) (le : Int32) (sk : Int32) (nu : Int32) (h : Int64) (qa : Int32) (qb : Int32) (H : RI r po pn pl tx sv mm u fi t2 sa ln) : ((er_X6_setSpeed qa qb) = none → (sp_X7_setSpeed_th qa qb) = 0 ∧ (r.vs (Int32.toNatClampNeg qa)) = (sp_X7_setSpeed u sa qa qb) ∧ ∀ adn : Nat → Nat, RI (r.set_vs (upd r.vs (Int32.toNatClampNeg qa) qb)) (sp_spo2 po pn) (sp_spn2 pn) pl tx (svS sv adn r po pn) mm (sp_X7_setSpeed_s u sa qa qb) fi t2 (sp_X7_setSpeed_sa sa qa qb) ln) ∧ (∀ (E : String) (cd : Int32), (er_X6_setSpeed qa qb) = some E → ((E = xIA ∧ cd = 2) ∨ (E = xIO ∧ cd = 1)) → (sp_X7_setSpeed_th qa qb) = cd ∧ RI r po pn pl tx sv mm (sp_X7_setSpeed_s u sa qa qb) fi t2 (sp_X7_setSpeed_sa sa qa qb) ln) := by
  refine g2s (T := (Nat → Int32) × Int32) (F := fun adn t => RI (r.set_vs (upd r.vs (Int32.toNatClampNeg qa) qb)) (sp_spo2 po pn) (sp_spn2 pn) pl tx (svS sv adn r po pn) mm t.1 fi t2 t.2 ln) (G := fun t => RI r po pn pl tx sv mm t.1 fi t2 t.2 ln) (t0 := (u, sa)) (t1 := (upd (sp_X7_save_s u sa) (87 + 10 * qa.toNatClampNeg + 4) qb, sp_X7_save_sa sa)) (tt := (sp_X7_setSpeed_s u sa qa qb, sp_X7_setSpeed_sa sa qa qb)) ?_ xOA in_V in_iff (fun c c2 => ?_) (fun c c2 adn => ?_) H
  · unfold sp_X7_setSpeed_s sp_X7_setSpeed_sa
    rw [ite2, ite2]
  · have hk := V_lt c
    exact (H.sv0.1.2.2.2.2.2.2.1 _ hk).2.2.2.2.1.trans (congrArg _ (by omega))
  · have hk := V_lt c
    exact H.saved adn (fun q q1 q2 => un (by omega)) ⟨H.sv0.1.set_vs H.sv0.2.1.2.1 hk rfl, H.sv0.2.set (Or.inr (by omega)) (fun e => absurd e (by omega)) (fun e => absurd e (by omega)) (fun e => absurd e (by omega)) (fun e => absurd e (by omega)) (fun k _ => ⟨fun e => absurd e (by omega), fun e => absurd e (by omega), fun e => absurd e (by omega), fun _ => Int32.not_lt.mp c2.1, fun e => absurd e (by omega), fun e => absurd e (by omega)⟩)⟩
theorem P_setLimits (r : xR) (po : Int32) (pn : Int32) (pl : Int32) (tx : Nat → Int32) (rp : Int32) (rl : Int32) (rs : Int32) (rm : Int32) (rn : Int32) (rz : Int32) (sv : xPl) (mm : xPl) (u : Nat → Int32) (fi : Nat → Int32) (t2 : Nat → Int32) (dm : Nat → Int32) (th : Int32) (sa : Int32) (ln : Int32) (pa : Int32) (le : Int32) (sk : Int32) (nu : Int32) (h : Int64) (qa : Int32) (qb : Int32) (qc : Int32) (H : RI r po pn pl tx sv mm u fi t2 sa ln) : ((er_X6_setLimits qa qb qc) = none → (sp_X7_setLimits_th qa qb qc) = 0 ∧ ((r.vu (Int32.toNatClampNeg qa)) - (r.vl (Int32.toNatClampNeg qa))) = (sp_X7_setLimits u sa qa qb qc) ∧ ∀ adn : Nat → Nat, RI (xRk r.kp r.ke r.kr r.kt r.kh r.kc r.xn r.xs r.xv r.xh r.xo r.xc r.vd r.vn (upd r.vl (Int32.toNatClampNeg qa) qb) (upd r.vu (Int32.toNatClampNeg qa) qc) r.vs r.vm r.vp r.vt r.va r.vw r.jd r.jb r.jc r.js r.jl r.jx r.ji r.jf r.jn r.dq) (sp_spo2 po pn) (sp_spn2 pn) pl tx (svS sv adn r po pn) mm (sp_X7_setLimits_s u sa qa qb qc) fi t2 (sp_X7_setLimits_sa sa qa qb qc) ln) ∧ (∀ (E : String) (cd : Int32), (er_X6_setLimits qa qb qc) = some E → ((E = xIA ∧ cd = 2) ∨ (E = xIO ∧ cd = 1)) → (sp_X7_setLimits_th qa qb qc) = cd ∧ RI r po pn pl tx sv mm (sp_X7_setLimits_s u sa qa qb qc) fi t2 (sp_X7_setLimits_sa sa qa qb qc) ln) := by
  refine g3s (T := (Nat → Int32) × Int32) (F := fun adn t => RI (xRk r.kp r.ke r.kr r.kt r.kh r.kc r.xn r.xs r.xv r.xh r.xo r.xc r.vd r.vn (upd r.vl (Int32.toNatClampNeg qa) qb) (upd r.vu (Int32.toNatClampNeg qa) qc) r.vs r.vm r.vp r.vt r.va r.vw r.jd r.jb r.jc r.js r.jl r.jx r.ji r.jf r.jn r.dq) (sp_spo2 po pn) (sp_spn2 pn) pl tx (svS sv adn r po pn) mm t.1 fi t2 t.2 ln) (G := fun t => RI r po pn pl tx sv mm t.1 fi t2 t.2 ln) (t0 := (u, sa)) (t1 := (upd (upd (sp_X7_save_s u sa) (0 + 87 + 10 * qa.toNatClampNeg + 2) qb) (0 + 87 + 10 * qa.toNatClampNeg + 3) qc, sp_X7_save_sa sa)) (tt := (sp_X7_setLimits_s u sa qa qb qc, sp_X7_setLimits_sa sa qa qb qc)) ?_ xOA in_V in_iff in_iff (fun c c2 c3 => ?_) (fun c c2 c3 adn => ?_) H
  · unfold sp_X7_setLimits_s sp_X7_setLimits_sa
    rw [ite2, ite2, ite2]
  · have hk := V_lt c
    have a := H.sv0.1.2.2.2.2.2.2.1 _ hk
    rw [a.2.2.1, a.2.2.2.1]
  · have hk := V_lt c
    have hA : RS (r.set_vl (upd r.vl qa.toNatClampNeg qb)) (upd (sp_X7_save_s u sa) (0 + 87 + 10 * qa.toNatClampNeg + 2) qb) 0 := ⟨H.sv0.1.set_vl H.sv0.2.1.2.1 hk (by omega), H.sv0.2.set (Or.inr (by omega)) (fun e => absurd e (by omega)) (fun e => absurd e (by omega)) (fun e => absurd e (by omega)) (fun e => absurd e (by omega)) (fun k _ => ⟨fun e => absurd e (by omega), fun _ => ⟨Int32.not_lt.mp c2.1, c2.2⟩, fun e => absurd e (by omega), fun e => absurd e (by omega), fun e => absurd e (by omega), fun e => absurd e (by omega)⟩)⟩
    exact H.saved adn (fun q q1 q2 => (un (by omega)).trans (un (by omega))) ⟨hA.1.set_vu hA.2.1.2.1 hk (by omega), hA.2.set (Or.inr (by omega)) (fun e => absurd e (by omega)) (fun e => absurd e (by omega)) (fun e => absurd e (by omega)) (fun e => absurd e (by omega)) (fun k _ => ⟨fun e => absurd e (by omega), fun e => absurd e (by omega), fun _ => ⟨Int32.not_lt.mp c3.1, c3.2⟩, fun e => absurd e (by omega), fun e => absurd e (by omega), fun e => absurd e (by omega)⟩)⟩
theorem P_setFailsafe (r : xR) (po : Int32) (pn : Int32) (pl : Int32) (tx : Nat → Int32) (rp : Int32) (rl : Int32) (rs : Int32) (rm : Int32) (rn : Int32) (rz : Int32) (sv : xPl) (mm : xPl) (u : Nat → Int32) (fi : Nat → Int32) (t2 : Nat → Int32) (dm : Nat → Int32) (th : Int32) (sa : Int32) (ln : Int32) (pa : Int32) (le : Int32) (sk : Int32) (nu : Int32) (h : Int64) (qa : Int32) (qb : Int32) (qc : Int32) (H : RI r po pn pl tx sv mm u fi t2 sa ln) : ((er_X6_setFailsafe qa qb qc) = none → (sp_X7_setFailsafe_th qa qb qc) = 0 ∧ (r.vm (Int32.toNatClampNeg qa)) = (sp_X7_setFailsafe u sa qa qb qc) ∧ ∀ adn : Nat → Nat, RI (xRk r.kp r.ke r.kr r.kt r.kh r.kc r.xn r.xs r.xv r.xh r.xo r.xc r.vd r.vn r.vl r.vu r.vs (upd r.vm (Int32.toNatClampNeg qa) qb) (upd r.vp (Int32.toNatClampNeg qa) qc) r.vt r.va r.vw r.jd r.jb r.jc r.js r.jl r.jx r.ji r.jf r.jn r.dq) (sp_spo2 po pn) (sp_spn2 pn) pl tx (svS sv adn r po pn) mm (sp_X7_setFailsafe_s u sa qa qb qc) fi t2 (sp_X7_setFailsafe_sa sa qa qb qc) ln) ∧ (∀ (E : String) (cd : Int32), (er_X6_setFailsafe qa qb qc) = some E → ((E = xIA ∧ cd = 2) ∨ (E = xIO ∧ cd = 1)) → (sp_X7_setFailsafe_th qa qb qc) = cd ∧ RI r po pn pl tx sv mm (sp_X7_setFailsafe_s u sa qa qb qc) fi t2 (sp_X7_setFailsafe_sa sa qa qb qc) ln) := by
  refine g3s (T := (Nat → Int32) × Int32) (F := fun adn t => RI (xRk r.kp r.ke r.kr r.kt r.kh r.kc r.xn r.xs r.xv r.xh r.xo r.xc r.vd r.vn r.vl r.vu r.vs (upd r.vm (Int32.toNatClampNeg qa) qb) (upd r.vp (Int32.toNatClampNeg qa) qc) r.vt r.va r.vw r.jd r.jb r.jc r.js r.jl r.jx r.ji r.jf r.jn r.dq) (sp_spo2 po pn) (sp_spn2 pn) pl tx (svS sv adn r po pn) mm t.1 fi t2 t.2 ln) (G := fun t => RI r po pn pl tx sv mm t.1 fi t2 t.2 ln) (t0 := (u, sa)) (t1 := (upd (upd (sp_X7_save_s u sa) (0 + 87 + 10 * qa.toNatClampNeg + 5) qb) (0 + 87 + 10 * qa.toNatClampNeg + 6) qc, sp_X7_save_sa sa)) (tt := (sp_X7_setFailsafe_s u sa qa qb qc, sp_X7_setFailsafe_sa sa qa qb qc)) ?_ xOA in_V in_iff in_iff (fun c c2 c3 => ?_) (fun c c2 c3 adn => ?_) H
  · unfold sp_X7_setFailsafe_s sp_X7_setFailsafe_sa
    rw [ite2, ite2, ite2]
  · have hk := V_lt c
    have a := H.sv0.1.2.2.2.2.2.2.1 _ hk
    exact a.2.2.2.2.2.1
  · have hk := V_lt c
    have hA : RS (r.set_vm (upd r.vm qa.toNatClampNeg qb)) (upd (sp_X7_save_s u sa) (0 + 87 + 10 * qa.toNatClampNeg + 5) qb) 0 := ⟨H.sv0.1.set_vm H.sv0.2.1.2.1 hk (by omega), H.sv0.2.free (Or.inr (Or.inr (Or.inr ⟨_, hk, Or.inr (Or.inl (by omega))⟩)))⟩
    exact H.saved adn (fun q q1 q2 => (un (by omega)).trans (un (by omega))) ⟨hA.1.set_vp hA.2.1.2.1 hk (by omega), hA.2.free (Or.inr (Or.inr (Or.inr ⟨_, hk, Or.inr (Or.inr (Or.inl (by omega)))⟩)))⟩
theorem P_setDelay (r : xR) (po : Int32) (pn : Int32) (pl : Int32) (tx : Nat → Int32) (rp : Int32) (rl : Int32) (rs : Int32) (rm : Int32) (rn : Int32) (rz : Int32) (sv : xPl) (mm : xPl) (u : Nat → Int32) (fi : Nat → Int32) (t2 : Nat → Int32) (dm : Nat → Int32) (th : Int32) (sa : Int32) (ln : Int32) (pa : Int32) (le : Int32) (sk : Int32) (nu : Int32) (h : Int64) (qa : Int32) (H : RI r po pn pl tx sv mm u fi t2 sa ln) : ((er_X6_setDelay qa) = none → (sp_X7_setDelay_th qa) = 0 ∧ r.jd = (sp_X7_setDelay u sa qa) ∧ ∀ adn : Nat → Nat, RI (r.set_jd qa) (sp_spo2 po pn) (sp_spn2 pn) pl tx (svS sv adn r po pn) mm (sp_X7_setDelay_s u sa qa) fi t2 (sp_X7_setDelay_sa sa qa) ln) ∧ (∀ (E : String) (cd : Int32), (er_X6_setDelay qa) = some E → ((E = xIA ∧ cd = 1)) → (sp_X7_setDelay_th qa) = cd ∧ RI r po pn pl tx sv mm (sp_X7_setDelay_s u sa qa) fi t2 (sp_X7_setDelay_sa sa qa) ln) := by
  refine g1s (T := (Nat → Int32) × Int32) (F := fun adn t => RI (r.set_jd qa) (sp_spo2 po pn) (sp_spn2 pn) pl tx (svS sv adn r po pn) mm t.1 fi t2 t.2 ln) (G := fun t => RI r po pn pl tx sv mm t.1 fi t2 t.2 ln) (t0 := (u, sa)) (t1 := (upd (sp_X7_save_s u sa) 147 qa, sp_X7_save_sa sa)) (tt := (sp_X7_setDelay_s u sa qa, sp_X7_setDelay_sa sa qa)) ?_ in_iff (fun c => H.sv0.1.2.2.2.2.2.2.2.1) (fun c adn => ?_) H
  · unfold sp_X7_setDelay_s sp_X7_setDelay_sa
    rw [ite2]
  · exact H.saved adn (fun q q1 q2 => un (by omega)) ⟨H.sv0.1.set_jd H.sv0.2.1.2.1 rfl, H.sv0.2.free (Or.inr (Or.inl rfl))⟩
theorem one_sub {v : Int32} (h : v = 0 ∨ v = 1) : 1 - v = 0 ∨ 1 - v = 1 := by rcases h with rfl | rfl <;> decide
theorem P_reverse (r : xR) (po : Int32) (pn : Int32) (pl : Int32) (tx : Nat → Int32) (rp : Int32) (rl : Int32) (rs : Int32) (rm : Int32) (rn : Int32) (rz : Int32) (sv : xPl) (mm : xPl) (u : Nat → Int32) (fi : Nat → Int32) (t2 : Nat → Int32) (dm : Nat → Int32) (th : Int32) (sa : Int32) (ln : Int32) (pa : Int32) (le : Int32) (sk : Int32) (nu : Int32) (h : Int64) (qa : Int32) (H : RI r po pn pl tx sv mm u fi t2 sa ln) : ((er_X6_reverse qa) = none → (sp_X7_reverse_th qa) = 0 ∧ (sp_X6_reverse r qa) = (sp_X7_reverse u sa qa) ∧ ∀ adn : Nat → Nat, RI (r.set_vd (upd r.vd (Int32.toNatClampNeg qa) (-(r.vd (Int32.toNatClampNeg qa))))) (sp_spo2 po pn) (sp_spn2 pn) pl tx (svS sv adn r po pn) mm (sp_X7_reverse_s u sa qa) fi t2 (sp_X7_reverse_sa sa qa) ln) ∧ (∀ (E : String) (cd : Int32), (er_X6_reverse qa) = some E → ((E = xIO ∧ cd = 1)) → (sp_X7_reverse_th qa) = cd ∧ RI r po pn pl tx sv mm (sp_X7_reverse_s u sa qa) fi t2 (sp_X7_reverse_sa sa qa) ln) := by
  refine g1s (T := (Nat → Int32) × Int32) (F := fun adn t => RI (r.set_vd (upd r.vd (Int32.toNatClampNeg qa) (-(r.vd (Int32.toNatClampNeg qa))))) (sp_spo2 po pn) (sp_spn2 pn) pl tx (svS sv adn r po pn) mm t.1 fi t2 t.2 ln) (G := fun t => RI r po pn pl tx sv mm t.1 fi t2 t.2 ln) (t0 := (u, sa)) (t1 := (upd (sp_X7_save_s u sa) (87 + 10 * qa.toNatClampNeg + 0) (1 - u (0 + 87 + 10 * qa.toNatClampNeg + 0)), sp_X7_save_sa sa)) (tt := (sp_X7_reverse_s u sa qa, sp_X7_reverse_sa sa qa)) ?_ in_V (fun c => ?_) (fun c adn => ?_) H
  · unfold sp_X7_reverse_s sp_X7_reverse_sa
    rw [ite2]
  · have hk := V_lt c
    have a := (H.1.1.2.2.2.2.2.2.1 _ hk).1
    have hb := (H.1.2.2.2.2.2.2 _ hk).1
    have e : sp_X7_save_s u sa (87 + 10 * qa.toNatClampNeg + 0) = u (0 + 87 + 10 * qa.toNatClampNeg + 0) := by rw [save_0 H.hs H.hs6 (by omega)]
    unfold sp_X6_reverse
    rw [ue rfl, a, e]
    rcases hb with q | q <;> rw [q] <;> decide
  · have hk := V_lt c
    have a := (H.1.1.2.2.2.2.2.2.1 _ hk).1
    have hb := (H.1.2.2.2.2.2.2 _ hk).1
    refine H.saved adn (fun q q1 q2 => un (by omega)) ⟨H.sv0.1.set_vd H.sv0.2.1.2.1 hk rfl _ ?_, H.sv0.2.set (Or.inr (by omega)) (fun e => absurd e (by omega)) (fun e => absurd e (by omega)) (fun e => absurd e (by omega)) (fun e => absurd e (by omega)) (fun k _ => ⟨fun _ => one_sub hb, fun e => absurd e (by omega), fun e => absurd e (by omega), fun e => absurd e (by omega), fun e => absurd e (by omega), fun e => absurd e (by omega)⟩)⟩
    rw [a]
    rcases hb with q | q <;> rw [q] <;> decide
theorem P_isCut (r : xR) (po : Int32) (pn : Int32) (pl : Int32) (tx : Nat → Int32) (rp : Int32) (rl : Int32) (rs : Int32) (rm : Int32) (rn : Int32) (rz : Int32) (sv : xPl) (mm : xPl) (u : Nat → Int32) (fi : Nat → Int32) (t2 : Nat → Int32) (dm : Nat → Int32) (th : Int32) (sa : Int32) (ln : Int32) (pa : Int32) (le : Int32) (sk : Int32) (nu : Int32) (h : Int64) (H : RI r po pn pl tx sv mm u fi t2 sa ln) : r.kc = (sp_X7_isCut u) ∧ RI r po pn pl tx sv mm u fi t2 sa ln := ⟨by
  have e : r.kc = u 25 := H.1.1.2.2.2.2.1.2.1
  unfold sp_X7_isCut
  rw [e]
  rcases H.1.2.2.1 with q | q <;> rw [show u 25 = u (0 + 25) from rfl, q] <;> decide, H⟩
theorem P_isHigh (r : xR) (po : Int32) (pn : Int32) (pl : Int32) (tx : Nat → Int32) (rp : Int32) (rl : Int32) (rs : Int32) (rm : Int32) (rn : Int32) (rz : Int32) (sv : xPl) (mm : xPl) (u : Nat → Int32) (fi : Nat → Int32) (t2 : Nat → Int32) (dm : Nat → Int32) (th : Int32) (sa : Int32) (ln : Int32) (pa : Int32) (le : Int32) (sk : Int32) (nu : Int32) (h : Int64) (H : RI r po pn pl tx sv mm u fi t2 sa ln) : r.kh = (sp_X7_isHigh u) ∧ RI r po pn pl tx sv mm u fi t2 sa ln := ⟨by
  have e : r.kh = u 24 := H.1.1.2.2.2.2.1.1
  unfold sp_X7_isHigh
  rw [e]
  rcases H.1.2.1.2.2.1 with q | q <;> rw [show u 24 = u (0 + 24) from rfl, q] <;> decide, H⟩
theorem P_isFailsafe (r : xR) (po : Int32) (pn : Int32) (pl : Int32) (tx : Nat → Int32) (rp : Int32) (rl : Int32) (rs : Int32) (rm : Int32) (rn : Int32) (rz : Int32) (sv : xPl) (mm : xPl) (u : Nat → Int32) (fi : Nat → Int32) (t2 : Nat → Int32) (dm : Nat → Int32) (th : Int32) (sa : Int32) (ln : Int32) (pa : Int32) (le : Int32) (sk : Int32) (nu : Int32) (h : Int64) (H : RI r po pn pl tx sv mm u fi t2 sa ln) : r.jf = (sp_X7_isFailsafe u) ∧ RI r po pn pl tx sv mm u fi t2 sa ln := ⟨by
  have e : r.jf = u 155 := H.1.1.2.2.2.2.2.2.2.2.2.2.2.2.2.2.2
  unfold sp_X7_isFailsafe
  rw [e]
  rcases H.1.2.2.2.1 with q | q <;> rw [show u 155 = u (0 + 155) from rfl, q] <;> decide, H⟩
theorem P_mixes (r : xR) (po : Int32) (pn : Int32) (pl : Int32) (tx : Nat → Int32) (rp : Int32) (rl : Int32) (rs : Int32) (rm : Int32) (rn : Int32) (rz : Int32) (sv : xPl) (mm : xPl) (u : Nat → Int32) (fi : Nat → Int32) (t2 : Nat → Int32) (dm : Nat → Int32) (th : Int32) (sa : Int32) (ln : Int32) (pa : Int32) (le : Int32) (sk : Int32) (nu : Int32) (h : Int64) (H : RI r po pn pl tx sv mm u fi t2 sa ln) : r.xn = (u 26) ∧ RI r po pn pl tx sv mm u fi t2 sa ln := ⟨H.1.1.2.2.2.2.1.2.2, H⟩
theorem P_battery (r : xR) (po : Int32) (pn : Int32) (pl : Int32) (tx : Nat → Int32) (rp : Int32) (rl : Int32) (rs : Int32) (rm : Int32) (rn : Int32) (rz : Int32) (sv : xPl) (mm : xPl) (u : Nat → Int32) (fi : Nat → Int32) (t2 : Nat → Int32) (dm : Nat → Int32) (th : Int32) (sa : Int32) (ln : Int32) (pa : Int32) (le : Int32) (sk : Int32) (nu : Int32) (h : Int64) (H : RI r po pn pl tx sv mm u fi t2 sa ln) : r.jb = (u 148) ∧ RI r po pn pl tx sv mm u fi t2 sa ln := ⟨H.1.1.2.2.2.2.2.2.2.2.1, H⟩
theorem P_charged (r : xR) (po : Int32) (pn : Int32) (pl : Int32) (tx : Nat → Int32) (rp : Int32) (rl : Int32) (rs : Int32) (rm : Int32) (rn : Int32) (rz : Int32) (sv : xPl) (mm : xPl) (u : Nat → Int32) (fi : Nat → Int32) (t2 : Nat → Int32) (dm : Nat → Int32) (th : Int32) (sa : Int32) (ln : Int32) (pa : Int32) (le : Int32) (sk : Int32) (nu : Int32) (h : Int64) (H : RI r po pn pl tx sv mm u fi t2 sa ln) : r.jc = (u 149) ∧ RI r po pn pl tx sv mm u fi t2 sa ln := ⟨H.1.1.2.2.2.2.2.2.2.2.2.1, H⟩
theorem P_frames (r : xR) (po : Int32) (pn : Int32) (pl : Int32) (tx : Nat → Int32) (rp : Int32) (rl : Int32) (rs : Int32) (rm : Int32) (rn : Int32) (rz : Int32) (sv : xPl) (mm : xPl) (u : Nat → Int32) (fi : Nat → Int32) (t2 : Nat → Int32) (dm : Nat → Int32) (th : Int32) (sa : Int32) (ln : Int32) (pa : Int32) (le : Int32) (sk : Int32) (nu : Int32) (h : Int64) (H : RI r po pn pl tx sv mm u fi t2 sa ln) : r.js = (u 150) ∧ RI r po pn pl tx sv mm u fi t2 sa ln := ⟨H.1.1.2.2.2.2.2.2.2.2.2.2.1, H⟩
theorem P_lostFrames (r : xR) (po : Int32) (pn : Int32) (pl : Int32) (tx : Nat → Int32) (rp : Int32) (rl : Int32) (rs : Int32) (rm : Int32) (rn : Int32) (rz : Int32) (sv : xPl) (mm : xPl) (u : Nat → Int32) (fi : Nat → Int32) (t2 : Nat → Int32) (dm : Nat → Int32) (th : Int32) (sa : Int32) (ln : Int32) (pa : Int32) (le : Int32) (sk : Int32) (nu : Int32) (h : Int64) (H : RI r po pn pl tx sv mm u fi t2 sa ln) : r.jl = (u 151) ∧ RI r po pn pl tx sv mm u fi t2 sa ln := ⟨H.1.1.2.2.2.2.2.2.2.2.2.2.2.1, H⟩
theorem P_deadFrames (r : xR) (po : Int32) (pn : Int32) (pl : Int32) (tx : Nat → Int32) (rp : Int32) (rl : Int32) (rs : Int32) (rm : Int32) (rn : Int32) (rz : Int32) (sv : xPl) (mm : xPl) (u : Nat → Int32) (fi : Nat → Int32) (t2 : Nat → Int32) (dm : Nat → Int32) (th : Int32) (sa : Int32) (ln : Int32) (pa : Int32) (le : Int32) (sk : Int32) (nu : Int32) (h : Int64) (H : RI r po pn pl tx sv mm u fi t2 sa ln) : r.jx = (u 152) ∧ RI r po pn pl tx sv mm u fi t2 sa ln := ⟨H.1.1.2.2.2.2.2.2.2.2.2.2.2.2.1, H⟩
theorem P_lostInRow (r : xR) (po : Int32) (pn : Int32) (pl : Int32) (tx : Nat → Int32) (rp : Int32) (rl : Int32) (rs : Int32) (rm : Int32) (rn : Int32) (rz : Int32) (sv : xPl) (mm : xPl) (u : Nat → Int32) (fi : Nat → Int32) (t2 : Nat → Int32) (dm : Nat → Int32) (th : Int32) (sa : Int32) (ln : Int32) (pa : Int32) (le : Int32) (sk : Int32) (nu : Int32) (h : Int64) (H : RI r po pn pl tx sv mm u fi t2 sa ln) : r.ji = (u 153) ∧ RI r po pn pl tx sv mm u fi t2 sa ln := ⟨H.1.1.2.2.2.2.2.2.2.2.2.2.2.2.2.1, H⟩
theorem P_failsafes (r : xR) (po : Int32) (pn : Int32) (pl : Int32) (tx : Nat → Int32) (rp : Int32) (rl : Int32) (rs : Int32) (rm : Int32) (rn : Int32) (rz : Int32) (sv : xPl) (mm : xPl) (u : Nat → Int32) (fi : Nat → Int32) (t2 : Nat → Int32) (dm : Nat → Int32) (th : Int32) (sa : Int32) (ln : Int32) (pa : Int32) (le : Int32) (sk : Int32) (nu : Int32) (h : Int64) (H : RI r po pn pl tx sv mm u fi t2 sa ln) : r.jn = (u 154) ∧ RI r po pn pl tx sv mm u fi t2 sa ln := ⟨H.1.1.2.2.2.2.2.2.2.2.2.2.2.2.2.2.1, H⟩
theorem P_savedStates (r : xR) (po : Int32) (pn : Int32) (pl : Int32) (tx : Nat → Int32) (rp : Int32) (rl : Int32) (rs : Int32) (rm : Int32) (rn : Int32) (rz : Int32) (sv : xPl) (mm : xPl) (u : Nat → Int32) (fi : Nat → Int32) (t2 : Nat → Int32) (dm : Nat → Int32) (th : Int32) (sa : Int32) (ln : Int32) (pa : Int32) (le : Int32) (sk : Int32) (nu : Int32) (h : Int64) (H : RI r po pn pl tx sv mm u fi t2 sa ln) : pn = sa ∧ RI r po pn pl tx sv mm u fi t2 sa ln := ⟨H.2.1.1.symm, H⟩
theorem P_clearText (r : xR) (po : Int32) (pn : Int32) (pl : Int32) (tx : Nat → Int32) (rp : Int32) (rl : Int32) (rs : Int32) (rm : Int32) (rn : Int32) (rz : Int32) (sv : xPl) (mm : xPl) (u : Nat → Int32) (fi : Nat → Int32) (t2 : Nat → Int32) (dm : Nat → Int32) (th : Int32) (sa : Int32) (ln : Int32) (pa : Int32) (le : Int32) (sk : Int32) (nu : Int32) (h : Int64) (H : RI r po pn pl tx sv mm u fi t2 sa ln) : pl = ln ∧ RI r po pn 0 tx sv mm u fi t2 sa 0 := ⟨H.2.1.2.1.symm, H.1, ⟨H.2.1.1, rfl, H.2.1.2.2⟩, ⟨rfl, Nat.zero_le _⟩, H.2.2.2⟩
theorem P_switchRates (r : xR) (po : Int32) (pn : Int32) (pl : Int32) (tx : Nat → Int32) (rp : Int32) (rl : Int32) (rs : Int32) (rm : Int32) (rn : Int32) (rz : Int32) (sv : xPl) (mm : xPl) (u : Nat → Int32) (fi : Nat → Int32) (t2 : Nat → Int32) (dm : Nat → Int32) (th : Int32) (sa : Int32) (ln : Int32) (pa : Int32) (le : Int32) (sk : Int32) (nu : Int32) (h : Int64) (H : RI r po pn pl tx sv mm u fi t2 sa ln) : (sp_X6_switchRates r) = (sp_X7_switchRates u sa) ∧ ∀ adn : Nat → Nat, RI (r.set_kh (sp_X6_switchRates_kh r)) (sp_spo2 po pn) (sp_spn2 pn) pl tx (svS sv adn r po pn) mm (upd (sp_X7_save_s u sa) 24 (1 - (u 24))) fi t2 (sp_X7_save_sa sa) ln := ⟨by
  have e : r.kh = u 24 := H.1.1.2.2.2.2.1.1
  unfold sp_X6_switchRates sp_X7_switchRates
  rw [save_0 H.hs H.hs6 (by omega), e], fun adn => by
  have e : r.kh = u 24 := H.1.1.2.2.2.2.1.1
  have hb : u 24 = 0 ∨ u 24 = 1 := H.1.2.1.2.2.1
  have ev : sp_X6_switchRates_kh r = 1 - u 24 := by
    unfold sp_X6_switchRates_kh
    rw [e]
    rcases hb with q | q <;> rw [q] <;> decide
  rw [ev]
  exact H.saved adn (fun q q1 q2 => un (by omega)) ⟨H.sv0.1.set_kh H.sv0.2.1.2.1 rfl, H.sv0.2.set (Or.inl (by omega)) (fun _ => one_sub hb) (fun e => absurd e (by omega)) (fun e => absurd e (by omega)) (fun e => absurd e (by omega)) (fun k _ => ⟨(fun e => absurd e (by omega)), (fun e => absurd e (by omega)), (fun e => absurd e (by omega)), (fun e => absurd e (by omega)), (fun e => absurd e (by omega)), (fun e => absurd e (by omega))⟩)⟩⟩
