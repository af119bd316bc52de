/-! the saved states and the memories -/
def pk (po pn : Int32) (sv : xPl) : Prop := (po = nI po.toNatClampNeg ∧ po.toNatClampNeg < 6) ∧ (pn = nI pn.toNatClampNeg ∧ pn.toNatClampNeg ≤ 6) ∧ (∀ k x, sv k = some x → rB x.2 ∧ gN x.2) ∧ (∀ k, k < pn.toNatClampNeg → ∃ x, sv ((po.toNatClampNeg + k) % 6) = some x)
/-- c was saved last -/
def tp (po pn : Int32) (sv : xPl) (c : xR) : Prop := 0 < pn.toNatClampNeg ∧ ∃ a d, sv (unK po pn) = some (a, c.set_dq d)
def mk2 (mm : xPl) : Prop := ∀ k x, mm k = some x → rB x.2 ∧ gN x.2
/-- the memory k holds c -/
def mt (mm : xPl) (k : Nat) (c : xR) : Prop := ∃ a d, mm k = some (a, c.set_dq d)
/-- one state more was saved: c -/
def sd (c : xR) (pn po1 pn1 : Int32) (sv1 : xPl) : Prop := pk po1 pn1 sv1 ∧ tp po1 pn1 sv1 c ∧ pn1 = (if pn < 6 then pn + 1 else 6)
def wB (g : xGt) (ap ad : Nat → Nat) (c : xR) (d : Nat → Int32) (po pn : Int32) (sv mm : xPl) : va_W := wCl g ap ad (c.set_dq d) po pn 0 (fun _ => (0 : Int32)) 0 0 0 0 0 0 sv mm
theorem set_set (c : xR) (d e : Nat → Int32) : (c.set_dq d).set_dq e = c.set_dq e := rfl
theorem gN_00 : gN r00 := Gd.zero.1.2
theorem rB_00 : rB r00 := Gd.zero.1.1
theorem pk_clO {c : xR} {po pn : Int32} {sv : xPl} (hb : rB c) (hp : pk po pn sv) (d : Nat → Int32) : clO (c.set_dq d) po pn := ⟨hb.1, hb.2.1, hb.2.2, hp.1, hp.2.1⟩
theorem pk_svK {po pn : Int32} {sv : xPl} (hp : pk po pn sv) : svK sv po pn := fun k hk => by
  obtain ⟨⟨a, x⟩, hx⟩ := hp.2.2.2 k hk
  exact ⟨a, x, hx, (hp.2.2.1 _ _ hx).1⟩
theorem upP_at (sv : xPl) (k : Nat) (v) (j : Nat) : upP sv k v j = if j = k then v else sv j := rfl
/-- what stands in the slot behind a saving -/
theorem sv_new {c : xR} {sv : xPl} {k : Nat} (hc : gN c) (hs : ∀ k x, sv k = some x → rB x.2 ∧ gN x.2) (adn : Nat → Nat) (d : Nat → Int32) : ∃ a e, (some (match sv k with | some x => (x.1, cpR (c.set_dq d) x.2) | none => (adn, cpR (c.set_dq d) r00)) : Option ((Nat → Nat) × xR)) = some (a, c.set_dq e) := by
  cases h : sv k with
  | none => exact ⟨adn, r00.dq, by simp only []; rw [cpR_eq (r := c.set_dq d) hc gN_00]; rfl⟩
  | some x => exact ⟨x.1, x.2.dq, by simp only []; rw [cpR_eq (r := c.set_dq d) hc (hs _ _ h).2]; rfl⟩
theorem save_ok {c : xR} {po pn : Int32} {sv : xPl} (hb : rB c) (hc : gN c) (hp : pk po pn sv) (adn : Nat → Nat) (d : Nat → Int32) : sd c pn (sp_spo2 po pn) (sp_spn2 pn) (svS sv adn (c.set_dq d) po pn) := by
  obtain ⟨⟨e1, l1⟩, ⟨e2, l2⟩, h3, h4⟩ := hp
  obtain ⟨a, e, hn⟩ := sv_new (k := slK po pn) hc h3 adn d
  have hS : svS sv adn (c.set_dq d) po pn = upP sv (slK po pn) (some (a, c.set_dq e)) := congrArg (upP sv (slK po pn)) hn
  rw [hS]
  by_cases q : pn = 6
  · have hpn : pn.toNatClampNeg = 6 := by rw [q]; rfl
    have f1 : sp_spo2 po pn = nI ((po.toNatClampNeg + 1) % 6) := if_pos q
    have f2 : sp_spn2 pn = 6 := by unfold sp_spn2 sp_spn1; rw [if_pos q, q]; rfl
    have c1 : (nI ((po.toNatClampNeg + 1) % 6)).toNatClampNeg = (po.toNatClampNeg + 1) % 6 := nI_clamp (by omega)
    have hk : slK po pn = ((po.toNatClampNeg + 1) % 6 + 5) % 6 := by
      unfold slK
      rw [if_pos q, if_pos q, c1, q]
      rfl
    rw [f1, f2]
    have c6 : (6 : Int32).toNatClampNeg = 6 := rfl
    refine ⟨⟨⟨by rw [c1], by rw [c1]; omega⟩, ⟨by rw [c6]; rfl, by rw [c6]; exact Nat.le_refl _⟩, fun k x hx => ?_, fun k hk2 => ?_⟩, ⟨by rw [c6]; decide, a, e, ?_⟩, by rw [q]; decide⟩
    · rw [upP_at] at hx
      by_cases z : k = slK po pn
      · rw [if_pos z] at hx
        cases hx
        exact ⟨hb, hc⟩
      · rw [if_neg z] at hx
        exact h3 k x hx
    · rw [upP_at, c1]
      by_cases z : ((po.toNatClampNeg + 1) % 6 + k) % 6 = slK po pn
      · rw [if_pos z]; exact ⟨_, rfl⟩
      · rw [if_neg z]
        rw [c6] at hk2
        have hk5 : ¬ k = 5 := fun y => z (by rw [hk, y])
        have := h4 (k + 1) (by omega)
        rw [show ((po.toNatClampNeg + 1) % 6 + k) % 6 = (po.toNatClampNeg + (k + 1)) % 6 by omega]
        exact this
    · rw [upP_at]
      exact if_pos (by unfold unK; rw [c1, c6, hk])
  · have hlt : pn.toNatClampNeg < 6 := by
      rcases Nat.lt_or_ge pn.toNatClampNeg 6 with y | y
      · exact y
      · exact absurd (by rw [e2, Nat.le_antisymm l2 y]; rfl) q
    have f1 : sp_spo2 po pn = po := if_neg q
    have f2 : sp_spn2 pn = nI (pn.toNatClampNeg + 1) := by
      unfold sp_spn2 sp_spn1
      rw [if_neg q]
      conv => lhs; rw [e2]
      exact nI_1 _
    have c1 : (nI (pn.toNatClampNeg + 1)).toNatClampNeg = pn.toNatClampNeg + 1 := nI_clamp (by omega)
    have hk : slK po pn = (po.toNatClampNeg + pn.toNatClampNeg) % 6 := by
      unfold slK
      rw [if_neg q, if_neg q]
    have hl6 : pn < 6 := by rw [e2]; exact nI_lt (b := 6) hlt (by decide)
    rw [f1, f2]
    refine ⟨⟨⟨e1, l1⟩, ⟨by rw [c1], by rw [c1]; omega⟩, fun k x hx => ?_, fun k hk2 => ?_⟩, ⟨by rw [c1]; omega, a, e, ?_⟩, ?_⟩
    · rw [upP_at] at hx
      by_cases z : k = slK po pn
      · rw [if_pos z] at hx
        cases hx
        exact ⟨hb, hc⟩
      · rw [if_neg z] at hx
        exact h3 k x hx
    · rw [upP_at]
      by_cases z : (po.toNatClampNeg + k) % 6 = slK po pn
      · rw [if_pos z]; exact ⟨_, rfl⟩
      · rw [if_neg z]
        rw [c1] at hk2
        have hk5 : ¬ k = pn.toNatClampNeg := fun y => z (by rw [hk, y])
        exact h4 k (by omega)
    · rw [upP_at]
      exact if_pos (by unfold unK; rw [c1, hk]; rfl)
    · rw [if_pos hl6]
      conv => rhs; rw [e2]
      exact (nI_1 _).symm
/-- undo brings the latest back -/
theorem undo_ok {c c0 : xR} {po pn : Int32} {sv : xPl} (hc : gN c) (hp : pk po pn sv) (ht : tp po pn sv c0) (d : Nat → Int32) : cpR (svR sv (unK po pn) (c.set_dq d)) (c.set_dq d) = c0.set_dq d ∧ pk po (pn - 1) sv ∧ pn - 1 = nI (pn.toNatClampNeg - 1) := by
  obtain ⟨h0, a, e, h⟩ := ht
  obtain ⟨h1, ⟨e2, l2⟩, h3, h4⟩ := hp
  have hR : svR sv (unK po pn) (c.set_dq d) = c0.set_dq e := by unfold svR; rw [h]
  have hg : gN (c0.set_dq e) := (h3 _ _ h).2
  have ep : pn - 1 = nI (pn.toNatClampNeg - 1) := by
    conv => lhs; rw [e2]
    exact pk_sub1 h0
  have c1 : (nI (pn.toNatClampNeg - 1)).toNatClampNeg = pn.toNatClampNeg - 1 := nI_clamp (by omega)
  refine ⟨by rw [hR, cpR_eq hg (o := c.set_dq d) hc]; rfl, ⟨h1, ⟨by rw [ep, c1], by rw [ep, c1]; omega⟩, h3, fun k hk => h4 k (by rw [ep, c1] at hk; omega)⟩, ep⟩
theorem tp_rB {po pn : Int32} {sv : xPl} {c0 : xR} (hp : pk po pn sv) (ht : tp po pn sv c0) : rB c0 ∧ gN c0 := by
  obtain ⟨h0, a, e, h⟩ := ht
  exact hp.2.2.1 _ _ h
theorem undo_er {po pn : Int32} {sv : xPl} {c0 : xR} (hp : pk po pn sv) (ht : tp po pn sv c0) : er_X6_undo pn = none := by
  unfold er_X6_undo
  refine if_neg (fun q => ?_)
  rw [hp.2.1.1] at q
  exact nI_nle ht.1 (Nat.lt_of_le_of_lt hp.2.1.2 (by decide)) q
theorem store_ok {c : xR} {mm : xPl} {k : Nat} (hb : rB c) (hc : gN c) (hm : mk2 mm) (adn : Nat → Nat) (d : Nat → Int32) : mk2 (stS mm adn (c.set_dq d) k) ∧ mt (stS mm adn (c.set_dq d) k) k c ∧ ∀ j, ¬ j = k → stS mm adn (c.set_dq d) k j = mm j := by
  obtain ⟨a, e, hn⟩ := sv_new (k := k) hc hm adn d
  have hS : stS mm adn (c.set_dq d) k = upP mm k (some (a, c.set_dq e)) := congrArg (upP mm k) hn
  rw [hS]
  refine ⟨fun j x hx => ?_, ⟨a, e, ?_⟩, fun j hj => ?_⟩
  · rw [upP_at] at hx
    by_cases z : j = k
    · rw [if_pos z] at hx
      cases hx
      exact ⟨hb, hc⟩
    · rw [if_neg z] at hx
      exact hm j x hx
  · rw [upP_at]; exact if_pos rfl
  · rw [upP_at]; exact if_neg hj
theorem recall_ok {c c0 : xR} {mm : xPl} {k : Nat} (hc : gN c) (hm : mk2 mm) (ht : mt mm k c0) (d : Nat → Int32) : cpR (svR mm k (c.set_dq d)) (c.set_dq d) = c0.set_dq d ∧ (mm k).isNone = false ∧ rB c0 ∧ gN c0 := by
  obtain ⟨a, e, h⟩ := ht
  have hR : svR mm k (c.set_dq d) = c0.set_dq e := by unfold svR; rw [h]
  have hg : gN (c0.set_dq e) := (hm _ _ h).2
  exact ⟨by rw [hR, cpR_eq hg (o := c.set_dq d) hc]; rfl, by rw [h]; rfl, (hm _ _ h).1, hg⟩
theorem xM_mono {l : Launch} {D : va_G} {tys : List (ClassId × FieldType)} {y : MethodName} {ws : List Cond} {rm : Room} {mc ms : Nat} {As : List Value} {W0 : va_W} {post post' : Option Value → va_W → Prop} {px px' : String → va_W → Prop} (h : xM l D tys y ws rm mc ms As W0 post px) (h1 : ∀ r w, post r w → post' r w) (h2 : ∀ E w, px E w → px' E w) : xM l D tys y ws rm mc ms As W0 post' px' := by
  intro hl sz
  refine MetFree.mono (h hl sz) (fun _ _ q => q) (fun _ _ _ _ _ q => q) (fun a s o t _ q => ?_)
  rcases q with ⟨⟨⟨r, w, e1, e2, e3, e4⟩, e5⟩, e6⟩ | ⟨z, e1, E, ce, L, ⟨⟨w, e2, e3, e4⟩, e5⟩, e6⟩
  · exact Or.inl ⟨⟨⟨r, w, e1, h1 r w e2, e3, e4⟩, e5⟩, e6⟩
  · exact Or.inr ⟨z, e1, E, ce, L, ⟨⟨w, h2 E w e2, e3, e4⟩, e5⟩, e6⟩
