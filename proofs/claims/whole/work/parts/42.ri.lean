/-- what a state of ours has to do with a row of the reference, from b on -/
def SR (r : xR) (u : Nat → Int32) (b : Nat) : Prop :=
  (∀ k, k < 4 → r.kp k = u (b + 0 + k)) ∧ (∀ k, k < 4 → r.ke k = u (b + 4 + k)) ∧ (∀ k, k < 8 → r.kr k = u (b + 8 + k)) ∧ (∀ k, k < 8 → r.kt k = u (b + 16 + k)) ∧ (r.kh = u (b + 24) ∧ r.kc = u (b + 25) ∧ r.xn = u (b + 26)) ∧
  (∀ j, j < rN u b → r.xs j = u (b + 27 + 5 * j + 0) ∧ r.xv j = u (b + 27 + 5 * j + 1) ∧ r.xh j = u (b + 27 + 5 * j + 2) ∧ r.xo j = u (b + 27 + 5 * j + 3) ∧ r.xc j = u (b + 27 + 5 * j + 4)) ∧
  (∀ k, k < 6 → r.vd k = (if u (b + 87 + 10 * k + 0) = 1 then -1 else 1) ∧ r.vn k = u (b + 87 + 10 * k + 1) ∧ r.vl k = u (b + 87 + 10 * k + 2) ∧ r.vu k = u (b + 87 + 10 * k + 3) ∧ r.vs k = u (b + 87 + 10 * k + 4) ∧ r.vm k = u (b + 87 + 10 * k + 5) ∧ r.vp k = u (b + 87 + 10 * k + 6) ∧ r.vt k = u (b + 87 + 10 * k + 7) ∧ r.va k = u (b + 87 + 10 * k + 8) ∧ r.vw k = u (b + 87 + 10 * k + 9)) ∧
  (r.jd = u (b + 147) ∧ r.jb = u (b + 148) ∧ r.jc = u (b + 149) ∧ r.js = u (b + 150) ∧ r.jl = u (b + 151) ∧ r.jx = u (b + 152) ∧ r.ji = u (b + 153) ∧ r.jn = u (b + 154) ∧ r.jf = u (b + 155))
/-- a mix: source, servo, condition -/
def mOk (so to co : Int32) : Prop := (so.toNatClampNeg < 4 ∨ so.toNatClampNeg - 4 < to.toNatClampNeg) ∧ (to = nI to.toNatClampNeg ∧ to.toNatClampNeg < 6) ∧ (co = 0 ∨ co = 1 ∨ co = 2)
/-- a servo: reversed, limits, speed, target, position -/
def sOk (rv lo hi sp tg pz : Int32) : Prop := (rv = 0 ∨ rv = 1) ∧ (-150 ≤ lo ∧ lo ≤ 0) ∧ (0 ≤ hi ∧ hi ≤ 150) ∧ 1 ≤ sp ∧ (-150 ≤ tg ∧ tg ≤ 150) ∧ (-150 ≤ pz ∧ pz ≤ 150)
/-- what a row of the reference keeps, from b on -/
def VB (u : Nat → Int32) (b : Nat) : Prop := rOk u b ∧ (u (b + 25) = 0 ∨ u (b + 25) = 1) ∧ (u (b + 155) = 0 ∨ u (b + 155) = 1) ∧ 0 ≤ u (b + 148) ∧
  (∀ j, j < rN u b → mOk (u (b + 27 + 5 * j + 0)) (u (b + 27 + 5 * j + 1)) (u (b + 27 + 5 * j + 4))) ∧
  (∀ k, k < 6 → sOk (u (b + 87 + 10 * k + 0)) (u (b + 87 + 10 * k + 2)) (u (b + 87 + 10 * k + 3)) (u (b + 87 + 10 * k + 4)) (u (b + 87 + 10 * k + 7)) (u (b + 87 + 10 * k + 8)))
def RS (r : xR) (u : Nat → Int32) (b : Nat) : Prop := SR r u b ∧ VB u b
/-- our object and the reference's -/
def RI (r : xR) (po pn pl : Int32) (tx : Nat → Int32) (sv mm : xPl) (u fi t2 : Nat → Int32) (sa ln : Int32) : Prop :=
  RS r u 0 ∧ (sa = pn ∧ ln = pl ∧ t2 = tx) ∧ (pl = nI pl.toNatClampNeg ∧ pl.toNatClampNeg ≤ 60) ∧ (po = nI po.toNatClampNeg ∧ po.toNatClampNeg < 6) ∧ (pn = nI pn.toNatClampNeg ∧ pn.toNatClampNeg ≤ 6) ∧
  (∀ k, k < pn.toNatClampNeg → ∃ a r1, sv ((po.toNatClampNeg + k) % 6) = some (a, r1) ∧ RS r1 u (156 * (k + 1))) ∧
  (∀ k x, mm k = some x → k < 2 ∧ fi k = 1 ∧ RS x.2 u (156 * (7 + k))) ∧ (∀ k, k < 2 → mm k = none → fi k = 0)
theorem RS.rb {r : xR} {u : Nat → Int32} {b : Nat} (h : RS r u b) : rB r := by
  obtain ⟨⟨-, -, -, -, ⟨e1, e2, e3⟩, hm, -, ⟨-, -, -, -, -, -, -, -, e4⟩⟩, ⟨o1, o2, o3, o4⟩, b1, b2, -⟩ := h
  have e : r.xn.toNatClampNeg = rN u b := by rw [e3]; rfl
  refine ⟨⟨by rw [e1]; exact o3, by rw [e, e3]; exact o1, by rw [e]; exact o2, fun j hj => ?_⟩, by rw [e2]; exact b1, by rw [e4]; exact b2⟩
  rw [e] at hj
  rw [(hm j hj).1]
  exact o4 j hj
section RIs
variable {r : xR} {po pn pl : Int32} {tx : Nat → Int32} {sv mm : xPl} {u fi t2 : Nat → Int32} {sa ln : Int32}
theorem RI.clo (H : RI r po pn pl tx sv mm u fi t2 sa ln) : clO r po pn := ⟨H.1.rb.1, H.1.rb.2.1, H.1.rb.2.2, H.2.2.2.1, H.2.2.2.2.1⟩
theorem RI.hpl (H : RI r po pn pl tx sv mm u fi t2 sa ln) : pl = nI (Int32.toNatClampNeg pl) ∧ Int32.toNatClampNeg pl ≤ 60 := H.2.2.1
theorem RI.hsvk (H : RI r po pn pl tx sv mm u fi t2 sa ln) : svK sv po pn := fun k hk => by
  obtain ⟨a, r1, h1, h2⟩ := H.2.2.2.2.2.1 k hk
  exact ⟨a, r1, h1, h2.rb⟩
theorem RI.hmk (H : RI r po pn pl tx sv mm u fi t2 sa ln) : ∀ k x, mm k = some x → rB x.2 := fun k x h => (H.2.2.2.2.2.2.1 k x h).2.2.rb
theorem RI.hs (H : RI r po pn pl tx sv mm u fi t2 sa ln) : sa = nI (Int32.toNatClampNeg sa) := by rw [H.2.1.1]; exact H.2.2.2.2.1.1
theorem RI.hs6 (H : RI r po pn pl tx sv mm u fi t2 sa ln) : Int32.toNatClampNeg sa ≤ 6 := by rw [H.2.1.1]; exact H.2.2.2.2.1.2
theorem RI.hm (H : RI r po pn pl tx sv mm u fi t2 sa ln) : rOk u 0 := H.1.2.1
theorem RI.hln (H : RI r po pn pl tx sv mm u fi t2 sa ln) : ln = nI (Int32.toNatClampNeg ln) ∧ Int32.toNatClampNeg ln ≤ 60 := by rw [H.2.1.2.1]; exact H.2.2.1
theorem RI.hl (H : RI r po pn pl tx sv mm u fi t2 sa ln) : ln = nI (Int32.toNatClampNeg ln) := H.hln.1
theorem RI.hl6 (H : RI r po pn pl tx sv mm u fi t2 sa ln) : Int32.toNatClampNeg ln ≤ 60 := H.hln.2
theorem RI.hsp (H : RI r po pn pl tx sv mm u fi t2 sa ln) : ∀ k, k < 6 → ¬ u (0 + 87 + 10 * k + 4) = 0 := fun k hk e => by
  have h := (H.1.2.2.2.2.2.2 k hk).2.2.2.1
  rw [e] at h
  exact absurd h (by decide)
end RIs
