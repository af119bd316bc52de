abbrev mT : Type := Int32 × Int32 × Int32 × Int32 × Int32
def mq (w : Nat → Int32) (j : Nat) : mT := (w (0 + 27 + 5 * j + 0), w (0 + 27 + 5 * j + 1), w (0 + 27 + 5 * j + 2), w (0 + 27 + 5 * j + 3), w (0 + 27 + 5 * j + 4))
/-- the mixes of a row -/
def mL (w : Nat → Int32) : List mT := (List.range (rN w 0)).map (mq w)
def gOk (t : mT) : Prop := (t.1 = nI t.1.toNatClampNeg ∧ t.1.toNatClampNeg < 10) ∧ mOk t.1 t.2.1 t.2.2.2.2
def mf (xs xv xh xo xc : Nat → Int32) (j : Nat) : mT := (xs j, xv j, xh j, xo j, xc j)
theorem rng_inj {α : Type} {f g : Nat → α} {n m : Nat} (h : (List.range n).map f = (List.range m).map g) : n = m ∧ ∀ j, j < n → f j = g j := by
  have hl : n = m := by
    have := congrArg List.length h
    rw [List.length_map, List.length_map, List.length_range, List.length_range] at this
    exact this
  subst hl
  refine ⟨rfl, fun j hj => ?_⟩
  have h1 : ((List.range n).map f)[j]? = some (f j) := by rw [List.getElem?_map, List.getElem?_range hj]; rfl
  have h2 : ((List.range n).map g)[j]? = some (g j) := by rw [List.getElem?_map, List.getElem?_range hj]; rfl
  rw [h, h2] at h1
  exact (Option.some.inj h1).symm
theorem rng_at {α : Type} {f : Nat → α} {n j : Nat} (hj : j < n) : ((List.range n).map f)[j]? = some (f j) := by rw [List.getElem?_map, List.getElem?_range hj]; rfl
theorem rng_snoc {α : Type} {f g : Nat → α} {n : Nat} {t : α} {L : List α} (hf : (List.range n).map g = L) (h1 : ∀ j, j < n → f j = g j) (h2 : f n = t) : (List.range (n + 1)).map f = L ++ [t] := by
  have e : (List.range n).map f = (List.range n).map g := List.map_congr_left (fun j hj => h1 j (List.mem_range.mp hj))
  rw [List.range_succ, List.map_append, ← hf, e, List.map_cons, List.map_nil, h2]
theorem rng_erase {α : Type} {f g : Nat → α} {n k : Nat} (hk : k < n) {L : List α} (hL : (List.range n).map g = L) (h : ∀ j, j < n - 1 → f j = if j < k then g j else g (j + 1)) : (List.range (n - 1)).map f = L.eraseIdx k := by
  subst hL
  apply List.ext_getElem?
  intro j
  rw [List.getElem?_eraseIdx]
  by_cases c : j < n - 1
  · rw [rng_at c, h j c]
    by_cases d : j < k
    · rw [if_pos d, if_pos d, rng_at (by omega)]
    · rw [if_neg d, if_neg d, rng_at (by omega)]
  · have h1 : ((List.range (n - 1)).map f)[j]? = none := by rw [List.getElem?_eq_none]; rw [List.length_map, List.length_range]; omega
    rw [h1, if_neg (by omega)]
    symm
    rw [List.getElem?_eq_none]
    rw [List.length_map, List.length_range]
    omega
theorem mL_ok {r : xR} {w : Nat → Int32} (h : RS r w 0) : ∀ t ∈ mL w, gOk t := by
  intro t ht
  obtain ⟨j, hj, rfl⟩ := List.mem_map.mp ht
  have hj := List.mem_range.mp hj
  exact ⟨h.2.1.2.2.2 j hj, h.2.2.2.2.2.1 j hj⟩
theorem mL_r {r : xR} {w : Nat → Int32} (h : RS r w 0) : (List.range (rN w 0)).map (mf r.xs r.xv r.xh r.xo r.xc) = mL w := by
  apply List.map_congr_left
  intro j hj
  obtain ⟨a0, a1, a2, a3, a4⟩ := h.1.2.2.2.2.2.1 j (List.mem_range.mp hj)
  show (r.xs j, r.xv j, r.xh j, r.xo j, r.xc j) = _
  rw [a0, a1, a2, a3, a4]
  rfl
/-- other mixes -/
theorem RS.mixL {r : xR} {w : Nat → Int32} (h : RS r w 0) {w' : Nat → Int32} {n' : Nat} {xn' : Int32} {xs' xv' xh' xo' xc' : Nat → Int32} {L : List mT} (hout : ∀ q, q < 156 → (q < 26 ∨ 87 ≤ q) → w' q = w q) (hx : xn' = nI n') (h26 : w' 26 = nI n') (h12 : n' ≤ 12) (hL : (List.range n').map (mf xs' xv' xh' xo' xc') = L) (hw : (List.range n').map (mq w') = L) (hg : ∀ t ∈ L, gOk t) : RS (xRk r.kp r.ke r.kr r.kt r.kh r.kc xn' xs' xv' xh' xo' xc' r.vd r.vn r.vl r.vu r.vs r.vm r.vp r.vt r.va r.vw r.jd r.jb r.jc r.js r.jl r.jx r.ji r.jf r.jn r.dq) w' 0 := by
  have e26 : w' (0 + 26) = nI n' := h26
  have hN : rN w' 0 = n' := by unfold rN; rw [e26, nI_clamp (by omega)]
  have hj : ∀ j, j < n' → mf xs' xv' xh' xo' xc' j = mq w' j := (rng_inj (hL.trans hw.symm)).2
  have hgj : ∀ j, j < n' → gOk (mq w' j) := fun j hj => hg _ (by rw [← hw]; exact List.mem_map.mpr ⟨j, List.mem_range.mpr hj, rfl⟩)
  obtain ⟨⟨h1, h2, h3, h4, ⟨h5, h6, h7⟩, h8, h9, ⟨g1, g2, g3, g4, g5, g6, g7, g8, g9⟩⟩, ⟨o1, o2, o3, o4⟩, v1, v2, v3, v4, v5⟩ := h
  refine ⟨⟨fun k hk => by rw [hout _ (by omega) (by omega)]; exact h1 k hk, fun k hk => by rw [hout _ (by omega) (by omega)]; exact h2 k hk, fun k hk => by rw [hout _ (by omega) (by omega)]; exact h3 k hk, fun k hk => by rw [hout _ (by omega) (by omega)]; exact h4 k hk, ⟨by rw [hout _ (by omega) (by omega)]; exact h5, by rw [hout _ (by omega) (by omega)]; exact h6, hx.trans e26.symm⟩, fun j hj2 => ?_, fun k hk => by rw [hout _ (by omega) (by omega), hout _ (by omega) (by omega), hout _ (by omega) (by omega), hout _ (by omega) (by omega), hout _ (by omega) (by omega), hout _ (by omega) (by omega), hout _ (by omega) (by omega), hout _ (by omega) (by omega), hout _ (by omega) (by omega), hout _ (by omega) (by omega)]; exact h9 k hk, ⟨by rw [hout _ (by omega) (by omega)]; exact g1, by rw [hout _ (by omega) (by omega)]; exact g2, by rw [hout _ (by omega) (by omega)]; exact g3, by rw [hout _ (by omega) (by omega)]; exact g4, by rw [hout _ (by omega) (by omega)]; exact g5, by rw [hout _ (by omega) (by omega)]; exact g6, by rw [hout _ (by omega) (by omega)]; exact g7, by rw [hout _ (by omega) (by omega)]; exact g8, by rw [hout _ (by omega) (by omega)]; exact g9⟩⟩, ⟨by rw [hN]; exact e26, by rw [hN]; exact h12, by rw [hout _ (by omega) (by omega)]; exact o3, fun j hj2 => ?_⟩, by rw [hout _ (by omega) (by omega)]; exact v1, by rw [hout _ (by omega) (by omega)]; exact v2, by rw [hout _ (by omega) (by omega)]; exact v3, fun j hj2 => ?_, fun k hk => by rw [hout _ (by omega) (by omega), hout _ (by omega) (by omega), hout _ (by omega) (by omega), hout _ (by omega) (by omega), hout _ (by omega) (by omega), hout _ (by omega) (by omega)]; exact v5 k hk⟩
  · rw [hN] at hj2
    have e := hj j hj2
    exact ⟨congrArg (fun t => t.1) e, congrArg (fun t => t.2.1) e, congrArg (fun t => t.2.2.1) e, congrArg (fun t => t.2.2.2.1) e, congrArg (fun t => t.2.2.2.2) e⟩
  · rw [hN] at hj2
    exact (hgj j hj2).1
  · rw [hN] at hj2
    exact (hgj j hj2).2
theorem mf5 {a a' b b' c c' d d' e e' : Int32} (h1 : a = a') (h2 : b = b') (h3 : c = c') (h4 : d = d') (h5 : e = e') : ((a, b, c, d, e) : mT) = (a', b', c', d', e') := by rw [h1, h2, h3, h4, h5]
theorem adds_at (w : Nat → Int32) (so to sh of co : Int32) (q : Nat) (h26 : q ≠ 26) (hq : q < 27 + 5 * rN w 0 ∨ 27 + 5 * rN w 0 + 5 ≤ q) : sp_X7_adds_s w so to sh of co q = w q := by
  unfold sp_X7_adds_s
  rw [un h26, un (by omega), un (by omega), un (by omega), un (by omega), un (by omega)]
theorem adds_z26 (w : Nat → Int32) (so to sh of co : Int32) : sp_X7_adds_s w so to sh of co 26 = w 26 + 1 := by
  unfold sp_X7_adds_s
  rw [ue rfl, un (by omega), un (by omega), un (by omega), un (by omega), un (by omega)]
theorem adds_n (w : Nat → Int32) (so to sh of co : Int32) : mq (sp_X7_adds_s w so to sh of co) (rN w 0) = (so, to, sh, of, co) := by
  unfold mq sp_X7_adds_s
  refine mf5 ?_ ?_ ?_ ?_ ?_
  · rw [un (by omega), un (by omega), un (by omega), un (by omega), un (by omega), ue (by omega)]
  · rw [un (by omega), un (by omega), un (by omega), un (by omega), ue (by omega)]
  · rw [un (by omega), un (by omega), un (by omega), ue (by omega)]
  · rw [un (by omega), un (by omega), ue (by omega)]
  · rw [un (by omega), ue (by omega)]
/-- one mix more -/
theorem adds_RS {r : xR} {w : Nat → Int32} (h : RS r w 0) (hn : rN w 0 < 12) {so to sh of co : Int32} (hg : gOk (so, to, sh, of, co)) : RS (xRk r.kp r.ke r.kr r.kt r.kh r.kc (sp_X2_put_xn r.xn) (sp_X2_put_xs r.xn r.xs so) (sp_X2_put_xv r.xn r.xv to) (sp_X2_put_xh r.xn r.xh sh) (sp_X2_put_xo r.xn r.xo of) (sp_X2_put_xc r.xn r.xc co) r.vd r.vn r.vl r.vu r.vs r.vm r.vp r.vt r.va r.vw r.jd r.jb r.jc r.js r.jl r.jx r.ji r.jf r.jn r.dq) (sp_X7_adds_s w so to sh of co) 0 ∧ rN (sp_X7_adds_s w so to sh of co) 0 = rN w 0 + 1 := by
  have e0 : r.xn = w (0 + 26) := h.1.2.2.2.2.1.2.2
  have en : r.xn = nI (rN w 0) := e0.trans h.2.1.1
  have et : r.xn.toNatClampNeg = rN w 0 := by rw [e0]; rfl
  have c : r.xn < 12 := by
    rw [en, show (12 : Int32) = nI 12 from rfl, nI_ltI (by omega) (by omega)]
    exact hn
  have e26 : sp_X7_adds_s w so to sh of co 26 = nI (rN w 0 + 1) := by
    rw [adds_z26]
    have : w 26 = nI (rN w 0) := h.2.1.1
    rw [this]
    exact nI_1 _
  have hm : ∀ j, j < rN w 0 → mq (sp_X7_adds_s w so to sh of co) j = mq w j := fun j hj => by
    unfold mq
    rw [adds_at _ _ _ _ _ _ _ (by omega) (by omega), adds_at _ _ _ _ _ _ _ (by omega) (by omega), adds_at _ _ _ _ _ _ _ (by omega) (by omega), adds_at _ _ _ _ _ _ _ (by omega) (by omega), adds_at _ _ _ _ _ _ _ (by omega) (by omega)]
  refine ⟨?_, by unfold rN; rw [show sp_X7_adds_s w so to sh of co (0 + 26) = nI (rN w 0 + 1) from e26, nI_clamp (by omega)]; rfl⟩
  unfold sp_X2_put_xn sp_X2_put_xs sp_X2_put_xv sp_X2_put_xh sp_X2_put_xo sp_X2_put_xc
  rw [if_pos c, if_pos c, if_pos c, if_pos c, if_pos c, if_pos c, et]
  refine h.mixL (n' := rN w 0 + 1) (L := mL w ++ [(so, to, sh, of, co)]) (fun q q1 q2 => adds_at _ _ _ _ _ _ _ (by omega) (by omega)) (by rw [en]; exact nI_1 _) e26 (by omega) (rng_snoc (mL_r h) (fun j hj => mf5 (un (by omega)) (un (by omega)) (un (by omega)) (un (by omega)) (un (by omega))) (mf5 (ue rfl) (ue rfl) (ue rfl) (ue rfl) (ue rfl))) (rng_snoc rfl hm (adds_n _ _ _ _ _ _)) (fun t ht => ?_)
  rcases List.mem_append.mp ht with q | q
  · exact mL_ok h t q
  · rw [List.mem_singleton.mp q]
    exact hg
section T3
variable {E : String} {cd : Int32}
theorem t3A (q : some xIA = some E) (w : (E = xIA ∧ cd = 2) ∨ (E = xIO ∧ cd = 1) ∨ (E = xIS ∧ cd = 3)) : (2 : Int32) = cd := by
  cases q
  rcases w with ⟨-, w⟩ | ⟨w, -⟩ | ⟨w, -⟩
  · exact w.symm
  · exact absurd w (by decide)
  · exact absurd w (by decide)
theorem t3O (q : some xIO = some E) (w : (E = xIA ∧ cd = 2) ∨ (E = xIO ∧ cd = 1) ∨ (E = xIS ∧ cd = 3)) : (1 : Int32) = cd := by
  cases q
  rcases w with ⟨w, -⟩ | ⟨-, w⟩ | ⟨w, -⟩
  · exact absurd w (by decide)
  · exact w.symm
  · exact absurd w (by decide)
theorem t3S (q : some xIS = some E) (w : (E = xIA ∧ cd = 2) ∨ (E = xIO ∧ cd = 1) ∨ (E = xIS ∧ cd = 3)) : (3 : Int32) = cd := by
  cases q
  rcases w with ⟨w, -⟩ | ⟨w, -⟩ | ⟨-, w⟩
  · exact absurd w (by decide)
  · exact absurd w (by decide)
  · exact w.symm
end T3
theorem src_dec : ∀ m, m < 10 → ∀ k, k < 6 → ((nI m ≤ nI (4 + k) - 1) ↔ ¬ nI k ≤ nI m - 4) := by decide +kernel
theorem V_nI {v : Int32} (h : ¬ v < 0 ∧ v < 6) : v = nI v.toNatClampNeg := rq_nat h (by decide)
theorem src_iff {qa qb : Int32} (hb : ¬ qb < 0 ∧ qb < 6) : (¬ qa < 0 ∧ qa ≤ nI (4 + qb.toNatClampNeg) - 1) ↔ (¬ sp_X7_in qa 0 9 = 0 ∧ ¬ qb ≤ qa - 4) := by
  have hk := V_lt hb
  have eb := V_nI hb
  by_cases c : ¬ qa < 0 ∧ qa ≤ 9
  · have ea : qa = nI qa.toNatClampNeg := rq_nat c (by decide)
    have hm : qa.toNatClampNeg ≤ 9 := rq_le c (by decide) (show (9 : Int32) = nI 9 from rfl) (by decide)
    have hd := src_dec qa.toNatClampNeg (by omega) qb.toNatClampNeg hk
    rw [← ea, ← eb] at hd
    exact ⟨fun h => ⟨in_iff.mp c, hd.mp h.2⟩, fun h => ⟨c.1, hd.mpr h.2⟩⟩
  · have hn : sp_X7_in qa 0 9 = 0 := Decidable.not_not.mp (fun q => c (in_iff.mpr q))
    refine ⟨fun h => absurd ⟨h.1, Int32.le_trans h.2 ?_⟩ c, fun h => absurd hn h.1⟩
    have : ∀ k, k < 6 → nI (4 + k) - 1 ≤ 9 := by decide +kernel
    exact this _ hk
theorem r_26 {r : xR} {u : Nat → Int32} (h : RS r u 0) : r.xn = nI (rN u 0) ∧ rN u 0 ≤ 12 ∧ u 26 = nI (rN u 0) := ⟨h.1.2.2.2.2.1.2.2.trans h.2.1.1, h.2.1.2.1, h.2.1.1⟩
theorem room_le {n k : Nat} (h : n ≤ 12) (hk : k ≤ 12) : (nI n + nI k ≤ 12) ↔ n + k ≤ 12 := by
  rw [nI_add, show (12 : Int32) = nI 12 from rfl, nI_leI (by omega) (by omega)]
theorem src_ok {qa qb qe : Int32} (hb : ¬ qb < 0 ∧ qb < 6) (c1 : ¬ qa < 0 ∧ qa ≤ nI (4 + qb.toNatClampNeg) - 1) (c6 : ¬ qe < 0 ∧ qe ≤ 2) (sh of : Int32) : gOk (qa, qb, sh, of, qe) := by
  have hk := V_lt hb
  have e := (src_iff hb).mp c1
  have c := in_iff.mpr e.1
  have ea : qa = nI qa.toNatClampNeg := rq_nat c (by decide)
  have hm : qa.toNatClampNeg ≤ 9 := rq_le c (by decide) (show (9 : Int32) = nI 9 from rfl) (by decide)
  have he : qe.toNatClampNeg ≤ 2 := rq_le c6 (by decide) (show (2 : Int32) = nI 2 from rfl) (by decide)
  have ee : qe = nI qe.toNatClampNeg := rq_nat c6 (by decide)
  refine ⟨⟨ea, show qa.toNatClampNeg < 10 by omega⟩, ?_, ⟨V_nI hb, hk⟩, ?_⟩
  · have h1 := c1.2
    have h2 : nI (4 + qb.toNatClampNeg) - 1 = nI (3 + qb.toNatClampNeg) := by rw [pk_sub1 (by omega)]; exact congrArg nI (by omega)
    rw [h2, ea, nI_leI (by omega) (by omega)] at h1
    show qa.toNatClampNeg < 4 ∨ qa.toNatClampNeg - 4 < qb.toNatClampNeg
    omega
  · show qe = 0 ∨ qe = 1 ∨ qe = 2
    rcases (show qe.toNatClampNeg = 0 ∨ qe.toNatClampNeg = 1 ∨ qe.toNatClampNeg = 2 by omega) with q | q | q
    · left; rw [ee, q]; rfl
    · right; left; rw [ee, q]; rfl
    · right; right; rw [ee, q]; rfl
theorem P_addMix (r : xR) (po : Int32) (pn : Int32) (pl : Int32) (tx : Nat → Int32) (rp : Int32) (rl : Int32) (rs : Int32) (rm : Int32) (rn : Int32) (rz : Int32) (sv : xPl) (mm : xPl) (u : Nat → Int32) (fi : Nat → Int32) (t2 : Nat → Int32) (dm : Nat → Int32) (th : Int32) (sa : Int32) (ln : Int32) (pa : Int32) (le : Int32) (sk : Int32) (nu : Int32) (h : Int64) (qa : Int32) (qb : Int32) (qc : Int32) (qd : Int32) (qe : Int32) (H : RI r po pn pl tx sv mm u fi t2 sa ln) : ((er_X6_addMix r qa qb qc qd qe) = none → (sp_X7_addMix_th u qa qb qc qd qe) = 0 ∧ ((sp_X2_put_xn r.xn) - 1) = (sp_X7_addMix u sa qa qb qc qd qe) ∧ ∀ adn : Nat → Nat, RI (xRk r.kp r.ke r.kr r.kt r.kh r.kc (sp_X2_put_xn r.xn) (sp_X2_put_xs r.xn r.xs qa) (sp_X2_put_xv r.xn r.xv qb) (sp_X2_put_xh r.xn r.xh qc) (sp_X2_put_xo r.xn r.xo qd) (sp_X2_put_xc r.xn r.xc qe) r.vd r.vn r.vl r.vu r.vs r.vm r.vp r.vt r.va r.vw r.jd r.jb r.jc r.js r.jl r.jx r.ji r.jf r.jn r.dq) (sp_spo2 po pn) (sp_spn2 pn) pl tx (svS sv adn r po pn) mm (sp_X7_addMix_s u sa qa qb qc qd qe) fi t2 (sp_X7_addMix_sa u sa qa qb qc qd qe) ln) ∧ (∀ (E : String) (cd : Int32), (er_X6_addMix r qa qb qc qd qe) = some E → ((E = xIA ∧ cd = 2) ∨ (E = xIO ∧ cd = 1) ∨ (E = xIS ∧ cd = 3)) → (sp_X7_addMix_th u qa qb qc qd qe) = cd ∧ RI r po pn pl tx sv mm (sp_X7_addMix_s u sa qa qb qc qd qe) fi t2 (sp_X7_addMix_sa u sa qa qb qc qd qe) ln) := by
  obtain ⟨hx, h12, h26⟩ := r_26 H.1
  unfold er_X6_addMix sp_X7_addMix_th sp_X7_addMix sp_X7_addMix_s sp_X7_addMix_sa
  by_cases c : (¬ qb < 0 ∧ qb < 6)
  · have e := in_V.mp c
    by_cases c1 : (¬ qa < 0 ∧ qa ≤ ((nI (4 + (Int32.toNatClampNeg qb))) - 1))
    · obtain ⟨e1, e2⟩ := (src_iff c).mp c1
      by_cases c3 : (¬ qc < (-150) ∧ qc ≤ 150)
      · have e3 := in_iff.mp c3
        by_cases c4 : qc = 0
        · simp only [if_pos c, if_pos c1, if_pos c3, if_pos c4, if_neg e1, if_neg e2, if_neg e3, if_neg e]
          exact ⟨fun q => absurd q (by simp), fun E cd q w => ⟨t3A q w, H⟩⟩
        · by_cases c5 : (¬ qd < (-50) ∧ qd ≤ 50)
          · have e5 := in_iff.mp c5
            by_cases c6 : (¬ qe < 0 ∧ qe ≤ 2)
            · have e6 := in_iff.mp c6
              have hr : (r.xn + 1 ≤ 12) ↔ ¬ u 26 = 12 := by
                rw [hx, h26, show (1 : Int32) = nI 1 from rfl, room_le h12 (by omega), show (12 : Int32) = nI 12 from rfl, nI_eq (by omega) (by omega)]
                omega
              by_cases c7 : (r.xn + 1) ≤ 12
              · have e7 := hr.mp c7
                simp only [if_pos c, if_pos c1, if_pos c3, if_neg c4, if_neg e1, if_neg e2, if_neg e3, if_neg e, if_pos c5, if_neg e5, if_pos c6, if_neg e6, if_pos c7, if_neg e7]
                have hn : rN (sp_X7_save_s u sa) 0 = rN u 0 := by unfold rN; rw [save_0 H.hs H.hs6 (by omega)]
                have hl : rN u 0 < 12 := by
                  rw [hx, show (1 : Int32) = nI 1 from rfl, room_le h12 (by omega)] at c7
                  omega
                obtain ⟨hA, -⟩ := adds_RS H.sv0 (by rw [hn]; exact hl) (src_ok c c1 c6 qc qd)
                refine ⟨fun _ => ⟨trivial, ?_, fun adn => H.saved adn (fun q q1 q2 => adds_at _ _ _ _ _ _ _ (by omega) (by omega)) hA⟩, fun E cd q => absurd q (by simp)⟩
                have : sp_X2_put_xn r.xn = sp_X7_adds_s (sp_X7_save_s u sa) qa qb qc qd qe (0 + 26) := hA.1.2.2.2.2.1.2.2
                rw [this]
              · have e7 : u 26 = 12 := Decidable.not_not.mp (fun q => c7 (hr.mpr q))
                simp only [if_pos c, if_pos c1, if_pos c3, if_neg c4, if_neg e1, if_neg e2, if_neg e3, if_neg e, if_pos c5, if_neg e5, if_pos c6, if_neg e6, if_neg c7, if_pos e7]
                exact ⟨fun q => absurd q (by simp), fun E cd q w => ⟨t3S q w, H⟩⟩
            · have e6 : sp_X7_in qe 0 2 = 0 := Decidable.not_not.mp (fun q => c6 (in_iff.mpr q))
              simp only [if_pos c, if_pos c1, if_pos c3, if_neg c4, if_neg e1, if_neg e2, if_neg e3, if_neg e, if_pos c5, if_neg e5, if_neg c6, if_pos e6]
              exact ⟨fun q => absurd q (by simp), fun E cd q w => ⟨t3A q w, H⟩⟩
          · have e5 : sp_X7_in qd (-50) 50 = 0 := Decidable.not_not.mp (fun q => c5 (in_iff.mpr q))
            simp only [if_pos c, if_pos c1, if_pos c3, if_neg c4, if_neg e1, if_neg e2, if_neg e3, if_neg e, if_neg c5, if_pos e5]
            exact ⟨fun q => absurd q (by simp), fun E cd q w => ⟨t3A q w, H⟩⟩
      · have e3 : sp_X7_in qc (-150) 150 = 0 := Decidable.not_not.mp (fun q => c3 (in_iff.mpr q))
        simp only [if_pos c, if_pos c1, if_neg c3, if_neg e1, if_neg e2, if_pos e3, if_neg e]
        exact ⟨fun q => absurd q (by simp), fun E cd q w => ⟨t3A q w, H⟩⟩
    · by_cases e1 : sp_X7_in qa 0 9 = 0
      · simp only [if_pos c, if_neg c1, if_pos e1, if_neg e]
        exact ⟨fun q => absurd q (by simp), fun E cd q w => ⟨t3A q w, H⟩⟩
      · have e2 : qb ≤ qa - 4 := Decidable.not_not.mp (fun q => c1 ((src_iff c).mpr ⟨e1, q⟩))
        simp only [if_pos c, if_neg c1, if_neg e1, if_pos e2, if_neg e]
        exact ⟨fun q => absurd q (by simp), fun E cd q w => ⟨t3A q w, H⟩⟩
  · have e : sp_X7_in qb 0 5 = 0 := Decidable.not_not.mp (fun q => c (in_V.mpr q))
    simp only [if_neg c, if_pos e, ite_self]
    exact ⟨fun q => absurd q (by simp), fun E cd q w => ⟨t3O q w, H⟩⟩
abbrev mQ : Type := Int32 × (Nat → Int32) × (Nat → Int32) × (Nat → Int32) × (Nat → Int32) × (Nat → Int32)
def q0r (r : xR) : mQ := (r.xn, r.xs, r.xv, r.xh, r.xo, r.xc)
def rOf (r : xR) (q : mQ) : xR := (xRk r.kp r.ke r.kr r.kt r.kh r.kc q.1 q.2.1 q.2.2.1 q.2.2.2.1 q.2.2.2.2.1 q.2.2.2.2.2 r.vd r.vn r.vl r.vu r.vs r.vm r.vp r.vt r.va r.vw r.jd r.jb r.jc r.js r.jl r.jx r.ji r.jf r.jn r.dq)
def ptq (q : mQ) (t : mT) : mQ := (sp_X2_put_xn q.1, sp_X2_put_xs q.1 q.2.1 t.1, sp_X2_put_xv q.1 q.2.2.1 t.2.1, sp_X2_put_xh q.1 q.2.2.2.1 t.2.2.1, sp_X2_put_xo q.1 q.2.2.2.2.1 t.2.2.2.1, sp_X2_put_xc q.1 q.2.2.2.2.2 t.2.2.2.2)
theorem adds_q {r : xR} {q : mQ} {w : Nat → Int32} (h : RS (rOf r q) w 0) (hn : rN w 0 < 12) {so to sh of co : Int32} (hg : gOk (so, to, sh, of, co)) : RS (rOf r (ptq q (so, to, sh, of, co))) (sp_X7_adds_s w so to sh of co) 0 ∧ rN (sp_X7_adds_s w so to sh of co) 0 = rN w 0 + 1 := adds_RS h hn hg
theorem el1 (r : xR) (qa qc : Int32) : ptq (q0r r) (0, qa, qc, 0, 0) = (sp_el1_xn r, sp_el1_xs r, sp_el1_xv r qa, sp_el1_xh r qc, sp_el1_xo r, sp_el1_xc r) := by unfold ptq q0r sp_el1_xn sp_el1_xs sp_el1_xv sp_el1_xh sp_el1_xo sp_el1_xc; rfl
theorem el2 (r : xR) (qa qc : Int32) : ptq (sp_el1_xn r, sp_el1_xs r, sp_el1_xv r qa, sp_el1_xh r qc, sp_el1_xo r, sp_el1_xc r) (1, qa, qc, 0, 0) = (sp_el2_xn r, sp_el2_xs r, sp_el2_xv r qa, sp_el2_xh r qc, sp_el2_xo r, sp_el2_xc r) := by unfold ptq sp_el2_xn sp_el2_xs sp_el2_xv sp_el2_xh sp_el2_xo sp_el2_xc; rfl
theorem el3 (r : xR) (qa qb qc : Int32) : ptq (sp_el2_xn r, sp_el2_xs r, sp_el2_xv r qa, sp_el2_xh r qc, sp_el2_xo r, sp_el2_xc r) (0, qb, -qc, 0, 0) = (sp_el3_xn r, sp_el3_xs r, sp_el3_xv r qa qb, sp_el3_xh r qc, sp_el3_xo r, sp_el3_xc r) := by unfold ptq sp_el3_xn sp_el3_xs sp_el3_xv sp_el3_xh sp_el3_xo sp_el3_xc; rfl
theorem el4 (r : xR) (qa qb qc : Int32) : ptq (sp_el3_xn r, sp_el3_xs r, sp_el3_xv r qa qb, sp_el3_xh r qc, sp_el3_xo r, sp_el3_xc r) (1, qb, qc, 0, 0) = (sp_el4_xn r, sp_el4_xs r, sp_el4_xv r qa qb, sp_el4_xh r qc, sp_el4_xo r, sp_el4_xc r) := by unfold ptq sp_el4_xn sp_el4_xs sp_el4_xv sp_el4_xh sp_el4_xo sp_el4_xc; rfl
theorem P_elevons (r : xR) (po : Int32) (pn : Int32) (pl : Int32) (tx : Nat → Int32) (rp : Int32) (rl : Int32) (rs : Int32) (rm : Int32) (rn : Int32) (rz : Int32) (sv : xPl) (mm : xPl) (u : Nat → Int32) (fi : Nat → Int32) (t2 : Nat → Int32) (dm : Nat → Int32) (th : Int32) (sa : Int32) (ln : Int32) (pa : Int32) (le : Int32) (sk : Int32) (nu : Int32) (h : Int64) (qa : Int32) (qb : Int32) (qc : Int32) (H : RI r po pn pl tx sv mm u fi t2 sa ln) : ((er_X6_elevons r qa qb qc) = none → (sp_X7_elevons_th u qa qb qc) = 0 ∧ (sp_el4_xn r) = (sp_X7_elevons u sa qa qb qc) ∧ ∀ adn : Nat → Nat, RI (xRk r.kp r.ke r.kr r.kt r.kh r.kc (sp_el4_xn r) (sp_el4_xs r) (sp_el4_xv r qa qb) (sp_el4_xh r qc) (sp_el4_xo r) (sp_el4_xc r) r.vd r.vn r.vl r.vu r.vs r.vm r.vp r.vt r.va r.vw r.jd r.jb r.jc r.js r.jl r.jx r.ji r.jf r.jn r.dq) (sp_spo2 po pn) (sp_spn2 pn) pl tx (svS sv adn r po pn) mm (sp_X7_elevons_s u sa qa qb qc) fi t2 (sp_X7_elevons_sa u sa qa qb qc) ln) ∧ (∀ (E : String) (cd : Int32), (er_X6_elevons r qa qb qc) = some E → ((E = xIA ∧ cd = 2) ∨ (E = xIO ∧ cd = 1) ∨ (E = xIS ∧ cd = 3)) → (sp_X7_elevons_th u qa qb qc) = cd ∧ RI r po pn pl tx sv mm (sp_X7_elevons_s u sa qa qb qc) fi t2 (sp_X7_elevons_sa u sa qa qb qc) ln) := by
  obtain ⟨hx, h12, h26⟩ := r_26 H.1
  unfold er_X6_elevons sp_X7_elevons_th sp_X7_elevons sp_X7_elevons_s sp_X7_elevons_sa
  by_cases c : (¬ qa < 0 ∧ qa < 6)
  · have e := in_V.mp c
    by_cases c2 : (¬ qb < 0 ∧ qb < 6)
    · have e2 := in_V.mp c2
      by_cases c3 : qa = qb
      · simp only [if_pos c, if_neg e, if_pos c2, if_neg e2, if_pos c3]
        exact ⟨fun q => absurd q (by simp), fun E cd q w => ⟨t3A q w, H⟩⟩
      · by_cases c4 : (¬ qc < 1 ∧ qc ≤ 150)
        · have e4 := in_iff.mp c4
          have hr : (r.xn + 4 ≤ 12) ↔ u 26 ≤ 8 := by
            rw [hx, h26, show (4 : Int32) = nI 4 from rfl, room_le h12 (by omega), show (8 : Int32) = nI 8 from rfl, nI_leI (by omega) (by omega)]
            omega
          by_cases c5 : (r.xn + 4) ≤ 12
          · have e5 := hr.mp c5
            simp only [if_pos c, if_neg e, if_pos c2, if_neg e2, if_neg c3, if_pos c4, if_neg e4, if_pos c5, if_pos e5]
            have hn : rN (sp_X7_save_s u sa) 0 = rN u 0 := by unfold rN; rw [save_0 H.hs H.hs6 (by omega)]
            have hl : rN u 0 + 4 ≤ 12 := by
              rw [hx, show (4 : Int32) = nI 4 from rfl, room_le h12 (by omega)] at c5
              exact c5
            have g0 : ∀ (v : Int32) (s1 of : Int32), (¬ v < 0 ∧ v < 6) → gOk (0, v, s1, of, 0) := fun v s1 of hv => ⟨⟨rfl, show (0 : Int32).toNatClampNeg < 10 by decide⟩, Or.inl (show (0 : Int32).toNatClampNeg < 4 by decide), ⟨V_nI hv, V_lt hv⟩, Or.inl rfl⟩
            have g1 : ∀ (v : Int32) (s1 of : Int32), (¬ v < 0 ∧ v < 6) → gOk (1, v, s1, of, 0) := fun v s1 of hv => ⟨⟨rfl, show (1 : Int32).toNatClampNeg < 10 by decide⟩, Or.inl (show (1 : Int32).toNatClampNeg < 4 by decide), ⟨V_nI hv, V_lt hv⟩, Or.inl rfl⟩
            obtain ⟨hA, nA⟩ := adds_q (q := q0r r) H.sv0 (by rw [hn]; omega) (g0 qa qc 0 c)
            obtain ⟨hB, nB⟩ := adds_q hA (by rw [nA, hn]; omega) (g1 qa qc 0 c)
            obtain ⟨hC, nC⟩ := adds_q hB (by rw [nB, nA, hn]; omega) (g0 qb (-qc) 0 c2)
            obtain ⟨hD, nD⟩ := adds_q hC (by rw [nC, nB, nA, hn]; omega) (g1 qb qc 0 c2)
            rw [el1, el2, el3, el4] at hD
            unfold rOf at hD
            dsimp only at hD
            exact ⟨fun _ => ⟨trivial, hD.1.2.2.2.2.1.2.2, fun adn => H.saved adn (fun q q1 q2 => (adds_at _ _ _ _ _ _ _ (by omega) (by omega)).trans ((adds_at _ _ _ _ _ _ _ (by omega) (by omega)).trans ((adds_at _ _ _ _ _ _ _ (by omega) (by omega)).trans (adds_at _ _ _ _ _ _ _ (by omega) (by omega))))) hD⟩, fun E cd q => absurd q (by simp)⟩
          · have e5 : ¬ u 26 ≤ 8 := fun q => c5 (hr.mpr q)
            simp only [if_pos c, if_neg e, if_pos c2, if_neg e2, if_neg c3, if_pos c4, if_neg e4, if_neg c5, if_neg e5]
            exact ⟨fun q => absurd q (by simp), fun E cd q w => ⟨t3S q w, H⟩⟩
        · have e4 : sp_X7_in qc 1 150 = 0 := Decidable.not_not.mp (fun q => c4 (in_iff.mpr q))
          simp only [if_pos c, if_neg e, if_pos c2, if_neg e2, if_neg c3, if_neg c4, if_pos e4]
          exact ⟨fun q => absurd q (by simp), fun E cd q w => ⟨t3A q w, H⟩⟩
    · have e2 : sp_X7_in qb 0 5 = 0 := Decidable.not_not.mp (fun q => c2 (in_V.mpr q))
      simp only [if_pos c, if_neg e, if_neg c2, if_pos e2]
      exact ⟨fun q => absurd q (by simp), fun E cd q w => ⟨t3O q w, H⟩⟩
  · have e : sp_X7_in qa 0 5 = 0 := Decidable.not_not.mp (fun q => c (in_V.mpr q))
    simp only [if_neg c, if_pos e]
    exact ⟨fun q => absurd q (by simp), fun E cd q w => ⟨t3O q w, H⟩⟩
