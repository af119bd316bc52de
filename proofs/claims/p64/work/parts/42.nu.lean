/-! numbers of 32 bits as whole numbers -/
theorem ti_b (x : Int32) : -2147483648 ≤ x.toInt ∧ x.toInt ≤ 2147483647 := by
  have h1 := Int32.le_toInt x
  have h2 := Int32.toInt_lt x
  omega
theorem ti_bm {x : Int} (h1 : -2147483648 ≤ x) (h2 : x ≤ 2147483647) : x.bmod (2 ^ 32) = x := Int.bmod_eq_of_le (by omega) (by omega)
theorem ti_add {a b : Int32} (h1 : -2147483648 ≤ a.toInt + b.toInt) (h2 : a.toInt + b.toInt ≤ 2147483647) : (a + b).toInt = a.toInt + b.toInt := by
  rw [Int32.toInt_add]; exact ti_bm h1 h2
theorem ti_sub {a b : Int32} (h1 : -2147483648 ≤ a.toInt - b.toInt) (h2 : a.toInt - b.toInt ≤ 2147483647) : (a - b).toInt = a.toInt - b.toInt := by
  rw [Int32.toInt_sub]; exact ti_bm h1 h2
theorem ti_mul {a b : Int32} (h1 : -2147483648 ≤ a.toInt * b.toInt) (h2 : a.toInt * b.toInt ≤ 2147483647) : (a * b).toInt = a.toInt * b.toInt := by
  rw [Int32.toInt_mul]; exact ti_bm h1 h2
theorem ti_neg {a : Int32} (h1 : -2147483647 ≤ a.toInt) : (-a).toInt = -a.toInt := by
  have := (ti_b a).2
  rw [Int32.toInt_neg]; exact ti_bm (by omega) (by omega)
theorem ti_div {a b : Int32} (hb : b ≠ -1) : (a / b).toInt = a.toInt.tdiv b.toInt := Int32.toInt_div_of_ne_right a b hb
theorem ti_le {a b : Int32} : a ≤ b ↔ a.toInt ≤ b.toInt := Int32.le_iff_toInt_le
theorem ti_lt {a b : Int32} : a < b ↔ a.toInt < b.toInt := Int32.lt_iff_toInt_lt
theorem ti_eq {a b : Int32} : a = b ↔ a.toInt = b.toInt := Int32.toInt_inj.symm
theorem ti_n {n : Nat} (h : n < 2147483648) : (nI n).toInt = (n : Int) := nI_toInt h
theorem ti_cl {x : Int32} (h : 0 ≤ x.toInt) : (x.toNatClampNeg : Int) = x.toInt := Int.toNat_of_nonneg h
theorem ti_nc {x : Int32} (h : 0 ≤ x.toInt) : x = nI x.toNatClampNeg := by
  have hb := (ti_b x).2
  have hc := ti_cl h
  apply ti_eq.mpr
  rw [ti_n (by omega), hc]
theorem ti_cn {x : Int32} {n : Nat} (h : x.toInt = n) : x.toNatClampNeg = n := by
  show x.toInt.toNat = n
  rw [h]; rfl
/-- a product of bounded numbers -/
theorem mb {a b A B : Int} (h1 : -A ≤ a) (h2 : a ≤ A) (h3 : -B ≤ b) (h4 : b ≤ B) : -(A * B) ≤ a * b ∧ a * b ≤ A * B := by
  have p1 := Int.mul_nonneg (show 0 ≤ A - a by omega) (show 0 ≤ B + b by omega)
  have p2 := Int.mul_nonneg (show 0 ≤ A + a by omega) (show 0 ≤ B - b by omega)
  have p3 := Int.mul_nonneg (show 0 ≤ A - a by omega) (show 0 ≤ B - b by omega)
  have p4 := Int.mul_nonneg (show 0 ≤ A + a by omega) (show 0 ≤ B + b by omega)
  simp only [Int.sub_mul, Int.add_mul, Int.mul_sub, Int.mul_add] at p1 p2 p3 p4
  omega
/-- a truncated quotient of a bounded number -/
theorem tdb {x m c : Int} (hm : 0 < m) (h1 : -(c * m) ≤ x) (h2 : x ≤ c * m) : -c ≤ x.tdiv m ∧ x.tdiv m ≤ c := by
  have e1 : (c * m).tdiv m = c := Int.mul_tdiv_cancel c (by omega)
  have e2 : (-(c * m)).tdiv m = -c := by rw [Int.neg_tdiv, e1]
  have g1 := Int.tdiv_le_tdiv hm h1
  have g2 := Int.tdiv_le_tdiv hm h2
  omega
/-- the size of a number, as the class and the law have it -/
theorem ab_ti {x : Int32} (h : -2147483647 ≤ x.toInt) : (if 0 ≤ x then x else 0 - x).toInt = (x.toInt.natAbs : Int) := by
  have hb := (ti_b x).2
  have z : (0 : Int32).toInt = 0 := rfl
  by_cases c : 0 ≤ x
  · rw [if_pos c]
    have := ti_le.mp c
    omega
  · rw [if_neg c]
    have c2 : ¬ (0 : Int32).toInt ≤ x.toInt := fun q => c (ti_le.mpr q)
    rw [ti_sub (by omega) (by omega)]
    omega
theorem nab_ti {x : Int32} (h : -2147483647 ≤ x.toInt) : (if 0 ≤ x then x else -x).toInt = (x.toInt.natAbs : Int) := by
  have hb := (ti_b x).2
  have z : (0 : Int32).toInt = 0 := rfl
  by_cases c : 0 ≤ x
  · rw [if_pos c]
    have := ti_le.mp c
    omega
  · rw [if_neg c]
    have c2 : ¬ (0 : Int32).toInt ≤ x.toInt := fun q => c (ti_le.mpr q)
    rw [ti_neg h]
    omega
/-- a number cut to a range -/
theorem cl_ti {lo hi v : Int32} (h : lo.toInt ≤ hi.toInt) : lo.toInt ≤ (if hi < (if v < lo then lo else v) then hi else (if v < lo then lo else v)).toInt ∧ (if hi < (if v < lo then lo else v) then hi else (if v < lo then lo else v)).toInt ≤ hi.toInt := by
  by_cases c1 : v < lo
  · rw [if_pos c1]
    by_cases c2 : hi < lo
    · have := ti_lt.mp c2; omega
    · rw [if_neg c2]; omega
  · rw [if_neg c1]
    have d1 : ¬ v.toInt < lo.toInt := fun q => c1 (ti_lt.mpr q)
    by_cases c2 : hi < v
    · rw [if_pos c2]; omega
    · rw [if_neg c2]
      have d2 : ¬ hi.toInt < v.toInt := fun q => c2 (ti_lt.mpr q)
      omega
theorem up_self {f : Nat → Int32} {k : Nat} : upd f k (f k) = f := by
  funext j
  show (if j = k then f k else f j) = f j
  split
  · rename_i h; rw [h]
  · rfl
theorem up_at {f : Nat → Int32} {k : Nat} {x : Int32} (j : Nat) : upd f k x j = if j = k then x else f j := rfl
theorem up_upd {f : Nat → Int32} {k : Nat} {x y : Int32} : upd (upd f k x) k y = upd f k y := by
  funext j
  show (if j = k then y else if j = k then x else f j) = if j = k then y else f j
  split <;> rfl
/-- nothing from n on -/
def nz (n : Nat) (f : Nat → Int32) : Prop := ∀ k, n ≤ k → f k = 0
theorem nz_up {n k : Nat} {f : Nat → Int32} {x : Int32} (h : nz n f) (hk : k < n) : nz n (upd f k x) := fun j hj => by
  show (if j = k then x else f j) = 0
  rw [if_neg (by omega)]
  exact h j hj
theorem nz_fil (v : Int32) (a0 : Nat → Int32) (N : Nat) (h : nz N a0) : ∀ n, n ≤ N → nz N (sp_fil v a0 n)
  | 0, _ => h
  | n + 1, hn => nz_up (nz_fil v a0 N h n (by omega)) (by omega)
theorem cpr_at (f g : Nat → Int32) (j : Nat) : ∀ n, sp_cpr f g n j = if j < n then f j else g j
  | 0 => rfl
  | n + 1 => by
    show (if j = n then f n else sp_cpr f g n j) = _
    rw [cpr_at f g j n]
    by_cases c : j = n
    · subst c
      rw [if_pos rfl, if_pos (by omega)]
    · rw [if_neg c]
      by_cases d : j < n
      · rw [if_pos d, if_pos (by omega)]
      · rw [if_neg d, if_neg (by omega)]
theorem cpr_eq {n : Nat} {f g : Nat → Int32} (hf : nz n f) (hg : nz n g) : sp_cpr f g (n + 0) = f := by
  funext j
  rw [cpr_at]
  by_cases c : j < n
  · exact if_pos c
  · rw [if_neg (by omega), hg j (by omega), hf j (by omega)]
theorem fil_at (v : Int32) (g : Nat → Int32) (j : Nat) : ∀ n, sp_fil v g n j = if j < n then v else g j
  | 0 => rfl
  | n + 1 => by
    show (if j = n then v else sp_fil v g n j) = _
    rw [fil_at v g j n]
    by_cases c : j = n
    · subst c
      rw [if_pos rfl, if_pos (by omega)]
    · rw [if_neg c]
      by_cases d : j < n
      · rw [if_pos d, if_pos (by omega)]
      · rw [if_neg d, if_neg (by omega)]
