set_option maxRecDepth 100000 in
set_option maxHeartbeats 1000000 in
theorem c_51 {p : Program} {l : Launch} {e : Env} {s : State} {m : MethodId} {args : Array Value} {below : List Frame} {meth : Method} {c : Code} {cells slots : Nat} {Q : State → Prop} {nm : String} {g : xGt} {A : Nat → Prop} {b L i : Nat} {xs : Nat → Int32} {ap ad am : Nat → Nat} {ao : Nat} {r : xR} {po : Int32} {pn : Int32} {pl : Int32} {tx : Nat → Int32} {rp : Int32} {rl : Int32} {rs : Int32} {rm : Int32} {rn : Int32} {rz : Int32} {sv : xPl} {mm : xPl} {u : Nat → Int32} {fi : Nat → Int32} {t2 : Nat → Int32} {dm : Nat → Int32} {th : Int32} {sa : Int32} {ln : Int32} {pa : Int32} {le : Int32} {sk : Int32} {nu : Int32} {h : Int64} {fo : Nat → Int64} (C : xC p l s m args meth c cL_law 9 RL nm g.1 (xT g) A) (hX : va_X b L xs s s.heap) (hbl : b < s.heap.size) (hbA : ¬ A b) (hi : i + 6 ≤ L) (hL : L ≤ 3072) (hcC : cells + 40 ≤ room_1.cells) (hsC : slots + 300 ≤ room_1.slots) (H : RI r po pn pl tx sv mm u fi t2 sa ln) (K : LK p l e s m args below meth c g A ap ad am ao b i (cells + 40) (slots + 300) Q) : xW p l e room_1 s m args below meth c g.1 A 9 cells slots Q (wLaw g ap ad am ao r po pn pl tx rp rl rs rm rn rz sv mm u fi t2 dm th sa ln pa le sk nu h fo) [(4, .int (nI i)), (3, .ref ao), (2, .ref (am 0)), (1, .ref (ap 0)), (0, .ref b)] 2781 [] := by
  refine x_ws (ws' := ((wOu g ao fo) ++ ((wMo g am u fi t2 dm th sa ln pa le sk nu h) ++ (wCl g ap ad r po pn pl tx rp rl rs rm rn rz sv mm)))) rfl ?_
  refine x_aload_n C 3 rfl rfl dL_law_2781 ?_
  refine x_EV1 (w1 := (wOu g ao fo) ++ (wMo g am u fi t2 dm th sa ln pa le sk nu h)) (wc := (wCl g ap ad r po pn pl tx rp rl rs rm rn rz sv mm)) [] [] C (k_X6_linkQuality l g ap ad r po pn pl tx rp rl rs rm rn rz sv mm H.clo) (List.append_assoc _ _ _).symm yV_X6_linkQuality wML_L_327 6 rfl rfl rfl rfl (nle rfl) (nle rfl) (nle rfl) (rmc hcC (by omega)) (rmc hsC (by omega)) dL_law_2782 (fun E w h => h.elim) (fun r0 w0 h0 => ?_)
  have hP := P_linkQuality H.1
  obtain ⟨rfl, rfl⟩ := h0
  refine x_ws (ws' := ((wOu g ao fo) ++ ((wMo g am u fi t2 dm th sa ln pa le sk nu h) ++ (wCl g ap ad r po pn pl tx rp rl rs rm rn rz sv mm)))) (List.append_assoc _ _ _) ?_
  refine x_st (st' := [.double (lqV r.js r.jl)]) rfl ?_
  refine x_dstore C [(5, .double (lqV r.js r.jl)), (4, .int (nI i)), (3, .ref ao), (2, .ref (am 0)), (1, .ref (ap 0)), (0, .ref b)] rfl (by decide) dL_law_2785 ?_
  refine x_aload_n C 3 rfl rfl dL_law_2787 ?_
  refine x_FV (w1 := (wOu g ao fo)) (wc := (wMo g am u fi t2 dm th sa ln pa le sk nu h)) (w2 := (wCl g ap ad r po pn pl tx rp rl rs rm rn rz sv mm)) [] [] ((wOu g ao fo) ++ ((wMo g am u fi t2 dm 0 sa ln pa le sk nu h) ++ (wCl g ap ad r po pn pl tx rp rl rs rm rn rz sv mm))) C (k_X7_linkQuality l g am u fi t2 dm th sa ln pa le sk nu h H.hs H.hs6 H.hm) rfl yV_X7_linkQuality wML_L_331 rfl 1 rfl rfl rfl rfl (nle rfl) (nle rfl) (nle rfl) (rmc hcC (by omega)) (rmc hsC (by omega)) dL_law_2788 ?_
  refine x_dstore C [(7, .double (lqV (u 150) (u 151))), (5, .double (lqV r.js r.jl)), (4, .int (nI i)), (3, .ref ao), (2, .ref (am 0)), (1, .ref (ap 0)), (0, .ref b)] rfl (by decide) dL_law_2791 ?_
  rw [← hP]
  generalize lqV r.js r.jl = v
  have hE : xW p l e room_1 s m args below meth c g.1 A 9 cells slots Q ((wOu g ao fo) ++ ((wMo g am u fi t2 dm 0 sa ln pa le sk nu h) ++ (wCl g ap ad r po pn pl tx rp rl rs rm rn rz sv mm))) [(7, .double v), (5, .double v), (4, .int (nI i)), (3, .ref ao), (2, .ref (am 0)), (1, .ref (ap 0)), (0, .ref b)] 2819 [] := by
    refine x_goto C 3131 (by decide) dL_law_2819 ?_
    refine x_lv [(4, .int (nI i)), (3, .ref ao), (2, .ref (am 0)), (1, .ref (ap 0)), (0, .ref b)] [2, 3, 4, 5, 6] rfl ?_
    refine x_wid (k := cells + 40) (n := slots + 300) (by omega) (by omega) ?_
    exact K r po pn pl tx rp rl rs rm rn rz sv mm u fi t2 dm 0 sa ln pa le sk nu h fo H
  refine x_dload C 1 rfl dL_law_2793 ?_
  refine x_dload C 0 rfl dL_law_2795 ?_
  refine x_dcmp C dL_law_2797 ?_
  refine x_if_eq C 2819 (by decide) dL_law_2798 (fun _ => hE) (fun hz => ?_)
  refine x_dload C 1 rfl dL_law_2801 ?_
  refine x_dload C 1 rfl dL_law_2803 ?_
  refine x_dcmp C dL_law_2805 ?_
  refine x_if_eq C 2817 (by decide) dL_law_2806 (fun q => absurd q hz) (fun _ => ?_)
  refine x_dload C 0 rfl dL_law_2809 ?_
  refine x_dload C 0 rfl dL_law_2811 ?_
  refine x_dcmp C dL_law_2813 ?_
  exact x_if_ne C 2819 (by decide) dL_law_2814 (fun _ => hE) (fun q => absurd q hz)
