/-! THE REFERENCE: weak contracts (written by wip/gen) -/
set_option maxHeartbeats 4000000 in
set_option maxRecDepth 100000 in
/-- the reference: set -/
theorem y_set_v45 (l : Launch) (D : va_G) (cI cS : ClassId) (τ : Nat → Option Nat) (ρ : Nat → Nat → Nat) (hW : WF τ ρ) (H : Heap) (hT : TH D cI cS τ ρ H) (a0 : Nat) (ha0 : τ a0 = some 12) : MV l D cI cS τ ρ yX12_set cX12_set 4 none 0 0 H [.ref a0, .int 1, .int 11, .int 0] (fun (u : Heap) => (AU 985 H u (ρ a0 0) 299 (0))) (fun q => q = ρ a0 0) := by
  refine MV.of (by decide) (Nat.le_of_ble_eq_true rfl) ?_
  intro p e s m args below meth c E hml hr hlk hs ls hl
  have hx := E.1
  have hb := E.2.1
  have hown := E.2.2.1
  have hts := E.2.2.2.1
  have hS : SS (fun q => q = ρ a0 0) H H [] := SS.rf
  have hl : lv_has ls 4 [(0, .ref a0), (1, .int 1), (2, .int 11), (3, .int 0)] := hl
  refine lv_aload_n hx hb dX12_set_0 rfl (lv_at hl 0 rfl) ?_
  refine gf_X12_7 E hT hW ha0 dX12_set_1 (fun h_1 => ?_)
  refine lv_sipush (v := 288) hx hb dX12_set_4 (by decide) ?_
  refine lv_iload_n hx hb dX12_set_7 rfl (lv_at hl 1 rfl) ?_
  refine lv_imul hx hb dX12_set_8 ?_
  refine th_topi (y := 288) (by decide) ?_
  refine lv_iload_n hx hb dX12_set_9 rfl (lv_at hl 2 rfl) ?_
  refine lv_iadd hx hb dX12_set_10 ?_
  refine th_topi (y := 299) (by decide) ?_
  refine lv_iload_n hx hb dX12_set_11 rfl (lv_at hl 3 rfl) ?_
  refine th_iast E hT hS h_1 rfl (by decide) (vp_in_iff.mpr ⟨by decide, by decide⟩) dX12_set_12 (fun H_2 locs_2 hT_2 hU_2 hS_2 => ?_)
  have hU_2 : AU 985 H H_2 (ρ a0 0) 299 (0) := hU_2
  exact th_vret E hr hlk hs hT_2 hS_2 hU_2 dX12_set_13
set_option maxHeartbeats 4000000 in
set_option maxRecDepth 100000 in
/-- the reference: get -/
theorem y_get_v30 (l : Launch) (D : va_G) (cI cS : ClassId) (τ : Nat → Option Nat) (ρ : Nat → Nat → Nat) (hW : WF τ ρ) (H : Heap) (hT : TH D cI cS τ ρ H) (a0 : Nat) (ha0 : τ a0 = some 12) : MI l D cI cS τ ρ yX12_get cX12_get 3 (some .int) 0 0 H [.ref a0, .int 1, .int 16] (fun (r : Int32) (u : Heap) => (H = u) ∧ (ai H (ρ a0 0) 304 = r)) (fun q => False) := by
  refine MI.of (by decide) (Nat.le_of_ble_eq_true rfl) ?_
  intro p e s m args below meth c E hml hr hlk hs ls hl
  have hx := E.1
  have hb := E.2.1
  have hown := E.2.2.1
  have hts := E.2.2.2.1
  have hS : SS (fun q => False) H H [] := SS.rf
  have hl : lv_has ls 3 [(0, .ref a0), (1, .int 1), (2, .int 16)] := hl
  refine lv_aload_n hx hb dX12_get_0 rfl (lv_at hl 0 rfl) ?_
  refine gf_X12_7 E hT hW ha0 dX12_get_1 (fun h_1 => ?_)
  refine lv_sipush (v := 288) hx hb dX12_get_4 (by decide) ?_
  refine lv_iload_n hx hb dX12_get_7 rfl (lv_at hl 1 rfl) ?_
  refine lv_imul hx hb dX12_get_8 ?_
  refine th_topi (y := 288) (by decide) ?_
  refine lv_iload_n hx hb dX12_get_9 rfl (lv_at hl 2 rfl) ?_
  refine lv_iadd hx hb dX12_get_10 ?_
  refine th_topi (y := 304) (by decide) ?_
  refine th_iald E hT h_1 (by decide) (vp_in_iff.mpr ⟨by decide, by decide⟩) dX12_get_11 ?_
  refine th_topi (y := ai H (ρ a0 0) 304) rfl ?_
  refine lv_topi (fun x_2 ex_2 => ?_)
  have c_x_2 := congrArg Int32.toInt ex_2.symm
  exact th_iret E hr hlk hs hT hS ⟨rfl, ex_2.symm⟩ dX12_get_12
set_option maxHeartbeats 4000000 in
set_option maxRecDepth 100000 in
/-- the reference: get -/
theorem y_get_v31 (l : Launch) (D : va_G) (cI cS : ClassId) (τ : Nat → Option Nat) (ρ : Nat → Nat → Nat) (hW : WF τ ρ) (H : Heap) (hT : TH D cI cS τ ρ H) (a0 : Nat) (ha0 : τ a0 = some 12) : MI l D cI cS τ ρ yX12_get cX12_get 3 (some .int) 0 0 H [.ref a0, .int 1, .int 3] (fun (r : Int32) (u : Heap) => (H = u) ∧ (ai H (ρ a0 0) 291 = r)) (fun q => False) := by
  refine MI.of (by decide) (Nat.le_of_ble_eq_true rfl) ?_
  intro p e s m args below meth c E hml hr hlk hs ls hl
  have hx := E.1
  have hb := E.2.1
  have hown := E.2.2.1
  have hts := E.2.2.2.1
  have hS : SS (fun q => False) H H [] := SS.rf
  have hl : lv_has ls 3 [(0, .ref a0), (1, .int 1), (2, .int 3)] := hl
  refine lv_aload_n hx hb dX12_get_0 rfl (lv_at hl 0 rfl) ?_
  refine gf_X12_7 E hT hW ha0 dX12_get_1 (fun h_1 => ?_)
  refine lv_sipush (v := 288) hx hb dX12_get_4 (by decide) ?_
  refine lv_iload_n hx hb dX12_get_7 rfl (lv_at hl 1 rfl) ?_
  refine lv_imul hx hb dX12_get_8 ?_
  refine th_topi (y := 288) (by decide) ?_
  refine lv_iload_n hx hb dX12_get_9 rfl (lv_at hl 2 rfl) ?_
  refine lv_iadd hx hb dX12_get_10 ?_
  refine th_topi (y := 291) (by decide) ?_
  refine th_iald E hT h_1 (by decide) (vp_in_iff.mpr ⟨by decide, by decide⟩) dX12_get_11 ?_
  refine th_topi (y := ai H (ρ a0 0) 291) rfl ?_
  refine lv_topi (fun x_2 ex_2 => ?_)
  have c_x_2 := congrArg Int32.toInt ex_2.symm
  exact th_iret E hr hlk hs hT hS ⟨rfl, ex_2.symm⟩ dX12_get_12
set_option maxHeartbeats 4000000 in
set_option maxRecDepth 100000 in
/-- the reference: set -/
theorem y_set_v46 (l : Launch) (D : va_G) (cI cS : ClassId) (τ : Nat → Option Nat) (ρ : Nat → Nat → Nat) (hW : WF τ ρ) (H : Heap) (hT : TH D cI cS τ ρ H) (a0 : Nat) (x2 : Int32) (ha0 : τ a0 = some 12) : MV l D cI cS τ ρ yX12_set cX12_set 4 none 0 0 H [.ref a0, .int 1, .int 3, .int x2] (fun (u : Heap) => (AU 985 H u (ρ a0 0) 291 x2)) (fun q => q = ρ a0 0) := by
  refine MV.of (by decide) (Nat.le_of_ble_eq_true rfl) ?_
  intro p e s m args below meth c E hml hr hlk hs ls hl
  have hx := E.1
  have hb := E.2.1
  have hown := E.2.2.1
  have hts := E.2.2.2.1
  have hS : SS (fun q => q = ρ a0 0) H H [] := SS.rf
  have hl : lv_has ls 4 [(0, .ref a0), (1, .int 1), (2, .int 3), (3, .int x2)] := hl
  refine lv_aload_n hx hb dX12_set_0 rfl (lv_at hl 0 rfl) ?_
  refine gf_X12_7 E hT hW ha0 dX12_set_1 (fun h_1 => ?_)
  refine lv_sipush (v := 288) hx hb dX12_set_4 (by decide) ?_
  refine lv_iload_n hx hb dX12_set_7 rfl (lv_at hl 1 rfl) ?_
  refine lv_imul hx hb dX12_set_8 ?_
  refine th_topi (y := 288) (by decide) ?_
  refine lv_iload_n hx hb dX12_set_9 rfl (lv_at hl 2 rfl) ?_
  refine lv_iadd hx hb dX12_set_10 ?_
  refine th_topi (y := 291) (by decide) ?_
  refine lv_iload_n hx hb dX12_set_11 rfl (lv_at hl 3 rfl) ?_
  refine th_iast E hT hS h_1 rfl (by decide) (vp_in_iff.mpr ⟨by decide, by decide⟩) dX12_set_12 (fun H_2 locs_2 hT_2 hU_2 hS_2 => ?_)
  have hU_2 : AU 985 H H_2 (ρ a0 0) 291 x2 := hU_2
  exact th_vret E hr hlk hs hT_2 hS_2 hU_2 dX12_set_13
set_option maxHeartbeats 4000000 in
set_option maxRecDepth 100000 in
/-- the reference: get -/
theorem y_get_v32 (l : Launch) (D : va_G) (cI cS : ClassId) (τ : Nat → Option Nat) (ρ : Nat → Nat → Nat) (hW : WF τ ρ) (H : Heap) (hT : TH D cI cS τ ρ H) (a0 : Nat) (ha0 : τ a0 = some 12) : MI l D cI cS τ ρ yX12_get cX12_get 3 (some .int) 0 0 H [.ref a0, .int 1, .int 2] (fun (r : Int32) (u : Heap) => (H = u) ∧ (ai H (ρ a0 0) 290 = r)) (fun q => False) := by
  refine MI.of (by decide) (Nat.le_of_ble_eq_true rfl) ?_
  intro p e s m args below meth c E hml hr hlk hs ls hl
  have hx := E.1
  have hb := E.2.1
  have hown := E.2.2.1
  have hts := E.2.2.2.1
  have hS : SS (fun q => False) H H [] := SS.rf
  have hl : lv_has ls 3 [(0, .ref a0), (1, .int 1), (2, .int 2)] := hl
  refine lv_aload_n hx hb dX12_get_0 rfl (lv_at hl 0 rfl) ?_
  refine gf_X12_7 E hT hW ha0 dX12_get_1 (fun h_1 => ?_)
  refine lv_sipush (v := 288) hx hb dX12_get_4 (by decide) ?_
  refine lv_iload_n hx hb dX12_get_7 rfl (lv_at hl 1 rfl) ?_
  refine lv_imul hx hb dX12_get_8 ?_
  refine th_topi (y := 288) (by decide) ?_
  refine lv_iload_n hx hb dX12_get_9 rfl (lv_at hl 2 rfl) ?_
  refine lv_iadd hx hb dX12_get_10 ?_
  refine th_topi (y := 290) (by decide) ?_
  refine th_iald E hT h_1 (by decide) (vp_in_iff.mpr ⟨by decide, by decide⟩) dX12_get_11 ?_
  refine th_topi (y := ai H (ρ a0 0) 290) rfl ?_
  refine lv_topi (fun x_2 ex_2 => ?_)
  have c_x_2 := congrArg Int32.toInt ex_2.symm
  exact th_iret E hr hlk hs hT hS ⟨rfl, ex_2.symm⟩ dX12_get_12
set_option maxHeartbeats 4000000 in
set_option maxRecDepth 100000 in
/-- the reference: hears -/
theorem y_hears_v2 (l : Launch) (D : va_G) (cI cS : ClassId) (τ : Nat → Option Nat) (ρ : Nat → Nat → Nat) (hW : WF τ ρ) (H : Heap) (hT : TH D cI cS τ ρ H) (a0 : Nat) (x1 : Int32) (ha0 : τ a0 = some 12) (N : Int) (hN0 : 0 ≤ N) (hN1 : N ≤ 600) (hI : IM D ρ N H a0) (hp0 : x1.toInt ≤ N + 2 ∧ -1000 ≤ x1.toInt) : MV l D cI cS τ ρ yX12_hears cX12_hears 7 none 2 46 H [.ref a0, .int 1, .int x1] (fun (u : Heap) => (IM D ρ N u a0) ∧ ((ai H (ρ a0 0) 976).toInt ≤ (ai u (ρ a0 0) 976).toInt) ∧ (ai u (ρ a0 0) 288 = ai H (ρ a0 0) 288) ∧ (ai u (ρ a0 0) 290 = ai H (ρ a0 0) 290)) (fun q => q = ρ a0 0) := by
  refine MV.of (by decide) (Nat.le_of_ble_eq_true rfl) ?_
  intro p e s m args below meth c E hml hr hlk hs ls hl
  have hx := E.1
  have hb := E.2.1
  have hown := E.2.2.1
  have hts := E.2.2.2.1
  have hS : SS (fun q => q = ρ a0 0) H H [] := SS.rf
  have hl : lv_has ls 7 [(0, .ref a0), (1, .int 1), (2, .int x1)] := hl
  have n01 := hI.2.2.2.2.2.1
  have n23 := hI.2.2.2.2.2.2.1
  have L_55 : ∀ (n : Nat) (H_c55 : Heap) (lc_c55 : List Loc) (ls : Array Slot) (y55_3 : Int32) (g55_0 : Int32), TH D cI cS τ ρ H_c55 → SS (fun q => q = ρ a0 0) H H_c55 lc_c55 → lv_has ls 7 [(0, .ref a0), (1, .int 1), (2, .int x1), (3, .int y55_3)] → -1000 ≤ x1.toInt → x1.toInt ≤ 602 → 0 ≤ y55_3.toInt → y55_3.toInt ≤ 2 → ai H_c55 (ρ a0 3) 6 = g55_0 → IM D ρ N H_c55 a0 → (ai H (ρ a0 0) 976).toInt ≤ (ai H_c55 (ρ a0 0) 976).toInt → ai H_c55 (ρ a0 0) 288 = ai H (ρ a0 0) 288 → ai H_c55 (ρ a0 0) 290 = ai H (ρ a0 0) 290 → (g55_0.toInt - y55_3.toInt).toNat < n → W p l e (rmO 2 46) s m args below meth c H_c55 lc_c55 0 0 (MQ below (va_Qv (fun (u : Heap) => (IM D ρ N u a0) ∧ ((ai H (ρ a0 0) 976).toInt ≤ (ai u (ρ a0 0) 976).toInt) ∧ (ai u (ρ a0 0) 288 = ai H (ρ a0 0) 288) ∧ (ai u (ρ a0 0) 290 = ai H (ρ a0 0) 290)) (Bt D cI cS τ ρ H) (fun q => q = ρ a0 0)) args s 0 0 (fun q => q = ρ a0 0)) (F0 m 55 ls []) := by
    intro n
    induction n with
    | zero => intro H_c55 lc_c55 ls y55_3 g55_0 hT_c55 hS_c55 hl ly55_2 uy55_2 ly55_3 uy55_3 hg55_0 hI_c55 hmn_c55 hk55_288 hk55_290 hm; exact absurd hm (Nat.not_lt_zero _)
    | succ n ih_55 =>
      intro H_c55 lc_c55 ls y55_3 g55_0 hT_c55 hS_c55 hl ly55_2 uy55_2 ly55_3 uy55_3 hg55_0 hI_c55 hmn_c55 hk55_288 hk55_290 hm_55
      have bb_g55_0 : 0 ≤ g55_0.toInt ∧ g55_0.toInt ≤ 2 := by rw [← hg55_0]; exact hI_c55.2.2.2.2.1 6 (by decide)
      have cg_g55_0 := congrArg Int32.toInt hg55_0
      have L_129 : ∀ (n : Nat) (H_c129 : Heap) (lc_c129 : List Loc) (ls : Array Slot) (y129_4 : Int32) (y129_5 : Int32) (y129_6 : Int32), TH D cI cS τ ρ H_c129 → SS (fun q => q = ρ a0 0) H H_c129 lc_c129 → lv_has ls 7 [(0, .ref a0), (1, .int 1), (2, .int x1), (3, .int y55_3), (4, .int y129_4), (5, .int y129_5), (6, .int y129_6)] → -1000 ≤ x1.toInt → x1.toInt ≤ 602 → 0 ≤ y55_3.toInt → y55_3.toInt ≤ 1 → -128 ≤ y129_4.toInt → y129_4.toInt ≤ 729 → -128 ≤ y129_5.toInt → y129_5.toInt ≤ 729 → 0 ≤ y129_6.toInt → y129_6.toInt ≤ 729 → 1 ≤ g55_0.toInt → g55_0.toInt ≤ 2 → ai H_c129 (ρ a0 3) 6 = g55_0 → IM D ρ N H_c129 a0 → (ai H (ρ a0 0) 976).toInt ≤ (ai H_c129 (ρ a0 0) 976).toInt → y55_3.toInt < g55_0.toInt → ai H_c129 (ρ a0 0) 288 = ai H (ρ a0 0) 288 → ai H_c129 (ρ a0 0) 290 = ai H (ρ a0 0) 290 → (y129_5.toInt - y129_6.toInt).toNat < n → W p l e (rmO 2 46) s m args below meth c H_c129 lc_c129 0 0 (MQ below (va_Qv (fun (u : Heap) => (IM D ρ N u a0) ∧ ((ai H (ρ a0 0) 976).toInt ≤ (ai u (ρ a0 0) 976).toInt) ∧ (ai u (ρ a0 0) 288 = ai H (ρ a0 0) 288) ∧ (ai u (ρ a0 0) 290 = ai H (ρ a0 0) 290)) (Bt D cI cS τ ρ H) (fun q => q = ρ a0 0)) args s 0 0 (fun q => q = ρ a0 0)) (F0 m 129 ls []) := by
        intro n
        induction n with
        | zero => intro H_c129 lc_c129 ls y129_4 y129_5 y129_6 hT_c129 hS_c129 hl ly129_2 uy129_2 ly129_3 uy129_3 ly129_4 uy129_4 ly129_5 uy129_5 ly129_6 uy129_6 lg129_0 ug129_0 hg129_0 hI_c129 hmn_c129 hx129_0 hk129_288 hk129_290 hm; exact absurd hm (Nat.not_lt_zero _)
        | succ n ih_129 =>
          intro H_c129 lc_c129 ls y129_4 y129_5 y129_6 hT_c129 hS_c129 hl ly129_2 uy129_2 ly129_3 uy129_3 ly129_4 uy129_4 ly129_5 uy129_5 ly129_6 uy129_6 lg129_0 ug129_0 hg129_0 hI_c129 hmn_c129 hx129_0 hk129_288 hk129_290 hm_129
          have bb_g129_0 : 0 ≤ g55_0.toInt ∧ g55_0.toInt ≤ 2 := by rw [← hg129_0]; exact hI_c129.2.2.2.2.1 6 (by decide)
          have cg_g129_0 := congrArg Int32.toInt hg129_0
          refine lv_iload hx hb dX12_hears_129 (lv_at hl 6 rfl) ?_
          refine lv_iload hx hb dX12_hears_131 (lv_at hl 5 rfl) ?_
          refine lv_aload_n hx hb dX12_hears_133 rfl (lv_at hl 0 rfl) ?_
          refine lv_iload_n hx hb dX12_hears_134 rfl (lv_at hl 1 rfl) ?_
          refine lv_iconst (v := 2) hx hb dX12_hears_135 (by decide) ?_
          refine th_Vi (As := [.int 1, .int 2]) (rest := [.int y129_5, .int y129_6]) E hml hl.1 (y_get_v32 l D cI cS τ ρ hW H_c129 hT_c129 a0 ha0) lk_X12_99 yd_X12_get hT_c129 ha0 rfl (by decide) hS_c129 (fun _ h => h.elim) ⟨by decide, by decide⟩ (Nat.le_of_ble_eq_true rfl) ⟨by decide, by decide⟩ rfl dX12_hears_136 (fun r_1 H_1 locs_1 p_1 hT_1 hk_1 hS_1 => ?_)
          have p_1 : H_c129 = H_1 ∧ (ai H_c129 (ρ a0 0) 290 = r_1) := p_1
          obtain ⟨rfl, p_1_0⟩ := p_1
          have t_1 : ai H (ρ a0 0) 290 = r_1 := hk129_290.symm.trans p_1_0
          have b_r_1 : 0 ≤ r_1.toInt ∧ r_1.toInt ≤ N + 2 := by rw [← t_1]; exact hI.1 290 (by decide)
          have c_r_1 := congrArg Int32.toInt t_1
          refine th_Si (As := [.int y129_5, .int r_1]) (rest := [.int y129_6]) E hml hl.1 (y_lesser_v2 l D cI cS τ ρ hW H_c129 hT_1 y129_5 r_1) lk_X12_146 yd_X12_lesser hS_1 (fun _ h => h.elim) ⟨by decide, by decide⟩ (Nat.le_of_ble_eq_true rfl) ⟨by decide, by decide⟩ rfl dX12_hears_139 (fun r_2 H_2 locs_2 p_2 hT_2 hk_2 hS_2 => ?_)
          have p_2 : H_c129 = H_2 ∧ (r_2.toInt ≤ y129_5.toInt ∧ r_2.toInt ≤ r_1.toInt ∧ (r_2.toInt = y129_5.toInt ∨ r_2.toInt = r_1.toInt)) := p_2
          obtain ⟨rfl, p_2_0⟩ := p_2
          refine lv_icmp_ge (tgt := 168) hx hb dX12_hears_142 (by decide) (fun c_3 => ?_) (fun c_3 => ?_)
          · have f_3 : r_2.toInt ≤ y129_6.toInt := r_le rfl rfl c_3
            obtain ⟨x_4, ex_4⟩ : ∃ y : Int32, y55_3 + 1 = y := ⟨_, rfl⟩
            have q_x_4 : x_4.toInt = y55_3.toInt + 1 := i_add (k := 1) (by decide) ex_4 (by have := i_min y55_3; omega) (by have := i_max y55_3; omega)
            refine lv_iinc (v := x_4) (lv' := [(3, .int x_4), (0, .ref a0), (1, .int 1), (2, .int x1), (4, .int y129_4), (5, .int y129_5), (6, .int y129_6)]) hx hb dX12_hears_168 hl (k := 3) rfl (by rw [← ex_4]; rfl) (by decide) rfl (fun ls hl => ?_)
            refine lv_goto (tgt := 55) hx hb dX12_hears_171 (by decide) ?_
            exact ih_55 H_c129 locs_2 _ x_4 g55_0 hT_2 hS_2 (lv_sub hl [1, 2, 3, 0] rfl) (by omega) (by omega) (by omega) (by omega) hg129_0 ⟨hI_c129.1, hI_c129.2.1, hI_c129.2.2.1, hI_c129.2.2.2.1, hI_c129.2.2.2.2.1, hI_c129.2.2.2.2.2⟩ (by omega) hk129_288 ((hk129_290.trans t_1).trans t_1.symm) (by omega)
          · have f_3 : y129_6.toInt < r_2.toInt := r_nle rfl rfl c_3
            refine lv_aload_n hx hb dX12_hears_145 rfl (lv_at hl 0 rfl) ?_
            refine lv_iload_n hx hb dX12_hears_146 rfl (lv_at hl 1 rfl) ?_
            refine lv_bipush (v := 96) hx hb dX12_hears_147 (by decide) ?_
            refine lv_iload hx hb dX12_hears_149 (lv_at hl 6 rfl) ?_
            refine lv_bipush (v := 64) hx hb dX12_hears_151 (by decide) ?_
            refine lv_irem hx hb dX12_hears_153 (by decide) ?_
            refine lv_topi (fun x_5 ex_5 => ?_)
            have q_5 := i_rem (k := 64) (x := y129_6) (by decide) (by decide) ex_5
            have p_5 : 0 ≤ x_5.toInt := q_5.2.2 (by omega)
            refine lv_iadd hx hb dX12_hears_154 ?_
            refine lv_topi (fun x_6 ex_6 => ?_)
            have q_6 : x_6.toInt = 96 + x_5.toInt := i_pl (by decide) rfl ex_6 (by omega) (by omega)
            refine lv_iload hx hb dX12_hears_155 (lv_at hl 6 rfl) ?_
            refine lv_iconst (v := 1) hx hb dX12_hears_157 (by decide) ?_
            refine lv_iadd hx hb dX12_hears_158 ?_
            refine lv_topi (fun x_7 ex_7 => ?_)
            have q_7 : x_7.toInt = y129_6.toInt + 1 := i_pl rfl (by decide) ex_7 (by omega) (by omega)
            refine th_Vv (As := [.int 1, .int x_6, .int x_7]) (rest := []) E hml hl.1 (y_set_v6 l D cI cS τ ρ hW H_c129 hT_2 a0 x_6 x_7 ha0 (by omega)) lk_X12_95 yd_X12_set hT_2 ha0 rfl (by decide) hS_2 (fun q h => h) ⟨by decide, by decide⟩ (Nat.le_of_ble_eq_true rfl) ⟨by decide, by decide⟩ rfl dX12_hears_159 (fun H_8 locs_8 p_8 hT_8 hk_8 hS_8 => ?_)
            have p_8 : (AU 985 H_c129 H_8 (ρ a0 0) (288 + x_6.toInt).toNat x_7) := p_8
            have hW_8 : PW N H_8 (ρ a0 0) := PW.free hI_c129.1 p_8 (by omega)
            obtain ⟨x_9, ex_9⟩ : ∃ y : Int32, y129_6 + 1 = y := ⟨_, rfl⟩
            have q_x_9 : x_9.toInt = y129_6.toInt + 1 := i_add (k := 1) (by decide) ex_9 (by have := i_min y129_6; omega) (by have := i_max y129_6; omega)
            refine lv_iinc (v := x_9) (lv' := [(6, .int x_9), (0, .ref a0), (1, .int 1), (2, .int x1), (3, .int y55_3), (4, .int y129_4), (5, .int y129_5)]) hx hb dX12_hears_162 hl (k := 6) rfl (by rw [← ex_9]; rfl) (by decide) rfl (fun ls hl => ?_)
            refine lv_goto (tgt := 129) hx hb dX12_hears_165 (by decide) ?_
            exact ih_129 H_8 locs_8 _ y129_4 y129_5 x_9 hT_8 hS_8 (lv_sub hl [1, 2, 3, 4, 5, 6, 0] rfl) (by omega) (by omega) (by omega) (by omega) (by omega) (by omega) (by omega) (by omega) (by omega) (by omega) (by have b9 : 0 ≤ (g55_0 : Int32).toInt ∧ (g55_0 : Int32).toInt ≤ 2 := (by rw [← (Eq.trans (ai_q (p_8.2 _ (th_ne (hW _ 12 3 ha0 (by decide) (by decide) (by decide)) (hW _ 12 0 ha0 (by decide) (by decide) (by decide)) (by decide)))) hg129_0)]; exact (PL.q (p_8.2 _ (th_ne (hW _ 12 3 ha0 (by decide) (by decide) (by decide)) (hW _ 12 0 ha0 (by decide) (by decide) (by decide)) (by decide))) hI_c129.2.2.2.2.1) 6 (by decide)); omega) (by have b9 : 0 ≤ (g55_0 : Int32).toInt ∧ (g55_0 : Int32).toInt ≤ 2 := (by rw [← (Eq.trans (ai_q (p_8.2 _ (th_ne (hW _ 12 3 ha0 (by decide) (by decide) (by decide)) (hW _ 12 0 ha0 (by decide) (by decide) (by decide)) (by decide)))) hg129_0)]; exact (PL.q (p_8.2 _ (th_ne (hW _ 12 3 ha0 (by decide) (by decide) (by decide)) (hW _ 12 0 ha0 (by decide) (by decide) (by decide)) (by decide))) hI_c129.2.2.2.2.1) 6 (by decide)); omega) (Eq.trans (ai_q (p_8.2 _ (th_ne (hW _ 12 3 ha0 (by decide) (by decide) (by decide)) (hW _ 12 0 ha0 (by decide) (by decide) (by decide)) (by decide)))) hg129_0) ⟨hW_8, (QS.same (AU.o p_8 (by decide) (by omega)) (AU.o p_8 (by decide) (by omega)) hI_c129.2.1), (QS.same ((Eq.trans (AU.o p_8 (by decide) (by omega)) hk129_288).trans hk129_288.symm) ((Eq.trans (AU.o p_8 (by decide) (by omega)) (hk129_290.trans t_1)).trans (hk129_290.trans t_1).symm) hI_c129.2.2.1), (PL.q (p_8.2 _ (th_ne (hW _ 12 2 ha0 (by decide) (by decide) (by decide)) (hW _ 12 0 ha0 (by decide) (by decide) (by decide)) (by decide))) hI_c129.2.2.2.1), (PL.q (p_8.2 _ (th_ne (hW _ 12 3 ha0 (by decide) (by decide) (by decide)) (hW _ 12 0 ha0 (by decide) (by decide) (by decide)) (by decide))) hI_c129.2.2.2.2.1), (IF.q (p_8.2 _ (th_ne ha0 (hW _ 12 0 ha0 (by decide) (by decide) (by decide)) (by decide))) hI_c129.2.2.2.2.2)⟩ (by rw [(AU.o p_8 (by decide) (by omega))]; omega) (by omega) (Eq.trans (AU.o p_8 (by decide) (by omega)) hk129_288) ((Eq.trans (AU.o p_8 (by decide) (by omega)) (hk129_290.trans t_1)).trans t_1.symm) (by omega)
      refine lv_iload_n hx hb dX12_hears_55 rfl (lv_at hl 3 rfl) ?_
      refine lv_aload_n hx hb dX12_hears_56 rfl (lv_at hl 0 rfl) ?_
      refine gf_X12_19 E hT_c55 hW ha0 dX12_hears_57 (fun h_10 => ?_)
      refine lv_bipush (v := 6) hx hb dX12_hears_60 (by decide) ?_
      refine th_iald E hT_c55 h_10 (by decide) (vp_in_iff.mpr ⟨by decide, by decide⟩) dX12_hears_62 ?_
      refine th_topi (y := ai H_c55 (ρ a0 3) 6) rfl ?_
      refine th_topi (y := g55_0) hg55_0 ?_
      refine lv_icmp_ge (tgt := 174) hx hb dX12_hears_63 (by decide) (fun c_12 => ?_) (fun c_12 => ?_)
      · have f_12 : g55_0.toInt ≤ y55_3.toInt := r_le rfl rfl c_12
        refine lv_aload_n hx hb dX12_hears_174 rfl (lv_at hl 0 rfl) ?_
        refine lv_iload_n hx hb dX12_hears_175 rfl (lv_at hl 1 rfl) ?_
        refine lv_iconst (v := 3) hx hb dX12_hears_176 (by decide) ?_
        refine lv_aload_n hx hb dX12_hears_177 rfl (lv_at hl 0 rfl) ?_
        refine lv_iload_n hx hb dX12_hears_178 rfl (lv_at hl 1 rfl) ?_
        refine lv_iconst (v := 3) hx hb dX12_hears_179 (by decide) ?_
        refine th_Vi (As := [.int 1, .int 3]) (rest := [.int 3, .int 1, .ref a0]) E hml hl.1 (y_get_v31 l D cI cS τ ρ hW H_c55 hT_c55 a0 ha0) lk_X12_99 yd_X12_get hT_c55 ha0 rfl (by decide) hS_c55 (fun _ h => h.elim) ⟨by decide, by decide⟩ (Nat.le_of_ble_eq_true rfl) ⟨by decide, by decide⟩ rfl dX12_hears_180 (fun r_13 H_13 locs_13 p_13 hT_13 hk_13 hS_13 => ?_)
        have p_13 : H_c55 = H_13 ∧ (ai H_c55 (ρ a0 0) 291 = r_13) := p_13
        obtain ⟨rfl, p_13_0⟩ := p_13
        have b_r_13 : 0 ≤ r_13.toInt ∧ r_13.toInt ≤ (2147483647 : Int) := by rw [← p_13_0]; exact hI_c55.1 291 (by decide)
        have c_r_13 := congrArg Int32.toInt p_13_0
        refine lv_iload_n hx hb dX12_hears_183 rfl (lv_at hl 2 rfl) ?_
        refine lv_aload_n hx hb dX12_hears_184 rfl (lv_at hl 0 rfl) ?_
        refine gf_X12_19 E hT_13 hW ha0 dX12_hears_185 (fun h_14 => ?_)
        refine lv_iconst (v := 4) hx hb dX12_hears_188 (by decide) ?_
        refine th_iald E hT_13 h_14 (by decide) (vp_in_iff.mpr ⟨by decide, by decide⟩) dX12_hears_189 ?_
        refine th_topi (y := ai H_c55 (ρ a0 3) 4) rfl ?_
        refine lv_topi (fun x_15 ex_15 => ?_)
        have c_x_15 := congrArg Int32.toInt ex_15.symm
        refine lv_iadd hx hb dX12_hears_190 ?_
        refine lv_topi (fun x_16 ex_16 => ?_)
        refine th_Si (As := [.int r_13, .int x_16]) (rest := [.int 3, .int 1, .ref a0]) E hml hl.1 (y_greater_v3 l D cI cS τ ρ hW H_c55 hT_13 r_13 x_16) lk_X12_103 yd_X12_greater hS_13 (fun _ h => h.elim) ⟨by decide, by decide⟩ (Nat.le_of_ble_eq_true rfl) ⟨by decide, by decide⟩ rfl dX12_hears_191 (fun r_17 H_17 locs_17 p_17 hT_17 hk_17 hS_17 => ?_)
        have p_17 : H_c55 = H_17 ∧ (r_13.toInt ≤ r_17.toInt ∧ x_16.toInt ≤ r_17.toInt ∧ (r_17.toInt = r_13.toInt ∨ r_17.toInt = x_16.toInt)) := p_17
        obtain ⟨rfl, p_17_0⟩ := p_17
        refine th_Vv (As := [.int 1, .int 3, .int r_17]) (rest := []) E hml hl.1 (y_set_v46 l D cI cS τ ρ hW H_c55 hT_17 a0 r_17 ha0) lk_X12_95 yd_X12_set hT_17 ha0 rfl (by decide) hS_17 (fun q h => h) ⟨by decide, by decide⟩ (Nat.le_of_ble_eq_true rfl) ⟨by decide, by decide⟩ rfl dX12_hears_194 (fun H_18 locs_18 p_18 hT_18 hk_18 hS_18 => ?_)
        have p_18 : (AU 985 H_c55 H_18 (ρ a0 0) 291 r_17) := p_18
        have hW_18 : PW N H_18 (ρ a0 0) := PW.put hI_c55.1 p_18 (by show (0 : Int) ≤ r_17.toInt; omega) (by show _ ≤ (2147483647 : Int); exact i_max _)
        exact th_vret E hr hlk hs hT_18 hS_18 ⟨⟨hW_18, (QS.same (AU.o p_18 (by decide) (by decide)) (AU.o p_18 (by decide) (by decide)) hI_c55.2.1), (QS.same ((Eq.trans (AU.o p_18 (by decide) (by decide)) hk55_288).trans hk55_288.symm) ((Eq.trans (AU.o p_18 (by decide) (by decide)) hk55_290).trans hk55_290.symm) hI_c55.2.2.1), (PL.q (p_18.2 _ (th_ne (hW _ 12 2 ha0 (by decide) (by decide) (by decide)) (hW _ 12 0 ha0 (by decide) (by decide) (by decide)) (by decide))) hI_c55.2.2.2.1), (PL.q (p_18.2 _ (th_ne (hW _ 12 3 ha0 (by decide) (by decide) (by decide)) (hW _ 12 0 ha0 (by decide) (by decide) (by decide)) (by decide))) hI_c55.2.2.2.2.1), (IF.q (p_18.2 _ (th_ne ha0 (hW _ 12 0 ha0 (by decide) (by decide) (by decide)) (by decide))) hI_c55.2.2.2.2.2)⟩, (by rw [(AU.o p_18 (by decide) (by decide))]; omega), (Eq.trans (AU.o p_18 (by decide) (by decide)) hk55_288), (Eq.trans (AU.o p_18 (by decide) (by decide)) hk55_290)⟩ dX12_hears_197
      · have f_12 : y55_3.toInt < g55_0.toInt := r_nle rfl rfl c_12
        refine lv_aload_n hx hb dX12_hears_66 rfl (lv_at hl 0 rfl) ?_
        refine lv_iload_n hx hb dX12_hears_67 rfl (lv_at hl 1 rfl) ?_
        refine lv_aload_n hx hb dX12_hears_68 rfl (lv_at hl 0 rfl) ?_
        refine gf_X12_19 E hT_c55 hW ha0 dX12_hears_69 (fun h_19 => ?_)
        refine lv_bipush (v := 8) hx hb dX12_hears_72 (by decide) ?_
        refine lv_iconst (v := 2) hx hb dX12_hears_74 (by decide) ?_
        refine lv_iload_n hx hb dX12_hears_75 rfl (lv_at hl 3 rfl) ?_
        refine lv_imul hx hb dX12_hears_76 ?_
        refine lv_topi (fun x_20 ex_20 => ?_)
        have q_20 : x_20.toInt = 2 * y55_3.toInt := i_ml (by decide) rfl ex_20 (by omega) (by omega)
        refine lv_iadd hx hb dX12_hears_77 ?_
        refine lv_topi (fun x_21 ex_21 => ?_)
        have q_21 : x_21.toInt = 8 + x_20.toInt := i_pl (by decide) rfl ex_21 (by omega) (by omega)
        refine th_iald E hT_c55 h_19 (by decide) (vp_in_iff.mpr ⟨by omega, by omega⟩) dX12_hears_78 ?_
        refine th_topi (y := ai H_c55 (ρ a0 3) x_21.toInt.toNat) rfl ?_
        refine lv_topi (fun x_22 ex_22 => ?_)
        have cl_22 : bL (x_21.toInt.toNat) ≤ x_22.toInt ∧ x_22.toInt ≤ uL (x_21.toInt.toNat) := by rw [ex_22]; exact hI_c55.2.2.2.2.1 _ (by omega)
        refine lv_aload_n hx hb dX12_hears_79 rfl (lv_at hl 0 rfl) ?_
        refine lv_iload_n hx hb dX12_hears_80 rfl (lv_at hl 1 rfl) ?_
        refine lv_iconst (v := 1) hx hb dX12_hears_81 (by decide) ?_
        refine th_Vi (As := [.int 1, .int 1]) (rest := [.int x_22, .int 1, .ref a0]) E hml hl.1 (y_get_v29 l D cI cS τ ρ hW H_c55 hT_c55 a0 ha0) lk_X12_99 yd_X12_get hT_c55 ha0 rfl (by decide) hS_c55 (fun _ h => h.elim) ⟨by decide, by decide⟩ (Nat.le_of_ble_eq_true rfl) ⟨by decide, by decide⟩ rfl dX12_hears_82 (fun r_23 H_23 locs_23 p_23 hT_23 hk_23 hS_23 => ?_)
        have p_23 : H_c55 = H_23 ∧ (ai H_c55 (ρ a0 0) 289 = r_23) := p_23
        obtain ⟨rfl, p_23_0⟩ := p_23
        have b_r_23 : 0 ≤ r_23.toInt ∧ r_23.toInt ≤ N + 2 := by rw [← p_23_0]; exact hI_c55.1 289 (by decide)
        have c_r_23 := congrArg Int32.toInt p_23_0
        refine th_Vi (As := [.int 1, .int x_22, .int r_23]) (rest := []) E hml hl.1 (y_means_v2 l D cI cS τ ρ hW H_c55 hT_23 a0 x_22 r_23 ha0 (by omega)) lk_X12_208 yd_X12_means hT_23 ha0 rfl (by decide) hS_23 (fun _ h => h.elim) ⟨by decide, by decide⟩ (Nat.le_of_ble_eq_true rfl) ⟨by decide, by decide⟩ rfl dX12_hears_85 (fun r_24 H_24 locs_24 p_24 hT_24 hk_24 hS_24 => ?_)
        have p_24 : H_c55 = H_24 ∧ (r_23.toInt - 128 ≤ r_24.toInt ∧ r_24.toInt ≤ r_23.toInt + 127) := p_24
        obtain ⟨rfl, p_24_0⟩ := p_24
        refine lv_istore (lv' := [(4, .int r_24), (0, .ref a0), (1, .int 1), (2, .int x1), (3, .int y55_3)]) hx hb dX12_hears_88 hl (by decide) rfl (fun ls hl => ?_)
        refine lv_aload_n hx hb dX12_hears_90 rfl (lv_at hl 1 rfl) ?_
        refine lv_iload_n hx hb dX12_hears_91 rfl (lv_at hl 2 rfl) ?_
        refine lv_aload_n hx hb dX12_hears_92 rfl (lv_at hl 1 rfl) ?_
        refine gf_X12_19 E hT_24 hW ha0 dX12_hears_93 (fun h_25 => ?_)
        refine lv_bipush (v := 8) hx hb dX12_hears_96 (by decide) ?_
        refine lv_iconst (v := 2) hx hb dX12_hears_98 (by decide) ?_
        refine lv_iload_n hx hb dX12_hears_99 rfl (lv_at hl 4 rfl) ?_
        refine lv_imul hx hb dX12_hears_100 ?_
        refine lv_topi (fun x_26 ex_26 => ?_)
        have q_26 : x_26.toInt = 2 * y55_3.toInt := i_ml (by decide) rfl ex_26 (by omega) (by omega)
        refine lv_iadd hx hb dX12_hears_101 ?_
        refine lv_topi (fun x_27 ex_27 => ?_)
        have q_27 : x_27.toInt = 8 + x_26.toInt := i_pl (by decide) rfl ex_27 (by omega) (by omega)
        refine lv_iconst (v := 1) hx hb dX12_hears_102 (by decide) ?_
        refine lv_iadd hx hb dX12_hears_103 ?_
        refine lv_topi (fun x_28 ex_28 => ?_)
        have q_28 : x_28.toInt = x_27.toInt + 1 := i_pl rfl (by decide) ex_28 (by omega) (by omega)
        refine th_iald E hT_24 h_25 (by decide) (vp_in_iff.mpr ⟨by omega, by omega⟩) dX12_hears_104 ?_
        refine th_topi (y := ai H_c55 (ρ a0 3) x_28.toInt.toNat) rfl ?_
        refine lv_topi (fun x_29 ex_29 => ?_)
        have cl_29 : bL (x_28.toInt.toNat) ≤ x_29.toInt ∧ x_29.toInt ≤ uL (x_28.toInt.toNat) := by rw [ex_29]; exact hI_c55.2.2.2.2.1 _ (by omega)
        refine lv_aload_n hx hb dX12_hears_105 rfl (lv_at hl 1 rfl) ?_
        refine lv_iload_n hx hb dX12_hears_106 rfl (lv_at hl 2 rfl) ?_
        refine lv_iconst (v := 1) hx hb dX12_hears_107 (by decide) ?_
        refine th_Vi (As := [.int 1, .int 1]) (rest := [.int x_29, .int 1, .ref a0]) E hml hl.1 (y_get_v29 l D cI cS τ ρ hW H_c55 hT_24 a0 ha0) lk_X12_99 yd_X12_get hT_24 ha0 rfl (by decide) hS_24 (fun _ h => h.elim) ⟨by decide, by decide⟩ (Nat.le_of_ble_eq_true rfl) ⟨by decide, by decide⟩ rfl dX12_hears_108 (fun r_30 H_30 locs_30 p_30 hT_30 hk_30 hS_30 => ?_)
        have p_30 : H_c55 = H_30 ∧ (ai H_c55 (ρ a0 0) 289 = r_30) := p_30
        obtain ⟨rfl, p_30_0⟩ := p_30
        have s_30 : r_30 = r_23 := p_30_0.symm.trans p_23_0
        refine th_topi s_30 ?_
        refine th_Vi (As := [.int 1, .int x_29, .int r_23]) (rest := []) E hml hl.1 (y_means_v2 l D cI cS τ ρ hW H_c55 hT_30 a0 x_29 r_23 ha0 (by omega)) lk_X12_208 yd_X12_means hT_30 ha0 rfl (by decide) hS_30 (fun _ h => h.elim) ⟨by decide, by decide⟩ (Nat.le_of_ble_eq_true rfl) ⟨by decide, by decide⟩ rfl dX12_hears_111 (fun r_31 H_31 locs_31 p_31 hT_31 hk_31 hS_31 => ?_)
        have p_31 : H_c55 = H_31 ∧ (r_23.toInt - 128 ≤ r_31.toInt ∧ r_31.toInt ≤ r_23.toInt + 127) := p_31
        obtain ⟨rfl, p_31_0⟩ := p_31
        refine lv_istore (lv' := [(5, .int r_31), (4, .int r_24), (0, .ref a0), (1, .int 1), (2, .int x1), (3, .int y55_3)]) hx hb dX12_hears_114 hl (by decide) rfl (fun ls hl => ?_)
        refine lv_iload hx hb dX12_hears_116 (lv_at hl 1 rfl) ?_
        refine lv_aload_n hx hb dX12_hears_118 rfl (lv_at hl 2 rfl) ?_
        refine lv_iload_n hx hb dX12_hears_119 rfl (lv_at hl 3 rfl) ?_
        refine lv_iconst (v := 1) hx hb dX12_hears_120 (by decide) ?_
        refine th_Vi (As := [.int 1, .int 1]) (rest := [.int r_24]) E hml hl.1 (y_get_v29 l D cI cS τ ρ hW H_c55 hT_31 a0 ha0) lk_X12_99 yd_X12_get hT_31 ha0 rfl (by decide) hS_31 (fun _ h => h.elim) ⟨by decide, by decide⟩ (Nat.le_of_ble_eq_true rfl) ⟨by decide, by decide⟩ rfl dX12_hears_121 (fun r_32 H_32 locs_32 p_32 hT_32 hk_32 hS_32 => ?_)
        have p_32 : H_c55 = H_32 ∧ (ai H_c55 (ρ a0 0) 289 = r_32) := p_32
        obtain ⟨rfl, p_32_0⟩ := p_32
        have s_32 : r_32 = r_23 := p_32_0.symm.trans p_23_0
        refine th_topi s_32 ?_
        refine th_Si (As := [.int r_24, .int r_23]) (rest := []) E hml hl.1 (y_greater_v3 l D cI cS τ ρ hW H_c55 hT_32 r_24 r_23) lk_X12_103 yd_X12_greater hS_32 (fun _ h => h.elim) ⟨by decide, by decide⟩ (Nat.le_of_ble_eq_true rfl) ⟨by decide, by decide⟩ rfl dX12_hears_124 (fun r_33 H_33 locs_33 p_33 hT_33 hk_33 hS_33 => ?_)
        have p_33 : H_c55 = H_33 ∧ (r_24.toInt ≤ r_33.toInt ∧ r_23.toInt ≤ r_33.toInt ∧ (r_33.toInt = r_24.toInt ∨ r_33.toInt = r_23.toInt)) := p_33
        obtain ⟨rfl, p_33_0⟩ := p_33
        refine lv_istore (lv' := [(6, .int r_33), (5, .int r_31), (4, .int r_24), (0, .ref a0), (1, .int 1), (2, .int x1), (3, .int y55_3)]) hx hb dX12_hears_127 hl (by decide) rfl (fun ls hl => ?_)
        exact L_129 _ H_c55 locs_33 _ r_24 r_31 r_33 hT_33 hS_33 (lv_sub hl [3, 4, 5, 6, 2, 1, 0] rfl) (by omega) (by omega) (by omega) (by omega) (by omega) (by omega) (by omega) (by omega) (by omega) (by omega) (by have b9 : 0 ≤ (g55_0 : Int32).toInt ∧ (g55_0 : Int32).toInt ≤ 2 := (by rw [← hg55_0]; exact hI_c55.2.2.2.2.1 6 (by decide)); omega) (by have b9 : 0 ≤ (g55_0 : Int32).toInt ∧ (g55_0 : Int32).toInt ≤ 2 := (by rw [← hg55_0]; exact hI_c55.2.2.2.2.1 6 (by decide)); omega) hg55_0 ⟨hI_c55.1, hI_c55.2.1, hI_c55.2.2.1, hI_c55.2.2.2.1, hI_c55.2.2.2.2.1, hI_c55.2.2.2.2.2⟩ (by omega) (by omega) hk55_288 hk55_290 (Nat.lt_succ_self _)
  have J_53 : ∀ (H_c53 : Heap) (lc_c53 : List Loc) (ls : Array Slot), TH D cI cS τ ρ H_c53 → SS (fun q => q = ρ a0 0) H H_c53 lc_c53 → lv_has ls 7 [(0, .ref a0), (1, .int 1), (2, .int x1)] → -1000 ≤ x1.toInt → x1.toInt ≤ 602 → IM D ρ N H_c53 a0 → (ai H (ρ a0 0) 976).toInt ≤ (ai H_c53 (ρ a0 0) 976).toInt → ai H_c53 (ρ a0 0) 288 = ai H (ρ a0 0) 288 → ai H_c53 (ρ a0 0) 290 = ai H (ρ a0 0) 290 → W p l e (rmO 2 46) s m args below meth c H_c53 lc_c53 0 0 (MQ below (va_Qv (fun (u : Heap) => (IM D ρ N u a0) ∧ ((ai H (ρ a0 0) 976).toInt ≤ (ai u (ρ a0 0) 976).toInt) ∧ (ai u (ρ a0 0) 288 = ai H (ρ a0 0) 288) ∧ (ai u (ρ a0 0) 290 = ai H (ρ a0 0) 290)) (Bt D cI cS τ ρ H) (fun q => q = ρ a0 0)) args s 0 0 (fun q => q = ρ a0 0)) (F0 m 53 ls []) := by
    intro H_c53 lc_c53 ls hT_c53 hS_c53 hl ly53_2 uy53_2 hI_c53 hmn_c53 hk53_288 hk53_290
    refine lv_iconst (v := 0) hx hb dX12_hears_53 (by decide) ?_
    refine lv_istore_n (lv' := [(3, .int 0), (0, .ref a0), (1, .int 1), (2, .int x1)]) hx hb dX12_hears_54 rfl hl (by decide) rfl (fun ls hl => ?_)
    exact L_55 _ H_c53 lc_c53 _ 0 (ai H_c53 (ρ a0 3) 6) hT_c53 hS_c53 (lv_sub hl [1, 2, 3, 0] rfl) (by omega) (by omega) (by decide) (by decide) rfl ⟨hI_c53.1, hI_c53.2.1, hI_c53.2.2.1, hI_c53.2.2.2.1, hI_c53.2.2.2.2.1, hI_c53.2.2.2.2.2⟩ (by omega) hk53_288 hk53_290 (Nat.lt_succ_self _)
  refine lv_iload_n hx hb dX12_hears_0 rfl (lv_at hl 2 rfl) ?_
  refine lv_aload_n hx hb dX12_hears_1 rfl (lv_at hl 0 rfl) ?_
  refine lv_iload_n hx hb dX12_hears_2 rfl (lv_at hl 1 rfl) ?_
  refine lv_iconst (v := 1) hx hb dX12_hears_3 (by decide) ?_
  refine th_Vi (As := [.int 1, .int 1]) (rest := [.int x1]) E hml hl.1 (y_get_v29 l D cI cS τ ρ hW H hT a0 ha0) lk_X12_99 yd_X12_get hT ha0 rfl (by decide) hS (fun _ h => h.elim) ⟨by decide, by decide⟩ (Nat.le_of_ble_eq_true rfl) ⟨by decide, by decide⟩ rfl dX12_hears_4 (fun r_34 H_34 locs_34 p_34 hT_34 hk_34 hS_34 => ?_)
  have p_34 : H = H_34 ∧ (ai H (ρ a0 0) 289 = r_34) := p_34
  obtain ⟨rfl, p_34_0⟩ := p_34
  have b_r_34 : 0 ≤ r_34.toInt ∧ r_34.toInt ≤ N + 2 := by rw [← p_34_0]; exact hI.1 289 (by decide)
  have c_r_34 := congrArg Int32.toInt p_34_0
  refine lv_icmp_le (tgt := 53) hx hb dX12_hears_7 (by decide) (fun c_35 => ?_) (fun c_35 => ?_)
  · have f_35 : x1.toInt ≤ r_34.toInt := r_le rfl rfl c_35
    exact J_53 H locs_34 _ hT_34 hS_34 hl (by omega) (by omega) ⟨hI.1, hI.2.1, hI.2.2.1, hI.2.2.2.1, hI.2.2.2.2.1, hI.2.2.2.2.2⟩ (by omega) rfl rfl
  · have f_35 : r_34.toInt < x1.toInt := r_nle rfl rfl c_35
    refine lv_aload_n hx hb dX12_hears_10 rfl (lv_at hl 0 rfl) ?_
    refine lv_iload_n hx hb dX12_hears_11 rfl (lv_at hl 1 rfl) ?_
    refine lv_iconst (v := 1) hx hb dX12_hears_12 (by decide) ?_
    refine lv_iload_n hx hb dX12_hears_13 rfl (lv_at hl 2 rfl) ?_
    refine th_Vv (As := [.int 1, .int 1, .int x1]) (rest := []) E hml hl.1 (y_set_v44 l D cI cS τ ρ hW H hT_34 a0 x1 ha0) lk_X12_95 yd_X12_set hT_34 ha0 rfl (by decide) hS_34 (fun q h => h) ⟨by decide, by decide⟩ (Nat.le_of_ble_eq_true rfl) ⟨by decide, by decide⟩ rfl dX12_hears_14 (fun H_36 locs_36 p_36 hT_36 hk_36 hS_36 => ?_)
    have p_36 : (AU 985 H H_36 (ρ a0 0) 289 x1) := p_36
    have hW_36 : PW N H_36 (ρ a0 0) := PW.put hI.1 p_36 (by show (0 : Int) ≤ x1.toInt; omega) (by show x1.toInt ≤ (N + 2 : Int); omega)
    refine lv_aload_n hx hb dX12_hears_17 rfl (lv_at hl 0 rfl) ?_
    refine lv_iload_n hx hb dX12_hears_18 rfl (lv_at hl 1 rfl) ?_
    refine lv_bipush (v := 11) hx hb dX12_hears_19 (by decide) ?_
    refine lv_iconst (v := 0) hx hb dX12_hears_21 (by decide) ?_
    refine th_Vv (As := [.int 1, .int 11, .int 0]) (rest := []) E hml hl.1 (y_set_v45 l D cI cS τ ρ hW H_36 hT_36 a0 ha0) lk_X12_95 yd_X12_set hT_36 ha0 rfl (by decide) hS_36 (fun q h => h) ⟨by decide, by decide⟩ (Nat.le_of_ble_eq_true rfl) ⟨by decide, by decide⟩ rfl dX12_hears_22 (fun H_37 locs_37 p_37 hT_37 hk_37 hS_37 => ?_)
    have p_37 : (AU 985 H_36 H_37 (ρ a0 0) 299 (0)) := p_37
    have hW_37 : PW N H_37 (ρ a0 0) := PW.put hW_36 p_37 (by show (-2147483648 : Int) ≤ _; exact i_min _) (by show _ ≤ (2147483647 : Int); exact i_max _)
    refine lv_aload_n hx hb dX12_hears_25 rfl (lv_at hl 0 rfl) ?_
    refine lv_iload_n hx hb dX12_hears_26 rfl (lv_at hl 1 rfl) ?_
    refine lv_bipush (v := 16) hx hb dX12_hears_27 (by decide) ?_
    refine th_Vi (As := [.int 1, .int 16]) (rest := []) E hml hl.1 (y_get_v30 l D cI cS τ ρ hW H_37 hT_37 a0 ha0) lk_X12_99 yd_X12_get hT_37 ha0 rfl (by decide) hS_37 (fun _ h => h.elim) ⟨by decide, by decide⟩ (Nat.le_of_ble_eq_true rfl) ⟨by decide, by decide⟩ rfl dX12_hears_29 (fun r_38 H_38 locs_38 p_38 hT_38 hk_38 hS_38 => ?_)
    have p_38 : H_37 = H_38 ∧ (ai H_37 (ρ a0 0) 304 = r_38) := p_38
    obtain ⟨rfl, p_38_0⟩ := p_38
    have t_38 : ai H (ρ a0 0) 304 = r_38 := (Eq.trans (AU.o p_37 (by decide) (by decide)) (AU.o p_36 (by decide) (by decide))).symm.trans p_38_0
    have c_r_38 := congrArg Int32.toInt t_38
    refine lv_bipush (v := (-4)) hx hb dX12_hears_32 (by decide) ?_
    refine lv_icmp_eq (tgt := 53) hx hb dX12_hears_34 (by decide) (fun c_39 => ?_) (fun c_39 => ?_)
    · have f_39 : r_38.toInt = -4 := r_eq rfl (by decide) c_39
      exact J_53 H_37 locs_38 _ hT_38 hS_38 hl (by omega) (by omega) ⟨hW_37, (QS.same (Eq.trans (AU.o p_37 (by decide) (by decide)) (AU.o p_36 (by decide) (by decide))) (Eq.trans (AU.o p_37 (by decide) (by decide)) (AU.o p_36 (by decide) (by decide))) hI.2.1), (QS.same (Eq.trans (AU.o p_37 (by decide) (by decide)) (AU.o p_36 (by decide) (by decide))) (Eq.trans (AU.o p_37 (by decide) (by decide)) (AU.o p_36 (by decide) (by decide))) hI.2.2.1), (PL.q (p_37.2 _ (th_ne (hW _ 12 2 ha0 (by decide) (by decide) (by decide)) (hW _ 12 0 ha0 (by decide) (by decide) (by decide)) (by decide))) (PL.q (p_36.2 _ (th_ne (hW _ 12 2 ha0 (by decide) (by decide) (by decide)) (hW _ 12 0 ha0 (by decide) (by decide) (by decide)) (by decide))) hI.2.2.2.1)), (PL.q (p_37.2 _ (th_ne (hW _ 12 3 ha0 (by decide) (by decide) (by decide)) (hW _ 12 0 ha0 (by decide) (by decide) (by decide)) (by decide))) (PL.q (p_36.2 _ (th_ne (hW _ 12 3 ha0 (by decide) (by decide) (by decide)) (hW _ 12 0 ha0 (by decide) (by decide) (by decide)) (by decide))) hI.2.2.2.2.1)), (IF.q (p_37.2 _ (th_ne ha0 (hW _ 12 0 ha0 (by decide) (by decide) (by decide)) (by decide))) (IF.q (p_36.2 _ (th_ne ha0 (hW _ 12 0 ha0 (by decide) (by decide) (by decide)) (by decide))) hI.2.2.2.2.2))⟩ (by rw [(Eq.trans (AU.o p_37 (by decide) (by decide)) (AU.o p_36 (by decide) (by decide)))]; omega) (Eq.trans (AU.o p_37 (by decide) (by decide)) (AU.o p_36 (by decide) (by decide))) (Eq.trans (AU.o p_37 (by decide) (by decide)) (AU.o p_36 (by decide) (by decide)))
    · have f_39 : ¬ r_38.toInt = -4 := r_ne rfl (by decide) c_39
      refine lv_iload_n hx hb dX12_hears_37 rfl (lv_at hl 2 rfl) ?_
      refine lv_aload_n hx hb dX12_hears_38 rfl (lv_at hl 0 rfl) ?_
      refine lv_iload_n hx hb dX12_hears_39 rfl (lv_at hl 1 rfl) ?_
      refine lv_bipush (v := 16) hx hb dX12_hears_40 (by decide) ?_
      refine th_Vi (As := [.int 1, .int 16]) (rest := [.int x1]) E hml hl.1 (y_get_v30 l D cI cS τ ρ hW H_37 hT_38 a0 ha0) lk_X12_99 yd_X12_get hT_38 ha0 rfl (by decide) hS_38 (fun _ h => h.elim) ⟨by decide, by decide⟩ (Nat.le_of_ble_eq_true rfl) ⟨by decide, by decide⟩ rfl dX12_hears_42 (fun r_40 H_40 locs_40 p_40 hT_40 hk_40 hS_40 => ?_)
      have p_40 : H_37 = H_40 ∧ (ai H_37 (ρ a0 0) 304 = r_40) := p_40
      obtain ⟨rfl, p_40_0⟩ := p_40
      have s_40 : r_40 = r_38 := p_40_0.symm.trans ((Eq.trans (AU.o p_37 (by decide) (by decide)) (AU.o p_36 (by decide) (by decide))).trans t_38)
      refine th_topi s_40 ?_
      refine lv_icmp_le (tgt := 53) hx hb dX12_hears_45 (by decide) (fun c_41 => ?_) (fun c_41 => ?_)
      · have f_41 : x1.toInt ≤ r_38.toInt := r_le rfl rfl c_41
        exact J_53 H_37 locs_40 _ hT_40 hS_40 hl (by omega) (by omega) ⟨hW_37, (QS.same (Eq.trans (AU.o p_37 (by decide) (by decide)) (AU.o p_36 (by decide) (by decide))) (Eq.trans (AU.o p_37 (by decide) (by decide)) (AU.o p_36 (by decide) (by decide))) hI.2.1), (QS.same (Eq.trans (AU.o p_37 (by decide) (by decide)) (AU.o p_36 (by decide) (by decide))) (Eq.trans (AU.o p_37 (by decide) (by decide)) (AU.o p_36 (by decide) (by decide))) hI.2.2.1), (PL.q (p_37.2 _ (th_ne (hW _ 12 2 ha0 (by decide) (by decide) (by decide)) (hW _ 12 0 ha0 (by decide) (by decide) (by decide)) (by decide))) (PL.q (p_36.2 _ (th_ne (hW _ 12 2 ha0 (by decide) (by decide) (by decide)) (hW _ 12 0 ha0 (by decide) (by decide) (by decide)) (by decide))) hI.2.2.2.1)), (PL.q (p_37.2 _ (th_ne (hW _ 12 3 ha0 (by decide) (by decide) (by decide)) (hW _ 12 0 ha0 (by decide) (by decide) (by decide)) (by decide))) (PL.q (p_36.2 _ (th_ne (hW _ 12 3 ha0 (by decide) (by decide) (by decide)) (hW _ 12 0 ha0 (by decide) (by decide) (by decide)) (by decide))) hI.2.2.2.2.1)), (IF.q (p_37.2 _ (th_ne ha0 (hW _ 12 0 ha0 (by decide) (by decide) (by decide)) (by decide))) (IF.q (p_36.2 _ (th_ne ha0 (hW _ 12 0 ha0 (by decide) (by decide) (by decide)) (by decide))) hI.2.2.2.2.2))⟩ (by rw [(Eq.trans (AU.o p_37 (by decide) (by decide)) (AU.o p_36 (by decide) (by decide)))]; omega) (Eq.trans (AU.o p_37 (by decide) (by decide)) (AU.o p_36 (by decide) (by decide))) (Eq.trans (AU.o p_37 (by decide) (by decide)) (AU.o p_36 (by decide) (by decide)))
      · have f_41 : r_38.toInt < x1.toInt := r_nle rfl rfl c_41
        refine lv_aload_n hx hb dX12_hears_48 rfl (lv_at hl 0 rfl) ?_
        refine lv_iload_n hx hb dX12_hears_49 rfl (lv_at hl 1 rfl) ?_
        refine th_Vv (As := [.int 1]) (rest := []) E hml hl.1 (y_rounds l D cI cS τ ρ hW H_37 hT_40 a0 ha0 N hN0 hN1 ⟨hW_37, (QS.same (Eq.trans (AU.o p_37 (by decide) (by decide)) (AU.o p_36 (by decide) (by decide))) (Eq.trans (AU.o p_37 (by decide) (by decide)) (AU.o p_36 (by decide) (by decide))) hI.2.1), (QS.same (Eq.trans (AU.o p_37 (by decide) (by decide)) (AU.o p_36 (by decide) (by decide))) (Eq.trans (AU.o p_37 (by decide) (by decide)) (AU.o p_36 (by decide) (by decide))) hI.2.2.1), (PL.q (p_37.2 _ (th_ne (hW _ 12 2 ha0 (by decide) (by decide) (by decide)) (hW _ 12 0 ha0 (by decide) (by decide) (by decide)) (by decide))) (PL.q (p_36.2 _ (th_ne (hW _ 12 2 ha0 (by decide) (by decide) (by decide)) (hW _ 12 0 ha0 (by decide) (by decide) (by decide)) (by decide))) hI.2.2.2.1)), (PL.q (p_37.2 _ (th_ne (hW _ 12 3 ha0 (by decide) (by decide) (by decide)) (hW _ 12 0 ha0 (by decide) (by decide) (by decide)) (by decide))) (PL.q (p_36.2 _ (th_ne (hW _ 12 3 ha0 (by decide) (by decide) (by decide)) (hW _ 12 0 ha0 (by decide) (by decide) (by decide)) (by decide))) hI.2.2.2.2.1)), (IF.q (p_37.2 _ (th_ne ha0 (hW _ 12 0 ha0 (by decide) (by decide) (by decide)) (by decide))) (IF.q (p_36.2 _ (th_ne ha0 (hW _ 12 0 ha0 (by decide) (by decide) (by decide)) (by decide))) hI.2.2.2.2.2))⟩) lk_X12_215 yd_X12_rounds hT_40 ha0 rfl (by decide) hS_40 (fun q h => h) ⟨by decide, by decide⟩ (Nat.le_of_ble_eq_true rfl) ⟨by decide, by decide⟩ rfl dX12_hears_50 (fun H_42 locs_42 p_42 hT_42 hk_42 hS_42 => ?_)
        have p_42 : (IM D ρ N H_42 a0) ∧ ((ai H_37 (ρ a0 0) 976).toInt ≤ (ai H_42 (ρ a0 0) 976).toInt) ∧ (ai H_42 (ρ a0 0) 288 = ai H_37 (ρ a0 0) 288) ∧ (ai H_42 (ρ a0 0) 290 = ai H_37 (ρ a0 0) 290) := p_42
        obtain ⟨p_42_0, p_42_1, p_42_2, p_42_3⟩ := p_42
        have mn_42 : (ai H (ρ a0 0) 976).toInt ≤ (ai H_42 (ρ a0 0) 976).toInt := by have h := p_42_1; rw [(Eq.trans (AU.o p_37 (by decide) (by decide)) (AU.o p_36 (by decide) (by decide)))] at h; exact h
        exact J_53 H_42 locs_42 _ hT_42 hS_42 hl (by omega) (by omega) ⟨p_42_0.1, p_42_0.2.1, p_42_0.2.2.1, p_42_0.2.2.2.1, p_42_0.2.2.2.2.1, p_42_0.2.2.2.2.2⟩ (by omega) (Eq.trans p_42_2 (Eq.trans (AU.o p_37 (by decide) (by decide)) (AU.o p_36 (by decide) (by decide)))) (Eq.trans p_42_3 (Eq.trans (AU.o p_37 (by decide) (by decide)) (AU.o p_36 (by decide) (by decide))))
set_option maxHeartbeats 4000000 in
set_option maxRecDepth 100000 in
/-- the reference: set -/
theorem y_set_v47 (l : Launch) (D : va_G) (cI cS : ClassId) (τ : Nat → Option Nat) (ρ : Nat → Nat → Nat) (hW : WF τ ρ) (H : Heap) (hT : TH D cI cS τ ρ H) (a0 : Nat) (ha0 : τ a0 = some 12) : MV l D cI cS τ ρ yX12_set cX12_set 4 none 0 0 H [.ref a0, .int 1, .int 0, .int 4] (fun (u : Heap) => (AU 985 H u (ρ a0 0) 288 (4))) (fun q => q = ρ a0 0) := by
  refine MV.of (by decide) (Nat.le_of_ble_eq_true rfl) ?_
  intro p e s m args below meth c E hml hr hlk hs ls hl
  have hx := E.1
  have hb := E.2.1
  have hown := E.2.2.1
  have hts := E.2.2.2.1
  have hS : SS (fun q => q = ρ a0 0) H H [] := SS.rf
  have hl : lv_has ls 4 [(0, .ref a0), (1, .int 1), (2, .int 0), (3, .int 4)] := hl
  refine lv_aload_n hx hb dX12_set_0 rfl (lv_at hl 0 rfl) ?_
  refine gf_X12_7 E hT hW ha0 dX12_set_1 (fun h_1 => ?_)
  refine lv_sipush (v := 288) hx hb dX12_set_4 (by decide) ?_
  refine lv_iload_n hx hb dX12_set_7 rfl (lv_at hl 1 rfl) ?_
  refine lv_imul hx hb dX12_set_8 ?_
  refine th_topi (y := 288) (by decide) ?_
  refine lv_iload_n hx hb dX12_set_9 rfl (lv_at hl 2 rfl) ?_
  refine lv_iadd hx hb dX12_set_10 ?_
  refine th_topi (y := 288) (by decide) ?_
  refine lv_iload_n hx hb dX12_set_11 rfl (lv_at hl 3 rfl) ?_
  refine th_iast E hT hS h_1 rfl (by decide) (vp_in_iff.mpr ⟨by decide, by decide⟩) dX12_set_12 (fun H_2 locs_2 hT_2 hU_2 hS_2 => ?_)
  have hU_2 : AU 985 H H_2 (ρ a0 0) 288 (4) := hU_2
  exact th_vret E hr hlk hs hT_2 hS_2 hU_2 dX12_set_13
set_option maxHeartbeats 4000000 in
set_option maxRecDepth 100000 in
/-- the reference: makes -/
theorem y_makes_v5 (l : Launch) (D : va_G) (cI cS : ClassId) (τ : Nat → Option Nat) (ρ : Nat → Nat → Nat) (hW : WF τ ρ) (H : Heap) (hT : TH D cI cS τ ρ H) (a0 : Nat) (x2 : Int32) (ha0 : τ a0 = some 12) (N : Int) (hN0 : 0 ≤ N) (hN1 : N ≤ 600) (hI : IM D ρ N H a0) : MV l D cI cS τ ρ yX12_makes cX12_makes 5 none 4 91 H [.ref a0, .int 1, .int 4, .int x2] (fun (u : Heap) => (IM D ρ N u a0) ∧ ((ai H (ρ a0 0) 976).toInt ≤ (ai u (ρ a0 0) 976).toInt)) (fun q => q = ρ a0 2) := by
  refine MV.of (by decide) (Nat.le_of_ble_eq_true rfl) ?_
  intro p e s m args below meth c E hml hr hlk hs ls hl
  have hx := E.1
  have hb := E.2.1
  have hown := E.2.2.1
  have hts := E.2.2.2.1
  have hS : SS (fun q => q = ρ a0 2) H H [] := SS.rf
  have hl : lv_has ls 5 [(0, .ref a0), (1, .int 1), (2, .int 4), (3, .int x2)] := hl
  have n01 := hI.2.2.2.2.2.1
  have n23 := hI.2.2.2.2.2.2.1
  have L_3 : ∀ (n : Nat) (H_c3 : Heap) (lc_c3 : List Loc) (ls : Array Slot) (y3_4 : Int32), TH D cI cS τ ρ H_c3 → SS (fun q => q = ρ a0 2) H H_c3 lc_c3 → lv_has ls 5 [(0, .ref a0), (1, .int 1), (2, .int 4), (3, .int x2), (4, .int y3_4)] → 0 ≤ y3_4.toInt → IM D ρ N H_c3 a0 → (ai H (ρ a0 0) 976).toInt ≤ (ai H_c3 (ρ a0 0) 976).toInt → (20 - y3_4.toInt).toNat < n → W p l e (rmO 4 91) s m args below meth c H_c3 lc_c3 0 0 (MQ below (va_Qv (fun (u : Heap) => (IM D ρ N u a0) ∧ ((ai H (ρ a0 0) 976).toInt ≤ (ai u (ρ a0 0) 976).toInt)) (Bt D cI cS τ ρ H) (fun q => q = ρ a0 2)) args s 0 0 (fun q => q = ρ a0 2)) (F0 m 3 ls []) := by
    intro n
    induction n with
    | zero => intro H_c3 lc_c3 ls y3_4 hT_c3 hS_c3 hl ly3_4 hI_c3 hmn_c3 hm; exact absurd hm (Nat.not_lt_zero _)
    | succ n ih_3 =>
      intro H_c3 lc_c3 ls y3_4 hT_c3 hS_c3 hl ly3_4 hI_c3 hmn_c3 hm_3
      refine lv_iload hx hb dX12_makes_3 (lv_at hl 4 rfl) ?_
      refine lv_bipush (v := 20) hx hb dX12_makes_5 (by decide) ?_
      refine lv_icmp_ge (tgt := 55) hx hb dX12_makes_7 (by decide) (fun c_1 => ?_) (fun c_1 => ?_)
      · have f_1 : 20 ≤ y3_4.toInt := r_le (by decide) rfl c_1
        refine lv_aload_n hx hb dX12_makes_55 rfl (lv_at hl 0 rfl) ?_
        refine gf_X12_16 E hT_c3 hW ha0 dX12_makes_56 (fun h_2 => ?_)
        refine lv_iconst (v := 0) hx hb dX12_makes_59 (by decide) ?_
        refine lv_iload_n hx hb dX12_makes_60 rfl (lv_at hl 1 rfl) ?_
        refine th_iast E hT_c3 hS_c3 h_2 rfl (by decide) (vp_in_iff.mpr ⟨by decide, by decide⟩) dX12_makes_61 (fun H_3 locs_3 hT_3 hU_3 hS_3 => ?_)
        have hU_3 : AU 20 H_c3 H_3 (ρ a0 2) 0 (1) := hU_3
        have hL_3 : PL H_3 (ρ a0 2) := PL.put hI_c3.2.2.2.1 hU_3 (by show (0 : Int) ≤ (1 : Int32).toInt; have : (1 : Int32).toInt = 1 := (by decide); omega) (by show (1 : Int32).toInt ≤ (1 : Int); have : (1 : Int32).toInt = 1 := (by decide); omega)
        refine lv_aload_n hx hb dX12_makes_62 rfl (lv_at hl 0 rfl) ?_
        refine gf_X12_16 E hT_3 hW ha0 dX12_makes_63 (fun h_4 => ?_)
        refine lv_iconst (v := 1) hx hb dX12_makes_66 (by decide) ?_
        refine lv_iload_n hx hb dX12_makes_67 rfl (lv_at hl 2 rfl) ?_
        refine th_iast E hT_3 hS_3 h_4 rfl (by decide) (vp_in_iff.mpr ⟨by decide, by decide⟩) dX12_makes_68 (fun H_5 locs_5 hT_5 hU_5 hS_5 => ?_)
        have hU_5 : AU 20 H_3 H_5 (ρ a0 2) 1 (4) := hU_5
        have hL_5 : PL H_5 (ρ a0 2) := PL.put hL_3 hU_5 (by show (-2147483648 : Int) ≤ _; exact i_min _) (by show _ ≤ (2147483647 : Int); exact i_max _)
        refine lv_aload_n hx hb dX12_makes_69 rfl (lv_at hl 0 rfl) ?_
        refine gf_X12_16 E hT_5 hW ha0 dX12_makes_70 (fun h_6 => ?_)
        refine lv_iconst (v := 2) hx hb dX12_makes_73 (by decide) ?_
        refine lv_iload_n hx hb dX12_makes_74 rfl (lv_at hl 3 rfl) ?_
        refine th_iast E hT_5 hS_5 h_6 rfl (by decide) (vp_in_iff.mpr ⟨by decide, by decide⟩) dX12_makes_75 (fun H_7 locs_7 hT_7 hU_7 hS_7 => ?_)
        have hU_7 : AU 20 H_5 H_7 (ρ a0 2) 2 x2 := hU_7
        have hL_7 : PL H_7 (ρ a0 2) := PL.put hL_5 hU_7 (by show (-2147483648 : Int) ≤ _; exact i_min _) (by show _ ≤ (2147483647 : Int); exact i_max _)
        refine lv_iload_n hx hb dX12_makes_76 rfl (lv_at hl 2 rfl) ?_
        refine lv_iconst (v := 4) hx hb dX12_makes_77 (by decide) ?_
        refine lv_iand hx hb dX12_makes_78 ?_
        refine th_topi (y := 4) (by decide) ?_
        refine lv_if_le (tgt := 133) hx hb dX12_makes_79 (by decide) (fun c_8 => absurd c_8 (by decide)) (fun c_8 => ?_)
        refine lv_iload_n hx hb dX12_makes_82 rfl (lv_at hl 2 rfl) ?_
        refine lv_bipush (v := 8) hx hb dX12_makes_83 (by decide) ?_
        refine lv_iand hx hb dX12_makes_85 ?_
        refine th_topi (y := 0) (by decide) ?_
        refine lv_if_ne (tgt := 133) hx hb dX12_makes_86 (by decide) (fun c_9 => absurd (by decide) c_9) (fun c_9 => ?_)
        refine lv_aload_n hx hb dX12_makes_89 rfl (lv_at hl 0 rfl) ?_
        refine gf_X12_16 E hT_7 hW ha0 dX12_makes_90 (fun h_10 => ?_)
        refine lv_iconst (v := 3) hx hb dX12_makes_93 (by decide) ?_
        refine lv_aload_n hx hb dX12_makes_94 rfl (lv_at hl 0 rfl) ?_
        refine lv_iconst (v := 1) hx hb dX12_makes_95 (by decide) ?_
        refine lv_iload_n hx hb dX12_makes_96 rfl (lv_at hl 1 rfl) ?_
        refine lv_isub hx hb dX12_makes_97 ?_
        refine th_topi (y := 0) (by decide) ?_
        refine lv_aload_n hx hb dX12_makes_98 rfl (lv_at hl 0 rfl) ?_
        refine lv_iload_n hx hb dX12_makes_99 rfl (lv_at hl 1 rfl) ?_
        refine lv_iconst (v := 5) hx hb dX12_makes_100 (by decide) ?_
        refine th_Vi (As := [.int 1, .int 5]) (rest := [.int 0, .ref a0, .int 3, .ref (ρ a0 2)]) E hml hl.1 (y_get_v18 l D cI cS τ ρ hW H_7 hT_7 a0 ha0) lk_X12_99 yd_X12_get hT_7 ha0 rfl (by decide) hS_7 (fun _ h => h.elim) ⟨by decide, by decide⟩ (Nat.le_of_ble_eq_true rfl) ⟨by decide, by decide⟩ rfl dX12_makes_101 (fun r_11 H_11 locs_11 p_11 hT_11 hk_11 hS_11 => ?_)
        have p_11 : H_7 = H_11 ∧ (ai H_7 (ρ a0 0) 293 = r_11) := p_11
        obtain ⟨rfl, p_11_0⟩ := p_11
        have t_11 : ai H_c3 (ρ a0 0) 293 = r_11 := (Eq.trans (ai_q (hU_7.2 _ (th_ne (hW _ 12 0 ha0 (by decide) (by decide) (by decide)) (hW _ 12 2 ha0 (by decide) (by decide) (by decide)) (by decide)))) (Eq.trans (ai_q (hU_5.2 _ (th_ne (hW _ 12 0 ha0 (by decide) (by decide) (by decide)) (hW _ 12 2 ha0 (by decide) (by decide) (by decide)) (by decide)))) (ai_q (hU_3.2 _ (th_ne (hW _ 12 0 ha0 (by decide) (by decide) (by decide)) (hW _ 12 2 ha0 (by decide) (by decide) (by decide)) (by decide)))))).symm.trans p_11_0
        have b_r_11 : 0 ≤ r_11.toInt ∧ r_11.toInt ≤ N + 33 := by rw [← t_11]; exact hI_c3.1 293 (by decide)
        have c_r_11 := congrArg Int32.toInt t_11
        refine th_Vi (As := [.int 0, .int r_11]) (rest := [.int 3, .ref (ρ a0 2)]) E hml hl.1 (y_number_v3 l D cI cS τ ρ hW H_7 hT_11 a0 r_11 ha0) lk_X12_112 yd_X12_number hT_11 ha0 rfl (by decide) hS_11 (fun _ h => h.elim) ⟨by decide, by decide⟩ (Nat.le_of_ble_eq_true rfl) ⟨by decide, by decide⟩ rfl dX12_makes_104 (fun r_12 H_12 locs_12 p_12 hT_12 hk_12 hS_12 => ?_)
        have p_12 : H_7 = H_12 := p_12
        obtain rfl := p_12
        refine th_iast E hT_12 hS_12 h_10 rfl (by decide) (vp_in_iff.mpr ⟨by decide, by decide⟩) dX12_makes_107 (fun H_13 locs_13 hT_13 hU_13 hS_13 => ?_)
        have hU_13 : AU 20 H_7 H_13 (ρ a0 2) 3 r_12 := hU_13
        have hL_13 : PL H_13 (ρ a0 2) := PL.put hL_7 hU_13 (by show (-2147483648 : Int) ≤ _; exact i_min _) (by show _ ≤ (2147483647 : Int); exact i_max _)
        refine lv_aload_n hx hb dX12_makes_108 rfl (lv_at hl 0 rfl) ?_
        refine gf_X12_16 E hT_13 hW ha0 dX12_makes_109 (fun h_14 => ?_)
        refine lv_iconst (v := 4) hx hb dX12_makes_112 (by decide) ?_
        refine lv_aload_n hx hb dX12_makes_113 rfl (lv_at hl 0 rfl) ?_
        refine lv_iload_n hx hb dX12_makes_114 rfl (lv_at hl 1 rfl) ?_
        refine lv_bipush (v := 7) hx hb dX12_makes_115 (by decide) ?_
        refine th_Vi (As := [.int 1, .int 7]) (rest := [.int 4, .ref (ρ a0 2)]) E hml hl.1 (y_get_v19 l D cI cS τ ρ hW H_13 hT_13 a0 ha0) lk_X12_99 yd_X12_get hT_13 ha0 rfl (by decide) hS_13 (fun _ h => h.elim) ⟨by decide, by decide⟩ (Nat.le_of_ble_eq_true rfl) ⟨by decide, by decide⟩ rfl dX12_makes_117 (fun r_15 H_15 locs_15 p_15 hT_15 hk_15 hS_15 => ?_)
        have p_15 : H_13 = H_15 ∧ (ai H_13 (ρ a0 0) 295 = r_15) := p_15
        obtain ⟨rfl, p_15_0⟩ := p_15
        have t_15 : ai H_c3 (ρ a0 0) 295 = r_15 := (Eq.trans (ai_q (hU_13.2 _ (th_ne (hW _ 12 0 ha0 (by decide) (by decide) (by decide)) (hW _ 12 2 ha0 (by decide) (by decide) (by decide)) (by decide)))) (Eq.trans (ai_q (hU_7.2 _ (th_ne (hW _ 12 0 ha0 (by decide) (by decide) (by decide)) (hW _ 12 2 ha0 (by decide) (by decide) (by decide)) (by decide)))) (Eq.trans (ai_q (hU_5.2 _ (th_ne (hW _ 12 0 ha0 (by decide) (by decide) (by decide)) (hW _ 12 2 ha0 (by decide) (by decide) (by decide)) (by decide)))) (ai_q (hU_3.2 _ (th_ne (hW _ 12 0 ha0 (by decide) (by decide) (by decide)) (hW _ 12 2 ha0 (by decide) (by decide) (by decide)) (by decide))))))).symm.trans p_15_0
        have b_r_15 : 0 ≤ r_15.toInt ∧ r_15.toInt ≤ N + 33 := by rw [← t_15]; exact hI_c3.1 295 (by decide)
        have c_r_15 := congrArg Int32.toInt t_15
        refine lv_aload_n hx hb dX12_makes_120 rfl (lv_at hl 0 rfl) ?_
        refine lv_iload_n hx hb dX12_makes_121 rfl (lv_at hl 1 rfl) ?_
        refine lv_iconst (v := 5) hx hb dX12_makes_122 (by decide) ?_
        refine th_Vi (As := [.int 1, .int 5]) (rest := [.int r_15, .int 4, .ref (ρ a0 2)]) E hml hl.1 (y_get_v18 l D cI cS τ ρ hW H_13 hT_15 a0 ha0) lk_X12_99 yd_X12_get hT_15 ha0 rfl (by decide) hS_15 (fun _ h => h.elim) ⟨by decide, by decide⟩ (Nat.le_of_ble_eq_true rfl) ⟨by decide, by decide⟩ rfl dX12_makes_123 (fun r_16 H_16 locs_16 p_16 hT_16 hk_16 hS_16 => ?_)
        have p_16 : H_13 = H_16 ∧ (ai H_13 (ρ a0 0) 293 = r_16) := p_16
        obtain ⟨rfl, p_16_0⟩ := p_16
        have s_16 : r_16 = r_11 := p_16_0.symm.trans (Eq.trans (ai_q (hU_13.2 _ (th_ne (hW _ 12 0 ha0 (by decide) (by decide) (by decide)) (hW _ 12 2 ha0 (by decide) (by decide) (by decide)) (by decide)))) ((Eq.trans (ai_q (hU_7.2 _ (th_ne (hW _ 12 0 ha0 (by decide) (by decide) (by decide)) (hW _ 12 2 ha0 (by decide) (by decide) (by decide)) (by decide)))) (Eq.trans (ai_q (hU_5.2 _ (th_ne (hW _ 12 0 ha0 (by decide) (by decide) (by decide)) (hW _ 12 2 ha0 (by decide) (by decide) (by decide)) (by decide)))) (ai_q (hU_3.2 _ (th_ne (hW _ 12 0 ha0 (by decide) (by decide) (by decide)) (hW _ 12 2 ha0 (by decide) (by decide) (by decide)) (by decide)))))).trans t_11))
        refine th_topi s_16 ?_
        refine lv_isub hx hb dX12_makes_126 ?_
        refine lv_topi (fun x_17 ex_17 => ?_)
        have q_17 : x_17.toInt = r_15.toInt - r_11.toInt := i_mi rfl rfl ex_17 (by omega) (by omega)
        refine th_iast E hT_16 hS_16 h_14 rfl (by decide) (vp_in_iff.mpr ⟨by decide, by decide⟩) dX12_makes_127 (fun H_18 locs_18 hT_18 hU_18 hS_18 => ?_)
        have hU_18 : AU 20 H_13 H_18 (ρ a0 2) 4 x_17 := hU_18
        have hL_18 : PL H_18 (ρ a0 2) := PL.put hL_13 hU_18 (by show (-2147483648 : Int) ≤ _; exact i_min _) (by show _ ≤ (2147483647 : Int); exact i_max _)
        refine lv_aload_n hx hb dX12_makes_128 rfl (lv_at hl 0 rfl) ?_
        refine lv_iload_n hx hb dX12_makes_129 rfl (lv_at hl 1 rfl) ?_
        refine th_Vv (As := [.int 1]) (rest := []) E hml hl.1 (y_spans_v2 l D cI cS τ ρ hW H_18 hT_18 a0 ha0 N hN0 hN1 ⟨(PW.q (hU_18.2 _ (th_ne (hW _ 12 0 ha0 (by decide) (by decide) (by decide)) (hW _ 12 2 ha0 (by decide) (by decide) (by decide)) (by decide))) (PW.q (hU_13.2 _ (th_ne (hW _ 12 0 ha0 (by decide) (by decide) (by decide)) (hW _ 12 2 ha0 (by decide) (by decide) (by decide)) (by decide))) (PW.q (hU_7.2 _ (th_ne (hW _ 12 0 ha0 (by decide) (by decide) (by decide)) (hW _ 12 2 ha0 (by decide) (by decide) (by decide)) (by decide))) (PW.q (hU_5.2 _ (th_ne (hW _ 12 0 ha0 (by decide) (by decide) (by decide)) (hW _ 12 2 ha0 (by decide) (by decide) (by decide)) (by decide))) (PW.q (hU_3.2 _ (th_ne (hW _ 12 0 ha0 (by decide) (by decide) (by decide)) (hW _ 12 2 ha0 (by decide) (by decide) (by decide)) (by decide))) hI_c3.1))))), (QS.same (Eq.trans (ai_q (hU_18.2 _ (th_ne (hW _ 12 0 ha0 (by decide) (by decide) (by decide)) (hW _ 12 2 ha0 (by decide) (by decide) (by decide)) (by decide)))) (Eq.trans (ai_q (hU_13.2 _ (th_ne (hW _ 12 0 ha0 (by decide) (by decide) (by decide)) (hW _ 12 2 ha0 (by decide) (by decide) (by decide)) (by decide)))) (Eq.trans (ai_q (hU_7.2 _ (th_ne (hW _ 12 0 ha0 (by decide) (by decide) (by decide)) (hW _ 12 2 ha0 (by decide) (by decide) (by decide)) (by decide)))) (Eq.trans (ai_q (hU_5.2 _ (th_ne (hW _ 12 0 ha0 (by decide) (by decide) (by decide)) (hW _ 12 2 ha0 (by decide) (by decide) (by decide)) (by decide)))) (ai_q (hU_3.2 _ (th_ne (hW _ 12 0 ha0 (by decide) (by decide) (by decide)) (hW _ 12 2 ha0 (by decide) (by decide) (by decide)) (by decide)))))))) (Eq.trans (ai_q (hU_18.2 _ (th_ne (hW _ 12 0 ha0 (by decide) (by decide) (by decide)) (hW _ 12 2 ha0 (by decide) (by decide) (by decide)) (by decide)))) (Eq.trans (ai_q (hU_13.2 _ (th_ne (hW _ 12 0 ha0 (by decide) (by decide) (by decide)) (hW _ 12 2 ha0 (by decide) (by decide) (by decide)) (by decide)))) (Eq.trans (ai_q (hU_7.2 _ (th_ne (hW _ 12 0 ha0 (by decide) (by decide) (by decide)) (hW _ 12 2 ha0 (by decide) (by decide) (by decide)) (by decide)))) (Eq.trans (ai_q (hU_5.2 _ (th_ne (hW _ 12 0 ha0 (by decide) (by decide) (by decide)) (hW _ 12 2 ha0 (by decide) (by decide) (by decide)) (by decide)))) (ai_q (hU_3.2 _ (th_ne (hW _ 12 0 ha0 (by decide) (by decide) (by decide)) (hW _ 12 2 ha0 (by decide) (by decide) (by decide)) (by decide)))))))) hI_c3.2.1), (QS.same (Eq.trans (ai_q (hU_18.2 _ (th_ne (hW _ 12 0 ha0 (by decide) (by decide) (by decide)) (hW _ 12 2 ha0 (by decide) (by decide) (by decide)) (by decide)))) (Eq.trans (ai_q (hU_13.2 _ (th_ne (hW _ 12 0 ha0 (by decide) (by decide) (by decide)) (hW _ 12 2 ha0 (by decide) (by decide) (by decide)) (by decide)))) (Eq.trans (ai_q (hU_7.2 _ (th_ne (hW _ 12 0 ha0 (by decide) (by decide) (by decide)) (hW _ 12 2 ha0 (by decide) (by decide) (by decide)) (by decide)))) (Eq.trans (ai_q (hU_5.2 _ (th_ne (hW _ 12 0 ha0 (by decide) (by decide) (by decide)) (hW _ 12 2 ha0 (by decide) (by decide) (by decide)) (by decide)))) (ai_q (hU_3.2 _ (th_ne (hW _ 12 0 ha0 (by decide) (by decide) (by decide)) (hW _ 12 2 ha0 (by decide) (by decide) (by decide)) (by decide)))))))) (Eq.trans (ai_q (hU_18.2 _ (th_ne (hW _ 12 0 ha0 (by decide) (by decide) (by decide)) (hW _ 12 2 ha0 (by decide) (by decide) (by decide)) (by decide)))) (Eq.trans (ai_q (hU_13.2 _ (th_ne (hW _ 12 0 ha0 (by decide) (by decide) (by decide)) (hW _ 12 2 ha0 (by decide) (by decide) (by decide)) (by decide)))) (Eq.trans (ai_q (hU_7.2 _ (th_ne (hW _ 12 0 ha0 (by decide) (by decide) (by decide)) (hW _ 12 2 ha0 (by decide) (by decide) (by decide)) (by decide)))) (Eq.trans (ai_q (hU_5.2 _ (th_ne (hW _ 12 0 ha0 (by decide) (by decide) (by decide)) (hW _ 12 2 ha0 (by decide) (by decide) (by decide)) (by decide)))) (ai_q (hU_3.2 _ (th_ne (hW _ 12 0 ha0 (by decide) (by decide) (by decide)) (hW _ 12 2 ha0 (by decide) (by decide) (by decide)) (by decide)))))))) hI_c3.2.2.1), hL_18, (PL.q (hU_18.2 _ (Ne.symm n23)) (PL.q (hU_13.2 _ (Ne.symm n23)) (PL.q (hU_7.2 _ (Ne.symm n23)) (PL.q (hU_5.2 _ (Ne.symm n23)) (PL.q (hU_3.2 _ (Ne.symm n23)) hI_c3.2.2.2.2.1))))), (IF.q (hU_18.2 _ (th_ne ha0 (hW _ 12 2 ha0 (by decide) (by decide) (by decide)) (by decide))) (IF.q (hU_13.2 _ (th_ne ha0 (hW _ 12 2 ha0 (by decide) (by decide) (by decide)) (by decide))) (IF.q (hU_7.2 _ (th_ne ha0 (hW _ 12 2 ha0 (by decide) (by decide) (by decide)) (by decide))) (IF.q (hU_5.2 _ (th_ne ha0 (hW _ 12 2 ha0 (by decide) (by decide) (by decide)) (by decide))) (IF.q (hU_3.2 _ (th_ne ha0 (hW _ 12 2 ha0 (by decide) (by decide) (by decide)) (by decide))) hI_c3.2.2.2.2.2)))))⟩) lk_X12_115 yd_X12_spans hT_18 ha0 rfl (by decide) hS_18 (fun q h => h) ⟨by decide, by decide⟩ (Nat.le_of_ble_eq_true rfl) ⟨by decide, by decide⟩ rfl dX12_makes_130 (fun H_19 locs_19 p_19 hT_19 hk_19 hS_19 => ?_)
        have p_19 : (IM D ρ N H_19 a0) ∧ ((ai H_18 (ρ a0 0) 976).toInt ≤ (ai H_19 (ρ a0 0) 976).toInt) := p_19
        obtain ⟨p_19_0, p_19_1⟩ := p_19
        have mn_19 : (ai H_c3 (ρ a0 0) 976).toInt ≤ (ai H_19 (ρ a0 0) 976).toInt := by have h := p_19_1; rw [(Eq.trans (ai_q (hU_18.2 _ (th_ne (hW _ 12 0 ha0 (by decide) (by decide) (by decide)) (hW _ 12 2 ha0 (by decide) (by decide) (by decide)) (by decide)))) (Eq.trans (ai_q (hU_13.2 _ (th_ne (hW _ 12 0 ha0 (by decide) (by decide) (by decide)) (hW _ 12 2 ha0 (by decide) (by decide) (by decide)) (by decide)))) (Eq.trans (ai_q (hU_7.2 _ (th_ne (hW _ 12 0 ha0 (by decide) (by decide) (by decide)) (hW _ 12 2 ha0 (by decide) (by decide) (by decide)) (by decide)))) (Eq.trans (ai_q (hU_5.2 _ (th_ne (hW _ 12 0 ha0 (by decide) (by decide) (by decide)) (hW _ 12 2 ha0 (by decide) (by decide) (by decide)) (by decide)))) (ai_q (hU_3.2 _ (th_ne (hW _ 12 0 ha0 (by decide) (by decide) (by decide)) (hW _ 12 2 ha0 (by decide) (by decide) (by decide)) (by decide))))))))] at h; exact h
        exact th_vret E hr hlk hs hT_19 hS_19 ⟨⟨p_19_0.1, p_19_0.2.1, p_19_0.2.2.1, p_19_0.2.2.2.1, p_19_0.2.2.2.2.1, p_19_0.2.2.2.2.2⟩, (by rw [(Eq.trans (ai_q (hk_19 _ (th_ne (hW _ 12 0 ha0 (by decide) (by decide) (by decide)) (hW _ 12 2 ha0 (by decide) (by decide) (by decide)) (by decide)))) (Eq.trans (ai_q (hU_18.2 _ (th_ne (hW _ 12 0 ha0 (by decide) (by decide) (by decide)) (hW _ 12 2 ha0 (by decide) (by decide) (by decide)) (by decide)))) (Eq.trans (ai_q (hU_13.2 _ (th_ne (hW _ 12 0 ha0 (by decide) (by decide) (by decide)) (hW _ 12 2 ha0 (by decide) (by decide) (by decide)) (by decide)))) (Eq.trans (ai_q (hU_7.2 _ (th_ne (hW _ 12 0 ha0 (by decide) (by decide) (by decide)) (hW _ 12 2 ha0 (by decide) (by decide) (by decide)) (by decide)))) (Eq.trans (ai_q (hU_5.2 _ (th_ne (hW _ 12 0 ha0 (by decide) (by decide) (by decide)) (hW _ 12 2 ha0 (by decide) (by decide) (by decide)) (by decide)))) (ai_q (hU_3.2 _ (th_ne (hW _ 12 0 ha0 (by decide) (by decide) (by decide)) (hW _ 12 2 ha0 (by decide) (by decide) (by decide)) (by decide)))))))))]; omega)⟩ dX12_makes_133
      · have f_1 : y3_4.toInt < 20 := r_nle (by decide) rfl c_1
        refine lv_aload_n hx hb dX12_makes_10 rfl (lv_at hl 0 rfl) ?_
        refine gf_X12_16 E hT_c3 hW ha0 dX12_makes_11 (fun h_20 => ?_)
        refine lv_iload hx hb dX12_makes_14 (lv_at hl 4 rfl) ?_
        refine lv_iload hx hb dX12_makes_16 (lv_at hl 4 rfl) ?_
        refine lv_iconst (v := 3) hx hb dX12_makes_18 (by decide) ?_
        refine lv_icmp_lt (tgt := 42) hx hb dX12_makes_19 (by decide) (fun c_21 => ?_) (fun c_21 => ?_)
        · have f_21 : y3_4.toInt < 3 := r_lt rfl (by decide) c_21
          refine lv_iconst (v := 0) hx hb dX12_makes_42 (by decide) ?_
          refine lv_goto (tgt := 48) hx hb dX12_makes_43 (by decide) ?_
          refine th_iast E hT_c3 hS_c3 h_20 rfl (by decide) (vp_in_iff.mpr ⟨by omega, by omega⟩) dX12_makes_48 (fun H_22 locs_22 hT_22 hU_22 hS_22 => ?_)
          have hU_22 : AU 20 H_c3 H_22 (ρ a0 2) y3_4.toInt.toNat (0) := hU_22
          have hL_22 : PL H_22 (ρ a0 2) := PL.zero hI_c3.2.2.2.1 hU_22
          obtain ⟨x_23, ex_23⟩ : ∃ y : Int32, y3_4 + 1 = y := ⟨_, rfl⟩
          have q_x_23 : x_23.toInt = y3_4.toInt + 1 := i_add (k := 1) (by decide) ex_23 (by have := i_min y3_4; omega) (by have := i_max y3_4; omega)
          refine lv_iinc (v := x_23) (lv' := [(4, .int x_23), (0, .ref a0), (1, .int 1), (2, .int 4), (3, .int x2)]) hx hb dX12_makes_49 hl (k := 4) rfl (by rw [← ex_23]; rfl) (by decide) rfl (fun ls hl => ?_)
          refine lv_goto (tgt := 3) hx hb dX12_makes_52 (by decide) ?_
          exact ih_3 H_22 locs_22 _ x_23 hT_22 hS_22 (lv_sub hl [1, 2, 3, 4, 0] rfl) (by omega) ⟨(PW.q (hU_22.2 _ (th_ne (hW _ 12 0 ha0 (by decide) (by decide) (by decide)) (hW _ 12 2 ha0 (by decide) (by decide) (by decide)) (by decide))) hI_c3.1), (QS.same (ai_q (hU_22.2 _ (th_ne (hW _ 12 0 ha0 (by decide) (by decide) (by decide)) (hW _ 12 2 ha0 (by decide) (by decide) (by decide)) (by decide)))) (ai_q (hU_22.2 _ (th_ne (hW _ 12 0 ha0 (by decide) (by decide) (by decide)) (hW _ 12 2 ha0 (by decide) (by decide) (by decide)) (by decide)))) hI_c3.2.1), (QS.same (ai_q (hU_22.2 _ (th_ne (hW _ 12 0 ha0 (by decide) (by decide) (by decide)) (hW _ 12 2 ha0 (by decide) (by decide) (by decide)) (by decide)))) (ai_q (hU_22.2 _ (th_ne (hW _ 12 0 ha0 (by decide) (by decide) (by decide)) (hW _ 12 2 ha0 (by decide) (by decide) (by decide)) (by decide)))) hI_c3.2.2.1), hL_22, (PL.q (hU_22.2 _ (Ne.symm n23)) hI_c3.2.2.2.2.1), (IF.q (hU_22.2 _ (th_ne ha0 (hW _ 12 2 ha0 (by decide) (by decide) (by decide)) (by decide))) hI_c3.2.2.2.2.2)⟩ (by rw [(ai_q (hU_22.2 _ (th_ne (hW _ 12 0 ha0 (by decide) (by decide) (by decide)) (hW _ 12 2 ha0 (by decide) (by decide) (by decide)) (by decide))))]; omega) (by omega)
        · have f_21 : 3 ≤ y3_4.toInt := r_nlt rfl (by decide) c_21
          refine lv_iload hx hb dX12_makes_22 (lv_at hl 4 rfl) ?_
          refine lv_iconst (v := 5) hx hb dX12_makes_24 (by decide) ?_
          refine lv_icmp_eq (tgt := 42) hx hb dX12_makes_25 (by decide) (fun c_24 => ?_) (fun c_24 => ?_)
          · have f_24 : y3_4.toInt = 5 := r_eq rfl (by decide) c_24
            refine lv_iconst (v := 0) hx hb dX12_makes_42 (by decide) ?_
            refine lv_goto (tgt := 48) hx hb dX12_makes_43 (by decide) ?_
            refine th_iast E hT_c3 hS_c3 h_20 rfl (by decide) (vp_in_iff.mpr ⟨by omega, by omega⟩) dX12_makes_48 (fun H_25 locs_25 hT_25 hU_25 hS_25 => ?_)
            have hU_25 : AU 20 H_c3 H_25 (ρ a0 2) y3_4.toInt.toNat (0) := hU_25
            have hL_25 : PL H_25 (ρ a0 2) := PL.zero hI_c3.2.2.2.1 hU_25
            obtain ⟨x_26, ex_26⟩ : ∃ y : Int32, y3_4 + 1 = y := ⟨_, rfl⟩
            have q_x_26 : x_26.toInt = y3_4.toInt + 1 := i_add (k := 1) (by decide) ex_26 (by have := i_min y3_4; omega) (by have := i_max y3_4; omega)
            refine lv_iinc (v := x_26) (lv' := [(4, .int x_26), (0, .ref a0), (1, .int 1), (2, .int 4), (3, .int x2)]) hx hb dX12_makes_49 hl (k := 4) rfl (by rw [← ex_26]; rfl) (by decide) rfl (fun ls hl => ?_)
            refine lv_goto (tgt := 3) hx hb dX12_makes_52 (by decide) ?_
            exact ih_3 H_25 locs_25 _ x_26 hT_25 hS_25 (lv_sub hl [1, 2, 3, 4, 0] rfl) (by omega) ⟨(PW.q (hU_25.2 _ (th_ne (hW _ 12 0 ha0 (by decide) (by decide) (by decide)) (hW _ 12 2 ha0 (by decide) (by decide) (by decide)) (by decide))) hI_c3.1), (QS.same (ai_q (hU_25.2 _ (th_ne (hW _ 12 0 ha0 (by decide) (by decide) (by decide)) (hW _ 12 2 ha0 (by decide) (by decide) (by decide)) (by decide)))) (ai_q (hU_25.2 _ (th_ne (hW _ 12 0 ha0 (by decide) (by decide) (by decide)) (hW _ 12 2 ha0 (by decide) (by decide) (by decide)) (by decide)))) hI_c3.2.1), (QS.same (ai_q (hU_25.2 _ (th_ne (hW _ 12 0 ha0 (by decide) (by decide) (by decide)) (hW _ 12 2 ha0 (by decide) (by decide) (by decide)) (by decide)))) (ai_q (hU_25.2 _ (th_ne (hW _ 12 0 ha0 (by decide) (by decide) (by decide)) (hW _ 12 2 ha0 (by decide) (by decide) (by decide)) (by decide)))) hI_c3.2.2.1), hL_25, (PL.q (hU_25.2 _ (Ne.symm n23)) hI_c3.2.2.2.2.1), (IF.q (hU_25.2 _ (th_ne ha0 (hW _ 12 2 ha0 (by decide) (by decide) (by decide)) (by decide))) hI_c3.2.2.2.2.2)⟩ (by rw [(ai_q (hU_25.2 _ (th_ne (hW _ 12 0 ha0 (by decide) (by decide) (by decide)) (hW _ 12 2 ha0 (by decide) (by decide) (by decide)) (by decide))))]; omega) (by omega)
          · have f_24 : ¬ y3_4.toInt = 5 := r_ne rfl (by decide) c_24
            refine lv_iload hx hb dX12_makes_28 (lv_at hl 4 rfl) ?_
            refine lv_bipush (v := 6) hx hb dX12_makes_30 (by decide) ?_
            refine lv_icmp_eq (tgt := 42) hx hb dX12_makes_32 (by decide) (fun c_27 => ?_) (fun c_27 => ?_)
            · have f_27 : y3_4.toInt = 6 := r_eq rfl (by decide) c_27
              refine lv_iconst (v := 0) hx hb dX12_makes_42 (by decide) ?_
              refine lv_goto (tgt := 48) hx hb dX12_makes_43 (by decide) ?_
              refine th_iast E hT_c3 hS_c3 h_20 rfl (by decide) (vp_in_iff.mpr ⟨by omega, by omega⟩) dX12_makes_48 (fun H_28 locs_28 hT_28 hU_28 hS_28 => ?_)
              have hU_28 : AU 20 H_c3 H_28 (ρ a0 2) y3_4.toInt.toNat (0) := hU_28
              have hL_28 : PL H_28 (ρ a0 2) := PL.zero hI_c3.2.2.2.1 hU_28
              obtain ⟨x_29, ex_29⟩ : ∃ y : Int32, y3_4 + 1 = y := ⟨_, rfl⟩
              have q_x_29 : x_29.toInt = y3_4.toInt + 1 := i_add (k := 1) (by decide) ex_29 (by have := i_min y3_4; omega) (by have := i_max y3_4; omega)
              refine lv_iinc (v := x_29) (lv' := [(4, .int x_29), (0, .ref a0), (1, .int 1), (2, .int 4), (3, .int x2)]) hx hb dX12_makes_49 hl (k := 4) rfl (by rw [← ex_29]; rfl) (by decide) rfl (fun ls hl => ?_)
              refine lv_goto (tgt := 3) hx hb dX12_makes_52 (by decide) ?_
              exact ih_3 H_28 locs_28 _ x_29 hT_28 hS_28 (lv_sub hl [1, 2, 3, 4, 0] rfl) (by omega) ⟨(PW.q (hU_28.2 _ (th_ne (hW _ 12 0 ha0 (by decide) (by decide) (by decide)) (hW _ 12 2 ha0 (by decide) (by decide) (by decide)) (by decide))) hI_c3.1), (QS.same (ai_q (hU_28.2 _ (th_ne (hW _ 12 0 ha0 (by decide) (by decide) (by decide)) (hW _ 12 2 ha0 (by decide) (by decide) (by decide)) (by decide)))) (ai_q (hU_28.2 _ (th_ne (hW _ 12 0 ha0 (by decide) (by decide) (by decide)) (hW _ 12 2 ha0 (by decide) (by decide) (by decide)) (by decide)))) hI_c3.2.1), (QS.same (ai_q (hU_28.2 _ (th_ne (hW _ 12 0 ha0 (by decide) (by decide) (by decide)) (hW _ 12 2 ha0 (by decide) (by decide) (by decide)) (by decide)))) (ai_q (hU_28.2 _ (th_ne (hW _ 12 0 ha0 (by decide) (by decide) (by decide)) (hW _ 12 2 ha0 (by decide) (by decide) (by decide)) (by decide)))) hI_c3.2.2.1), hL_28, (PL.q (hU_28.2 _ (Ne.symm n23)) hI_c3.2.2.2.2.1), (IF.q (hU_28.2 _ (th_ne ha0 (hW _ 12 2 ha0 (by decide) (by decide) (by decide)) (by decide))) hI_c3.2.2.2.2.2)⟩ (by rw [(ai_q (hU_28.2 _ (th_ne (hW _ 12 0 ha0 (by decide) (by decide) (by decide)) (hW _ 12 2 ha0 (by decide) (by decide) (by decide)) (by decide))))]; omega) (by omega)
            · have f_27 : ¬ y3_4.toInt = 6 := r_ne rfl (by decide) c_27
              refine lv_iload hx hb dX12_makes_35 (lv_at hl 4 rfl) ?_
              refine lv_bipush (v := 12) hx hb dX12_makes_37 (by decide) ?_
              refine lv_icmp_lt (tgt := 46) hx hb dX12_makes_39 (by decide) (fun c_30 => ?_) (fun c_30 => ?_)
              · have f_30 : y3_4.toInt < 12 := r_lt rfl (by decide) c_30
                refine lv_bipush (v := (-4)) hx hb dX12_makes_46 (by decide) ?_
                refine th_iast E hT_c3 hS_c3 h_20 rfl (by decide) (vp_in_iff.mpr ⟨by omega, by omega⟩) dX12_makes_48 (fun H_31 locs_31 hT_31 hU_31 hS_31 => ?_)
                have hU_31 : AU 20 H_c3 H_31 (ρ a0 2) y3_4.toInt.toNat ((-4)) := hU_31
                have hL_31 : PL H_31 (ρ a0 2) := PL.free hI_c3.2.2.2.1 hU_31 (by omega)
                obtain ⟨x_32, ex_32⟩ : ∃ y : Int32, y3_4 + 1 = y := ⟨_, rfl⟩
                have q_x_32 : x_32.toInt = y3_4.toInt + 1 := i_add (k := 1) (by decide) ex_32 (by have := i_min y3_4; omega) (by have := i_max y3_4; omega)
                refine lv_iinc (v := x_32) (lv' := [(4, .int x_32), (0, .ref a0), (1, .int 1), (2, .int 4), (3, .int x2)]) hx hb dX12_makes_49 hl (k := 4) rfl (by rw [← ex_32]; rfl) (by decide) rfl (fun ls hl => ?_)
                refine lv_goto (tgt := 3) hx hb dX12_makes_52 (by decide) ?_
                exact ih_3 H_31 locs_31 _ x_32 hT_31 hS_31 (lv_sub hl [1, 2, 3, 4, 0] rfl) (by omega) ⟨(PW.q (hU_31.2 _ (th_ne (hW _ 12 0 ha0 (by decide) (by decide) (by decide)) (hW _ 12 2 ha0 (by decide) (by decide) (by decide)) (by decide))) hI_c3.1), (QS.same (ai_q (hU_31.2 _ (th_ne (hW _ 12 0 ha0 (by decide) (by decide) (by decide)) (hW _ 12 2 ha0 (by decide) (by decide) (by decide)) (by decide)))) (ai_q (hU_31.2 _ (th_ne (hW _ 12 0 ha0 (by decide) (by decide) (by decide)) (hW _ 12 2 ha0 (by decide) (by decide) (by decide)) (by decide)))) hI_c3.2.1), (QS.same (ai_q (hU_31.2 _ (th_ne (hW _ 12 0 ha0 (by decide) (by decide) (by decide)) (hW _ 12 2 ha0 (by decide) (by decide) (by decide)) (by decide)))) (ai_q (hU_31.2 _ (th_ne (hW _ 12 0 ha0 (by decide) (by decide) (by decide)) (hW _ 12 2 ha0 (by decide) (by decide) (by decide)) (by decide)))) hI_c3.2.2.1), hL_31, (PL.q (hU_31.2 _ (Ne.symm n23)) hI_c3.2.2.2.2.1), (IF.q (hU_31.2 _ (th_ne ha0 (hW _ 12 2 ha0 (by decide) (by decide) (by decide)) (by decide))) hI_c3.2.2.2.2.2)⟩ (by rw [(ai_q (hU_31.2 _ (th_ne (hW _ 12 0 ha0 (by decide) (by decide) (by decide)) (hW _ 12 2 ha0 (by decide) (by decide) (by decide)) (by decide))))]; omega) (by omega)
              · have f_30 : 12 ≤ y3_4.toInt := r_nlt rfl (by decide) c_30
                refine lv_iconst (v := 0) hx hb dX12_makes_42 (by decide) ?_
                refine lv_goto (tgt := 48) hx hb dX12_makes_43 (by decide) ?_
                refine th_iast E hT_c3 hS_c3 h_20 rfl (by decide) (vp_in_iff.mpr ⟨by omega, by omega⟩) dX12_makes_48 (fun H_33 locs_33 hT_33 hU_33 hS_33 => ?_)
                have hU_33 : AU 20 H_c3 H_33 (ρ a0 2) y3_4.toInt.toNat (0) := hU_33
                have hL_33 : PL H_33 (ρ a0 2) := PL.zero hI_c3.2.2.2.1 hU_33
                obtain ⟨x_34, ex_34⟩ : ∃ y : Int32, y3_4 + 1 = y := ⟨_, rfl⟩
                have q_x_34 : x_34.toInt = y3_4.toInt + 1 := i_add (k := 1) (by decide) ex_34 (by have := i_min y3_4; omega) (by have := i_max y3_4; omega)
                refine lv_iinc (v := x_34) (lv' := [(4, .int x_34), (0, .ref a0), (1, .int 1), (2, .int 4), (3, .int x2)]) hx hb dX12_makes_49 hl (k := 4) rfl (by rw [← ex_34]; rfl) (by decide) rfl (fun ls hl => ?_)
                refine lv_goto (tgt := 3) hx hb dX12_makes_52 (by decide) ?_
                exact ih_3 H_33 locs_33 _ x_34 hT_33 hS_33 (lv_sub hl [1, 2, 3, 4, 0] rfl) (by omega) ⟨(PW.q (hU_33.2 _ (th_ne (hW _ 12 0 ha0 (by decide) (by decide) (by decide)) (hW _ 12 2 ha0 (by decide) (by decide) (by decide)) (by decide))) hI_c3.1), (QS.same (ai_q (hU_33.2 _ (th_ne (hW _ 12 0 ha0 (by decide) (by decide) (by decide)) (hW _ 12 2 ha0 (by decide) (by decide) (by decide)) (by decide)))) (ai_q (hU_33.2 _ (th_ne (hW _ 12 0 ha0 (by decide) (by decide) (by decide)) (hW _ 12 2 ha0 (by decide) (by decide) (by decide)) (by decide)))) hI_c3.2.1), (QS.same (ai_q (hU_33.2 _ (th_ne (hW _ 12 0 ha0 (by decide) (by decide) (by decide)) (hW _ 12 2 ha0 (by decide) (by decide) (by decide)) (by decide)))) (ai_q (hU_33.2 _ (th_ne (hW _ 12 0 ha0 (by decide) (by decide) (by decide)) (hW _ 12 2 ha0 (by decide) (by decide) (by decide)) (by decide)))) hI_c3.2.2.1), hL_33, (PL.q (hU_33.2 _ (Ne.symm n23)) hI_c3.2.2.2.2.1), (IF.q (hU_33.2 _ (th_ne ha0 (hW _ 12 2 ha0 (by decide) (by decide) (by decide)) (by decide))) hI_c3.2.2.2.2.2)⟩ (by rw [(ai_q (hU_33.2 _ (th_ne (hW _ 12 0 ha0 (by decide) (by decide) (by decide)) (hW _ 12 2 ha0 (by decide) (by decide) (by decide)) (by decide))))]; omega) (by omega)
  refine lv_iconst (v := 0) hx hb dX12_makes_0 (by decide) ?_
  refine lv_istore (lv' := [(4, .int 0), (0, .ref a0), (1, .int 1), (2, .int 4), (3, .int x2)]) hx hb dX12_makes_1 hl (by decide) rfl (fun ls hl => ?_)
  exact L_3 _ H [] _ 0 hT hS (lv_sub hl [1, 2, 3, 4, 0] rfl) (by decide) ⟨hI.1, hI.2.1, hI.2.2.1, hI.2.2.2.1, hI.2.2.2.2.1, hI.2.2.2.2.2⟩ (by omega) (Nat.lt_succ_self _)
set_option maxHeartbeats 4000000 in
set_option maxRecDepth 100000 in
/-- the reference: yes -/
theorem y_yes_v2 (l : Launch) (D : va_G) (cI cS : ClassId) (τ : Nat → Option Nat) (ρ : Nat → Nat → Nat) (hW : WF τ ρ) (H : Heap) (hT : TH D cI cS τ ρ H) (a0 : Nat) (ha0 : τ a0 = some 12) (N : Int) (hN0 : 0 ≤ N) (hN1 : N ≤ 600) (hI : IM D ρ N H a0) : MV l D cI cS τ ρ yX12_yes cX12_yes 2 none 5 115 H [.ref a0, .int 1] (fun (u : Heap) => (IM D ρ N u a0) ∧ ((ai H (ρ a0 0) 976).toInt ≤ (ai u (ρ a0 0) 976).toInt)) (fun q => q = ρ a0 2 ∨ q = ρ a0 0) := by
  refine MV.of (by decide) (Nat.le_of_ble_eq_true rfl) ?_
  intro p e s m args below meth c E hml hr hlk hs ls hl
  have hx := E.1
  have hb := E.2.1
  have hown := E.2.2.1
  have hts := E.2.2.2.1
  have hS : SS (fun q => q = ρ a0 2 ∨ q = ρ a0 0) H H [] := SS.rf
  have hl : lv_has ls 2 [(0, .ref a0), (1, .int 1)] := hl
  have n01 := hI.2.2.2.2.2.1
  have n23 := hI.2.2.2.2.2.2.1
  refine lv_aload_n hx hb dX12_yes_0 rfl (lv_at hl 0 rfl) ?_
  refine lv_iload_n hx hb dX12_yes_1 rfl (lv_at hl 1 rfl) ?_
  refine lv_iconst (v := 4) hx hb dX12_yes_2 (by decide) ?_
  refine lv_aload_n hx hb dX12_yes_3 rfl (lv_at hl 0 rfl) ?_
  refine lv_iload_n hx hb dX12_yes_4 rfl (lv_at hl 1 rfl) ?_
  refine lv_aload_n hx hb dX12_yes_5 rfl (lv_at hl 0 rfl) ?_
  refine lv_iload_n hx hb dX12_yes_6 rfl (lv_at hl 1 rfl) ?_
  refine lv_iconst (v := 2) hx hb dX12_yes_7 (by decide) ?_
  refine th_Vi (As := [.int 1, .int 2]) (rest := [.int 1, .ref a0, .int 4, .int 1, .ref a0]) E hml hl.1 (y_get_v32 l D cI cS τ ρ hW H hT a0 ha0) lk_X12_99 yd_X12_get hT ha0 rfl (by decide) hS (fun _ h => h.elim) ⟨by decide, by decide⟩ (Nat.le_of_ble_eq_true rfl) ⟨by decide, by decide⟩ rfl dX12_yes_8 (fun r_1 H_1 locs_1 p_1 hT_1 hk_1 hS_1 => ?_)
  have p_1 : H = H_1 ∧ (ai H (ρ a0 0) 290 = r_1) := p_1
  obtain ⟨rfl, p_1_0⟩ := p_1
  have b_r_1 : 0 ≤ r_1.toInt ∧ r_1.toInt ≤ N + 2 := by rw [← p_1_0]; exact hI.1 290 (by decide)
  have c_r_1 := congrArg Int32.toInt p_1_0
  refine th_Vi (As := [.int 1, .int r_1]) (rest := [.int 4, .int 1, .ref a0]) E hml hl.1 (y_number_v2 l D cI cS τ ρ hW H hT_1 a0 r_1 ha0) lk_X12_112 yd_X12_number hT_1 ha0 rfl (by decide) hS_1 (fun _ h => h.elim) ⟨by decide, by decide⟩ (Nat.le_of_ble_eq_true rfl) ⟨by decide, by decide⟩ rfl dX12_yes_11 (fun r_2 H_2 locs_2 p_2 hT_2 hk_2 hS_2 => ?_)
  have p_2 : H = H_2 := p_2
  obtain rfl := p_2
  refine th_Vv (As := [.int 1, .int 4, .int r_2]) (rest := []) E hml hl.1 (y_makes_v5 l D cI cS τ ρ hW H hT_2 a0 r_2 ha0 N hN0 hN1 ⟨hI.1, hI.2.1, hI.2.2.1, hI.2.2.2.1, hI.2.2.2.2.1, hI.2.2.2.2.2⟩) lk_X12_126 yd_X12_makes hT_2 ha0 rfl (by decide) hS_2 (fun q h => (Or.inl h)) ⟨by decide, by decide⟩ (Nat.le_of_ble_eq_true rfl) ⟨by decide, by decide⟩ rfl dX12_yes_14 (fun H_3 locs_3 p_3 hT_3 hk_3 hS_3 => ?_)
  have p_3 : (IM D ρ N H_3 a0) ∧ ((ai H (ρ a0 0) 976).toInt ≤ (ai H_3 (ρ a0 0) 976).toInt) := p_3
  obtain ⟨p_3_0, p_3_1⟩ := p_3
  have mn_3 : (ai H (ρ a0 0) 976).toInt ≤ (ai H_3 (ρ a0 0) 976).toInt := by exact p_3_1
  refine lv_aload_n hx hb dX12_yes_17 rfl (lv_at hl 0 rfl) ?_
  refine th_Vv (As := []) (rest := []) E hml hl.1 (y_posts l D cI cS τ ρ hW H_3 hT_3 a0 ha0 N hN0 hN1 ⟨p_3_0.1, p_3_0.2.1, p_3_0.2.2.1, p_3_0.2.2.2.1, p_3_0.2.2.2.2.1, p_3_0.2.2.2.2.2⟩) lk_X12_129 yd_X12_posts hT_3 ha0 rfl (by decide) hS_3 (fun q h => (Or.inr h)) ⟨by decide, by decide⟩ (Nat.le_of_ble_eq_true rfl) ⟨by decide, by decide⟩ rfl dX12_yes_18 (fun H_4 locs_4 p_4 hT_4 hk_4 hS_4 => ?_)
  have p_4 : (IM D ρ N H_4 a0) ∧ ((ai H_3 (ρ a0 0) 976).toInt ≤ (ai H_4 (ρ a0 0) 976).toInt) := p_4
  obtain ⟨p_4_0, p_4_1⟩ := p_4
  have mn_4 : (ai H (ρ a0 0) 976).toInt ≤ (ai H_4 (ρ a0 0) 976).toInt := by have h := p_4_1; rw [(ai_q (hk_3 _ (th_ne (hW _ 12 0 ha0 (by decide) (by decide) (by decide)) (hW _ 12 2 ha0 (by decide) (by decide) (by decide)) (by decide))))] at h; exact h
  exact th_vret E hr hlk hs hT_4 hS_4 ⟨⟨p_4_0.1, p_4_0.2.1, p_4_0.2.2.1, p_4_0.2.2.2.1, p_4_0.2.2.2.2.1, p_4_0.2.2.2.2.2⟩, (by omega)⟩ dX12_yes_21
set_option maxHeartbeats 4000000 in
set_option maxRecDepth 100000 in
/-- the reference: get -/
theorem y_get_v33 (l : Launch) (D : va_G) (cI cS : ClassId) (τ : Nat → Option Nat) (ρ : Nat → Nat → Nat) (hW : WF τ ρ) (H : Heap) (hT : TH D cI cS τ ρ H) (a0 : Nat) (ha0 : τ a0 = some 12) : MI l D cI cS τ ρ yX12_get cX12_get 3 (some .int) 0 0 H [.ref a0, .int 1, .int 4] (fun (r : Int32) (u : Heap) => (H = u) ∧ (ai H (ρ a0 0) 292 = r)) (fun q => False) := by
  refine MI.of (by decide) (Nat.le_of_ble_eq_true rfl) ?_
  intro p e s m args below meth c E hml hr hlk hs ls hl
  have hx := E.1
  have hb := E.2.1
  have hown := E.2.2.1
  have hts := E.2.2.2.1
  have hS : SS (fun q => False) H H [] := SS.rf
  have hl : lv_has ls 3 [(0, .ref a0), (1, .int 1), (2, .int 4)] := hl
  refine lv_aload_n hx hb dX12_get_0 rfl (lv_at hl 0 rfl) ?_
  refine gf_X12_7 E hT hW ha0 dX12_get_1 (fun h_1 => ?_)
  refine lv_sipush (v := 288) hx hb dX12_get_4 (by decide) ?_
  refine lv_iload_n hx hb dX12_get_7 rfl (lv_at hl 1 rfl) ?_
  refine lv_imul hx hb dX12_get_8 ?_
  refine th_topi (y := 288) (by decide) ?_
  refine lv_iload_n hx hb dX12_get_9 rfl (lv_at hl 2 rfl) ?_
  refine lv_iadd hx hb dX12_get_10 ?_
  refine th_topi (y := 292) (by decide) ?_
  refine th_iald E hT h_1 (by decide) (vp_in_iff.mpr ⟨by decide, by decide⟩) dX12_get_11 ?_
  refine th_topi (y := ai H (ρ a0 0) 292) rfl ?_
  refine lv_topi (fun x_2 ex_2 => ?_)
  have c_x_2 := congrArg Int32.toInt ex_2.symm
  exact th_iret E hr hlk hs hT hS ⟨rfl, ex_2.symm⟩ dX12_get_12
set_option maxHeartbeats 4000000 in
set_option maxRecDepth 100000 in
/-- the reference: saidFrom -/
theorem y_saidFrom_v2 (l : Launch) (D : va_G) (cI cS : ClassId) (τ : Nat → Option Nat) (ρ : Nat → Nat → Nat) (hW : WF τ ρ) (H : Heap) (hT : TH D cI cS τ ρ H) (a0 : Nat) (x1 : Int32) (ha0 : τ a0 = some 12) (N : Int) (hN0 : 0 ≤ N) (hN1 : N ≤ 600) (hI : IM D ρ N H a0) (hp0 : 0 ≤ x1.toInt ∧ x1.toInt ≤ 700) : MI l D cI cS τ ρ yX12_saidFrom cX12_saidFrom 3 (some .int) 1 22 H [.ref a0, .int 1, .int x1] (fun (r : Int32) (u : Heap) => (H = u) ∧ (0 ≤ r.toInt ∧ (r.toInt = 0 ∨ (1 ≤ x1.toInt ∧ r.toInt = (ai H (ρ a0 0) 292).toInt + 1 - x1.toInt) ∨ (x1.toInt < 1 ∧ r.toInt = (ai H (ρ a0 0) 292).toInt)) ∧ (ai H (ρ a0 0) 292).toInt ≤ N)) (fun q => False) := by
  refine MI.of (by decide) (Nat.le_of_ble_eq_true rfl) ?_
  intro p e s m args below meth c E hml hr hlk hs ls hl
  have hx := E.1
  have hb := E.2.1
  have hown := E.2.2.1
  have hts := E.2.2.2.1
  have hS : SS (fun q => False) H H [] := SS.rf
  have hl : lv_has ls 3 [(0, .ref a0), (1, .int 1), (2, .int x1)] := hl
  have n01 := hI.2.2.2.2.2.1
  have n23 := hI.2.2.2.2.2.2.1
  refine lv_iconst (v := 0) hx hb dX12_saidFrom_0 (by decide) ?_
  refine lv_aload_n hx hb dX12_saidFrom_1 rfl (lv_at hl 0 rfl) ?_
  refine lv_iload_n hx hb dX12_saidFrom_2 rfl (lv_at hl 1 rfl) ?_
  refine lv_iconst (v := 4) hx hb dX12_saidFrom_3 (by decide) ?_
  refine th_Vi (As := [.int 1, .int 4]) (rest := [.int 0]) E hml hl.1 (y_get_v33 l D cI cS τ ρ hW H hT a0 ha0) lk_X12_99 yd_X12_get hT ha0 rfl (by decide) hS (fun _ h => h.elim) ⟨by decide, by decide⟩ (Nat.le_of_ble_eq_true rfl) ⟨by decide, by decide⟩ rfl dX12_saidFrom_4 (fun r_1 H_1 locs_1 p_1 hT_1 hk_1 hS_1 => ?_)
  have p_1 : H = H_1 ∧ (ai H (ρ a0 0) 292 = r_1) := p_1
  obtain ⟨rfl, p_1_0⟩ := p_1
  have b_r_1 : 0 ≤ r_1.toInt ∧ r_1.toInt ≤ N := by rw [← p_1_0]; exact hI.1 292 (by decide)
  have c_r_1 := congrArg Int32.toInt p_1_0
  refine lv_iconst (v := 1) hx hb dX12_saidFrom_7 (by decide) ?_
  refine lv_iadd hx hb dX12_saidFrom_8 ?_
  refine lv_topi (fun x_2 ex_2 => ?_)
  have q_2 : x_2.toInt = r_1.toInt + 1 := i_pl rfl (by decide) ex_2 (by omega) (by omega)
  refine lv_iload_n hx hb dX12_saidFrom_9 rfl (lv_at hl 2 rfl) ?_
  refine lv_iconst (v := 1) hx hb dX12_saidFrom_10 (by decide) ?_
  refine th_Si (As := [.int x1, .int 1]) (rest := [.int x_2, .int 0]) E hml hl.1 (y_greater_v4 l D cI cS τ ρ hW H hT_1 x1) lk_X12_103 yd_X12_greater hS_1 (fun _ h => h.elim) ⟨by decide, by decide⟩ (Nat.le_of_ble_eq_true rfl) ⟨by decide, by decide⟩ rfl dX12_saidFrom_11 (fun r_3 H_3 locs_3 p_3 hT_3 hk_3 hS_3 => ?_)
  have p_3 : H = H_3 ∧ (x1.toInt ≤ r_3.toInt ∧ 1 ≤ r_3.toInt ∧ (r_3.toInt = x1.toInt ∨ r_3.toInt = 1)) := p_3
  obtain ⟨rfl, p_3_0⟩ := p_3
  refine lv_isub hx hb dX12_saidFrom_14 ?_
  refine lv_topi (fun x_4 ex_4 => ?_)
  have q_4 : x_4.toInt = x_2.toInt - r_3.toInt := i_mi rfl rfl ex_4 (by omega) (by omega)
  refine th_Si (As := [.int 0, .int x_4]) (rest := []) E hml hl.1 (y_greater_v5 l D cI cS τ ρ hW H hT_3 x_4) lk_X12_103 yd_X12_greater hS_3 (fun _ h => h.elim) ⟨by decide, by decide⟩ (Nat.le_of_ble_eq_true rfl) ⟨by decide, by decide⟩ rfl dX12_saidFrom_15 (fun r_5 H_5 locs_5 p_5 hT_5 hk_5 hS_5 => ?_)
  have p_5 : H = H_5 ∧ (0 ≤ r_5.toInt ∧ x_4.toInt ≤ r_5.toInt ∧ (r_5.toInt = 0 ∨ r_5.toInt = x_4.toInt)) := p_5
  obtain ⟨rfl, p_5_0⟩ := p_5
  exact th_iret E hr hlk hs hT_5 hS_5 ⟨rfl, (by have : (ai H (ρ a0 0) 292).toInt = (r_1 : Int32).toInt := congrArg Int32.toInt p_1_0; omega)⟩ dX12_saidFrom_18
set_option maxHeartbeats 4000000 in
set_option maxRecDepth 100000 in
/-- the reference: get -/
theorem y_get_v34 (l : Launch) (D : va_G) (cI cS : ClassId) (τ : Nat → Option Nat) (ρ : Nat → Nat → Nat) (hW : WF τ ρ) (H : Heap) (hT : TH D cI cS τ ρ H) (a0 : Nat) (ha0 : τ a0 = some 12) : MI l D cI cS τ ρ yX12_get cX12_get 3 (some .int) 0 0 H [.ref a0, .int 1, .int 13] (fun (r : Int32) (u : Heap) => (H = u) ∧ (ai H (ρ a0 0) 301 = r)) (fun q => False) := by
  refine MI.of (by decide) (Nat.le_of_ble_eq_true rfl) ?_
  intro p e s m args below meth c E hml hr hlk hs ls hl
  have hx := E.1
  have hb := E.2.1
  have hown := E.2.2.1
  have hts := E.2.2.2.1
  have hS : SS (fun q => False) H H [] := SS.rf
  have hl : lv_has ls 3 [(0, .ref a0), (1, .int 1), (2, .int 13)] := hl
  refine lv_aload_n hx hb dX12_get_0 rfl (lv_at hl 0 rfl) ?_
  refine gf_X12_7 E hT hW ha0 dX12_get_1 (fun h_1 => ?_)
  refine lv_sipush (v := 288) hx hb dX12_get_4 (by decide) ?_
  refine lv_iload_n hx hb dX12_get_7 rfl (lv_at hl 1 rfl) ?_
  refine lv_imul hx hb dX12_get_8 ?_
  refine th_topi (y := 288) (by decide) ?_
  refine lv_iload_n hx hb dX12_get_9 rfl (lv_at hl 2 rfl) ?_
  refine lv_iadd hx hb dX12_get_10 ?_
  refine th_topi (y := 301) (by decide) ?_
  refine th_iald E hT h_1 (by decide) (vp_in_iff.mpr ⟨by decide, by decide⟩) dX12_get_11 ?_
  refine th_topi (y := ai H (ρ a0 0) 301) rfl ?_
  refine lv_topi (fun x_2 ex_2 => ?_)
  have c_x_2 := congrArg Int32.toInt ex_2.symm
  exact th_iret E hr hlk hs hT hS ⟨rfl, ex_2.symm⟩ dX12_get_12
set_option maxHeartbeats 4000000 in
set_option maxRecDepth 100000 in
/-- the reference: isIn -/
theorem y_isIn_v2 (l : Launch) (D : va_G) (cI cS : ClassId) (τ : Nat → Option Nat) (ρ : Nat → Nat → Nat) (hW : WF τ ρ) (H : Heap) (hT : TH D cI cS τ ρ H) (a0 : Nat) (ha0 : τ a0 = some 12) : MI l D cI cS τ ρ yX12_isIn cX12_isIn 4 (some .boolean) 1 22 H [.ref a0, .int 1, .int 4, .int 7] (fun (r : Int32) (u : Heap) => (H = u) ∧ (r = 0 ∨ r = 1) ∧ ((r.toInt = 1 ∧ ((ai H (ρ a0 0) 288).toInt = 4 ∨ (ai H (ρ a0 0) 288).toInt = 7)) ∨ (r.toInt = 0 ∧ ¬ (ai H (ρ a0 0) 288).toInt = 4 ∧ ¬ (ai H (ρ a0 0) 288).toInt = 7))) (fun q => False) := by
  refine MI.of (by decide) (Nat.le_of_ble_eq_true rfl) ?_
  intro p e s m args below meth c E hml hr hlk hs ls hl
  have hx := E.1
  have hb := E.2.1
  have hown := E.2.2.1
  have hts := E.2.2.2.1
  have hS : SS (fun q => False) H H [] := SS.rf
  have hl : lv_has ls 4 [(0, .ref a0), (1, .int 1), (2, .int 4), (3, .int 7)] := hl
  refine lv_aload_n hx hb dX12_isIn_0 rfl (lv_at hl 0 rfl) ?_
  refine lv_iload_n hx hb dX12_isIn_1 rfl (lv_at hl 1 rfl) ?_
  refine lv_iconst (v := 0) hx hb dX12_isIn_2 (by decide) ?_
  refine th_Vi (As := [.int 1, .int 0]) (rest := []) E hml hl.1 (y_get_v20 l D cI cS τ ρ hW H hT a0 ha0) lk_X12_99 yd_X12_get hT ha0 rfl (by decide) hS (fun _ h => h.elim) ⟨by decide, by decide⟩ (Nat.le_of_ble_eq_true rfl) ⟨by decide, by decide⟩ rfl dX12_isIn_3 (fun r_1 H_1 locs_1 p_1 hT_1 hk_1 hS_1 => ?_)
  have p_1 : H = H_1 ∧ (ai H (ρ a0 0) 288 = r_1) := p_1
  obtain ⟨rfl, p_1_0⟩ := p_1
  have c_r_1 := congrArg Int32.toInt p_1_0
  refine lv_iload_n hx hb dX12_isIn_6 rfl (lv_at hl 2 rfl) ?_
  refine lv_icmp_eq (tgt := 20) hx hb dX12_isIn_7 (by decide) (fun c_2 => ?_) (fun c_2 => ?_)
  · have f_2 : r_1.toInt = 4 := r_eq rfl (by decide) c_2
    refine lv_iconst (v := 1) hx hb dX12_isIn_20 (by decide) ?_
    refine lv_goto (tgt := 25) hx hb dX12_isIn_21 (by decide) ?_
    exact th_zret E hr hlk hs (Or.inr rfl) hT_1 hS_1 ⟨rfl, (Or.inr rfl), (by have : (1 : Int32).toInt = 1 := (by decide); have : (ai H (ρ a0 0) 288).toInt = (r_1 : Int32).toInt := congrArg Int32.toInt p_1_0; omega)⟩ dX12_isIn_25
  · have f_2 : ¬ r_1.toInt = 4 := r_ne rfl (by decide) c_2
    refine lv_aload_n hx hb dX12_isIn_10 rfl (lv_at hl 0 rfl) ?_
    refine lv_iload_n hx hb dX12_isIn_11 rfl (lv_at hl 1 rfl) ?_
    refine lv_iconst (v := 0) hx hb dX12_isIn_12 (by decide) ?_
    refine th_Vi (As := [.int 1, .int 0]) (rest := []) E hml hl.1 (y_get_v20 l D cI cS τ ρ hW H hT_1 a0 ha0) lk_X12_99 yd_X12_get hT_1 ha0 rfl (by decide) hS_1 (fun _ h => h.elim) ⟨by decide, by decide⟩ (Nat.le_of_ble_eq_true rfl) ⟨by decide, by decide⟩ rfl dX12_isIn_13 (fun r_3 H_3 locs_3 p_3 hT_3 hk_3 hS_3 => ?_)
    have p_3 : H = H_3 ∧ (ai H (ρ a0 0) 288 = r_3) := p_3
    obtain ⟨rfl, p_3_0⟩ := p_3
    have s_3 : r_3 = r_1 := p_3_0.symm.trans p_1_0
    refine th_topi s_3 ?_
    refine lv_iload_n hx hb dX12_isIn_16 rfl (lv_at hl 3 rfl) ?_
    refine lv_icmp_ne (tgt := 24) hx hb dX12_isIn_17 (by decide) (fun c_4 => ?_) (fun c_4 => ?_)
    · have f_4 : ¬ r_1.toInt = 7 := r_ne rfl (by decide) c_4
      refine lv_iconst (v := 0) hx hb dX12_isIn_24 (by decide) ?_
      exact th_zret E hr hlk hs (Or.inl rfl) hT_3 hS_3 ⟨rfl, (Or.inl rfl), (by have : (0 : Int32).toInt = 0 := (by decide); have : (ai H (ρ a0 0) 288).toInt = (r_1 : Int32).toInt := congrArg Int32.toInt p_1_0; omega)⟩ dX12_isIn_25
    · have f_4 : r_1.toInt = 7 := r_eq rfl (by decide) c_4
      refine lv_iconst (v := 1) hx hb dX12_isIn_20 (by decide) ?_
      refine lv_goto (tgt := 25) hx hb dX12_isIn_21 (by decide) ?_
      exact th_zret E hr hlk hs (Or.inr rfl) hT_3 hS_3 ⟨rfl, (Or.inr rfl), (by have : (1 : Int32).toInt = 1 := (by decide); have : (ai H (ρ a0 0) 288).toInt = (r_1 : Int32).toInt := congrArg Int32.toInt p_1_0; omega)⟩ dX12_isIn_25
set_option maxHeartbeats 4000000 in
set_option maxRecDepth 100000 in
/-- the reference: get -/
theorem y_get_v35 (l : Launch) (D : va_G) (cI cS : ClassId) (τ : Nat → Option Nat) (ρ : Nat → Nat → Nat) (hW : WF τ ρ) (H : Heap) (hT : TH D cI cS τ ρ H) (a0 : Nat) (ha0 : τ a0 = some 12) : MI l D cI cS τ ρ yX12_get cX12_get 3 (some .int) 0 0 H [.ref a0, .int 1, .int 14] (fun (r : Int32) (u : Heap) => (H = u) ∧ (ai H (ρ a0 0) 302 = r)) (fun q => False) := by
  refine MI.of (by decide) (Nat.le_of_ble_eq_true rfl) ?_
  intro p e s m args below meth c E hml hr hlk hs ls hl
  have hx := E.1
  have hb := E.2.1
  have hown := E.2.2.1
  have hts := E.2.2.2.1
  have hS : SS (fun q => False) H H [] := SS.rf
  have hl : lv_has ls 3 [(0, .ref a0), (1, .int 1), (2, .int 14)] := hl
  refine lv_aload_n hx hb dX12_get_0 rfl (lv_at hl 0 rfl) ?_
  refine gf_X12_7 E hT hW ha0 dX12_get_1 (fun h_1 => ?_)
  refine lv_sipush (v := 288) hx hb dX12_get_4 (by decide) ?_
  refine lv_iload_n hx hb dX12_get_7 rfl (lv_at hl 1 rfl) ?_
  refine lv_imul hx hb dX12_get_8 ?_
  refine th_topi (y := 288) (by decide) ?_
  refine lv_iload_n hx hb dX12_get_9 rfl (lv_at hl 2 rfl) ?_
  refine lv_iadd hx hb dX12_get_10 ?_
  refine th_topi (y := 302) (by decide) ?_
  refine th_iald E hT h_1 (by decide) (vp_in_iff.mpr ⟨by decide, by decide⟩) dX12_get_11 ?_
  refine th_topi (y := ai H (ρ a0 0) 302) rfl ?_
  refine lv_topi (fun x_2 ex_2 => ?_)
  have c_x_2 := congrArg Int32.toInt ex_2.symm
  exact th_iret E hr hlk hs hT hS ⟨rfl, ex_2.symm⟩ dX12_get_12
set_option maxHeartbeats 4000000 in
set_option maxRecDepth 100000 in
/-- the reference: data -/
theorem y_data_v5 (l : Launch) (D : va_G) (cI cS : ClassId) (τ : Nat → Option Nat) (ρ : Nat → Nat → Nat) (hW : WF τ ρ) (H : Heap) (hT : TH D cI cS τ ρ H) (a0 : Nat) (x1 : Int32) (x2 : Int32) (ha0 : τ a0 = some 12) (N : Int) (hN0 : 0 ≤ N) (hN1 : N ≤ 600) (hI : IM D ρ N H a0) (hp0 : 0 ≤ x1.toInt ∧ x1.toInt ≤ 700) (hp1 : 0 ≤ x2.toInt ∧ x2.toInt ≤ 8) : MV l D cI cS τ ρ yX12_data cX12_data 6 none 5 115 H [.ref a0, .int 1, .int x1, .int x2, .int 0] (fun (u : Heap) => (IM D ρ N u a0) ∧ ((ai H (ρ a0 0) 976).toInt ≤ (ai u (ρ a0 0) 976).toInt)) (fun q => q = ρ a0 2 ∨ q = ρ a0 0) := by
  refine MV.of (by decide) (Nat.le_of_ble_eq_true rfl) ?_
  intro p e s m args below meth c E hml hr hlk hs ls hl
  have hx := E.1
  have hb := E.2.1
  have hown := E.2.2.1
  have hts := E.2.2.2.1
  have hS : SS (fun q => q = ρ a0 2 ∨ q = ρ a0 0) H H [] := SS.rf
  have hl : lv_has ls 6 [(0, .ref a0), (1, .int 1), (2, .int x1), (3, .int x2), (4, .int 0)] := hl
  have n01 := hI.2.2.2.2.2.1
  have n23 := hI.2.2.2.2.2.2.1
  have J_103 : ∀ (H_c103 : Heap) (lc_c103 : List Loc) (ls : Array Slot) (y103_5 : Int32) (z103_2 : Int32), TH D cI cS τ ρ H_c103 → SS (fun q => q = ρ a0 2 ∨ q = ρ a0 0) H H_c103 lc_c103 → lv_has ls 6 [(0, .ref a0), (1, .int 1), (2, .int x1), (3, .int x2), (4, .int 0), (5, .int y103_5)] → 0 ≤ x1.toInt → x1.toInt ≤ 700 → 0 ≤ x2.toInt → x2.toInt ≤ 8 → 0 ≤ y103_5.toInt → y103_5.toInt ≤ 8 → IM D ρ N H_c103 a0 → (ai H (ρ a0 0) 976).toInt ≤ (ai H_c103 (ρ a0 0) 976).toInt → W p l e (rmO 5 115) s m args below meth c H_c103 lc_c103 0 0 (MQ below (va_Qv (fun (u : Heap) => (IM D ρ N u a0) ∧ ((ai H (ρ a0 0) 976).toInt ≤ (ai u (ρ a0 0) 976).toInt)) (Bt D cI cS τ ρ H) (fun q => q = ρ a0 2 ∨ q = ρ a0 0)) args s 0 0 (fun q => q = ρ a0 2 ∨ q = ρ a0 0)) (F0 m 103 ls [.int z103_2, .int 7, .ref (ρ a0 2)]) := by
    intro H_c103 lc_c103 ls y103_5 z103_2 hT_c103 hS_c103 hl ly103_2 uy103_2 ly103_3 uy103_3 ly103_5 uy103_5 hI_c103 hmn_c103
    refine th_iast E hT_c103 hS_c103 (hW _ 12 2 ha0 (by decide) (by decide) (by decide)) (Or.inl rfl) (by decide) (vp_in_iff.mpr ⟨by decide, by decide⟩) dX12_data_103 (fun H_1 locs_1 hT_1 hU_1 hS_1 => ?_)
    have hU_1 : AU 20 H_c103 H_1 (ρ a0 2) 7 z103_2 := hU_1
    have hL_1 : PL H_1 (ρ a0 2) := PL.put hI_c103.2.2.2.1 hU_1 (by show (-2147483648 : Int) ≤ _; exact i_min _) (by show _ ≤ (2147483647 : Int); exact i_max _)
    refine lv_aload_n hx hb dX12_data_104 rfl (lv_at hl 0 rfl) ?_
    refine th_Vv (As := []) (rest := []) E hml hl.1 (y_posts l D cI cS τ ρ hW H_1 hT_1 a0 ha0 N hN0 hN1 ⟨(PW.q (hU_1.2 _ (th_ne (hW _ 12 0 ha0 (by decide) (by decide) (by decide)) (hW _ 12 2 ha0 (by decide) (by decide) (by decide)) (by decide))) hI_c103.1), (QS.same (ai_q (hU_1.2 _ (th_ne (hW _ 12 0 ha0 (by decide) (by decide) (by decide)) (hW _ 12 2 ha0 (by decide) (by decide) (by decide)) (by decide)))) (ai_q (hU_1.2 _ (th_ne (hW _ 12 0 ha0 (by decide) (by decide) (by decide)) (hW _ 12 2 ha0 (by decide) (by decide) (by decide)) (by decide)))) hI_c103.2.1), (QS.same (ai_q (hU_1.2 _ (th_ne (hW _ 12 0 ha0 (by decide) (by decide) (by decide)) (hW _ 12 2 ha0 (by decide) (by decide) (by decide)) (by decide)))) (ai_q (hU_1.2 _ (th_ne (hW _ 12 0 ha0 (by decide) (by decide) (by decide)) (hW _ 12 2 ha0 (by decide) (by decide) (by decide)) (by decide)))) hI_c103.2.2.1), hL_1, (PL.q (hU_1.2 _ (Ne.symm n23)) hI_c103.2.2.2.2.1), (IF.q (hU_1.2 _ (th_ne ha0 (hW _ 12 2 ha0 (by decide) (by decide) (by decide)) (by decide))) hI_c103.2.2.2.2.2)⟩) lk_X12_129 yd_X12_posts hT_1 ha0 rfl (by decide) hS_1 (fun q h => (Or.inr h)) ⟨by decide, by decide⟩ (Nat.le_of_ble_eq_true rfl) ⟨by decide, by decide⟩ rfl dX12_data_105 (fun H_2 locs_2 p_2 hT_2 hk_2 hS_2 => ?_)
    have p_2 : (IM D ρ N H_2 a0) ∧ ((ai H_1 (ρ a0 0) 976).toInt ≤ (ai H_2 (ρ a0 0) 976).toInt) := p_2
    obtain ⟨p_2_0, p_2_1⟩ := p_2
    have mn_2 : (ai H_c103 (ρ a0 0) 976).toInt ≤ (ai H_2 (ρ a0 0) 976).toInt := by have h := p_2_1; rw [(ai_q (hU_1.2 _ (th_ne (hW _ 12 0 ha0 (by decide) (by decide) (by decide)) (hW _ 12 2 ha0 (by decide) (by decide) (by decide)) (by decide))))] at h; exact h
    exact th_vret E hr hlk hs hT_2 hS_2 ⟨⟨p_2_0.1, p_2_0.2.1, p_2_0.2.2.1, p_2_0.2.2.2.1, p_2_0.2.2.2.2.1, p_2_0.2.2.2.2.2⟩, (by omega)⟩ dX12_data_108
  have L_32 : ∀ (n : Nat) (H_c32 : Heap) (lc_c32 : List Loc) (ls : Array Slot) (y32_5 : Int32), TH D cI cS τ ρ H_c32 → SS (fun q => q = ρ a0 2 ∨ q = ρ a0 0) H H_c32 lc_c32 → lv_has ls 6 [(0, .ref a0), (1, .int 1), (2, .int x1), (3, .int x2), (4, .int 0), (5, .int y32_5)] → 0 ≤ x1.toInt → x1.toInt ≤ 700 → 0 ≤ x2.toInt → x2.toInt ≤ 8 → 0 ≤ y32_5.toInt → y32_5.toInt ≤ 8 → IM D ρ N H_c32 a0 → (ai H (ρ a0 0) 976).toInt ≤ (ai H_c32 (ρ a0 0) 976).toInt → (x2.toInt - y32_5.toInt).toNat < n → W p l e (rmO 5 115) s m args below meth c H_c32 lc_c32 0 0 (MQ below (va_Qv (fun (u : Heap) => (IM D ρ N u a0) ∧ ((ai H (ρ a0 0) 976).toInt ≤ (ai u (ρ a0 0) 976).toInt)) (Bt D cI cS τ ρ H) (fun q => q = ρ a0 2 ∨ q = ρ a0 0)) args s 0 0 (fun q => q = ρ a0 2 ∨ q = ρ a0 0)) (F0 m 32 ls []) := by
    intro n
    induction n with
    | zero => intro H_c32 lc_c32 ls y32_5 hT_c32 hS_c32 hl ly32_2 uy32_2 ly32_3 uy32_3 ly32_5 uy32_5 hI_c32 hmn_c32 hm; exact absurd hm (Nat.not_lt_zero _)
    | succ n ih_32 =>
      intro H_c32 lc_c32 ls y32_5 hT_c32 hS_c32 hl ly32_2 uy32_2 ly32_3 uy32_3 ly32_5 uy32_5 hI_c32 hmn_c32 hm_32
      refine lv_iload hx hb dX12_data_32 (lv_at hl 5 rfl) ?_
      refine lv_iload_n hx hb dX12_data_34 rfl (lv_at hl 3 rfl) ?_
      refine lv_icmp_ge (tgt := 69) hx hb dX12_data_35 (by decide) (fun c_3 => ?_) (fun c_3 => ?_)
      · have f_3 : x2.toInt ≤ y32_5.toInt := r_le rfl rfl c_3
        refine lv_aload_n hx hb dX12_data_69 rfl (lv_at hl 0 rfl) ?_
        refine gf_X12_16 E hT_c32 hW ha0 dX12_data_70 (fun h_4 => ?_)
        refine lv_bipush (v := 7) hx hb dX12_data_73 (by decide) ?_
        refine lv_iload_n hx hb dX12_data_75 rfl (lv_at hl 2 rfl) ?_
        refine lv_aload_n hx hb dX12_data_76 rfl (lv_at hl 0 rfl) ?_
        refine lv_iload_n hx hb dX12_data_77 rfl (lv_at hl 1 rfl) ?_
        refine lv_bipush (v := 14) hx hb dX12_data_78 (by decide) ?_
        refine th_Vi (As := [.int 1, .int 14]) (rest := [.int x1, .int 7, .ref (ρ a0 2)]) E hml hl.1 (y_get_v35 l D cI cS τ ρ hW H_c32 hT_c32 a0 ha0) lk_X12_99 yd_X12_get hT_c32 ha0 rfl (by decide) hS_c32 (fun _ h => h.elim) ⟨by decide, by decide⟩ (Nat.le_of_ble_eq_true rfl) ⟨by decide, by decide⟩ rfl dX12_data_80 (fun r_5 H_5 locs_5 p_5 hT_5 hk_5 hS_5 => ?_)
        have p_5 : H_c32 = H_5 ∧ (ai H_c32 (ρ a0 0) 302 = r_5) := p_5
        obtain ⟨rfl, p_5_0⟩ := p_5
        have c_r_5 := congrArg Int32.toInt p_5_0
        refine lv_icmp_ge (tgt := 101) hx hb dX12_data_83 (by decide) (fun c_6 => ?_) (fun c_6 => ?_)
        · have f_6 : r_5.toInt ≤ x1.toInt := r_le rfl rfl c_6
          refine lv_bipush (v := (-4)) hx hb dX12_data_101 (by decide) ?_
          exact J_103 H_c32 locs_5 _ y32_5 (-4) hT_5 hS_5 hl (by omega) (by omega) (by omega) (by omega) (by omega) (by omega) ⟨hI_c32.1, hI_c32.2.1, hI_c32.2.2.1, hI_c32.2.2.2.1, hI_c32.2.2.2.2.1, hI_c32.2.2.2.2.2⟩ (by omega)
        · have f_6 : x1.toInt < r_5.toInt := r_nle rfl rfl c_6
          refine lv_aload_n hx hb dX12_data_86 rfl (lv_at hl 0 rfl) ?_
          refine lv_iload_n hx hb dX12_data_87 rfl (lv_at hl 1 rfl) ?_
          refine lv_aload_n hx hb dX12_data_88 rfl (lv_at hl 0 rfl) ?_
          refine lv_iload_n hx hb dX12_data_89 rfl (lv_at hl 1 rfl) ?_
          refine lv_bipush (v := 14) hx hb dX12_data_90 (by decide) ?_
          refine th_Vi (As := [.int 1, .int 14]) (rest := [.int 1, .ref a0, .int 7, .ref (ρ a0 2)]) E hml hl.1 (y_get_v35 l D cI cS τ ρ hW H_c32 hT_5 a0 ha0) lk_X12_99 yd_X12_get hT_5 ha0 rfl (by decide) hS_5 (fun _ h => h.elim) ⟨by decide, by decide⟩ (Nat.le_of_ble_eq_true rfl) ⟨by decide, by decide⟩ rfl dX12_data_92 (fun r_7 H_7 locs_7 p_7 hT_7 hk_7 hS_7 => ?_)
          have p_7 : H_c32 = H_7 ∧ (ai H_c32 (ρ a0 0) 302 = r_7) := p_7
          obtain ⟨rfl, p_7_0⟩ := p_7
          have s_7 : r_7 = r_5 := p_7_0.symm.trans p_5_0
          refine th_topi s_7 ?_
          refine th_Vi (As := [.int 1, .int r_5]) (rest := [.int 7, .ref (ρ a0 2)]) E hml hl.1 (y_number_v2 l D cI cS τ ρ hW H_c32 hT_7 a0 r_5 ha0) lk_X12_112 yd_X12_number hT_7 ha0 rfl (by decide) hS_7 (fun _ h => h.elim) ⟨by decide, by decide⟩ (Nat.le_of_ble_eq_true rfl) ⟨by decide, by decide⟩ rfl dX12_data_95 (fun r_8 H_8 locs_8 p_8 hT_8 hk_8 hS_8 => ?_)
          have p_8 : H_c32 = H_8 := p_8
          obtain rfl := p_8
          refine lv_goto (tgt := 103) hx hb dX12_data_98 (by decide) ?_
          exact J_103 H_c32 locs_8 _ y32_5 r_8 hT_8 hS_8 hl (by omega) (by omega) (by omega) (by omega) (by omega) (by omega) ⟨hI_c32.1, hI_c32.2.1, hI_c32.2.2.1, hI_c32.2.2.2.1, hI_c32.2.2.2.2.1, hI_c32.2.2.2.2.2⟩ (by omega)
      · have f_3 : y32_5.toInt < x2.toInt := r_nle rfl rfl c_3
        refine lv_aload_n hx hb dX12_data_38 rfl (lv_at hl 0 rfl) ?_
        refine gf_X12_16 E hT_c32 hW ha0 dX12_data_39 (fun h_9 => ?_)
        refine lv_bipush (v := 12) hx hb dX12_data_42 (by decide) ?_
        refine lv_iload hx hb dX12_data_44 (lv_at hl 5 rfl) ?_
        refine lv_iadd hx hb dX12_data_46 ?_
        refine lv_topi (fun x_10 ex_10 => ?_)
        have q_10 : x_10.toInt = 12 + y32_5.toInt := i_pl (by decide) rfl ex_10 (by omega) (by omega)
        refine lv_aload_n hx hb dX12_data_47 rfl (lv_at hl 0 rfl) ?_
        refine lv_iload_n hx hb dX12_data_48 rfl (lv_at hl 1 rfl) ?_
        refine lv_bipush (v := 32) hx hb dX12_data_49 (by decide) ?_
        refine lv_iload_n hx hb dX12_data_51 rfl (lv_at hl 2 rfl) ?_
        refine lv_iload hx hb dX12_data_52 (lv_at hl 5 rfl) ?_
        refine lv_iadd hx hb dX12_data_54 ?_
        refine lv_topi (fun x_11 ex_11 => ?_)
        have q_11 : x_11.toInt = x1.toInt + y32_5.toInt := i_pl rfl rfl ex_11 (by omega) (by omega)
        refine lv_bipush (v := 64) hx hb dX12_data_55 (by decide) ?_
        refine lv_irem hx hb dX12_data_57 (by decide) ?_
        refine lv_topi (fun x_12 ex_12 => ?_)
        have q_12 := i_rem (k := 64) (x := x_11) (by decide) (by decide) ex_12
        have p_12 : 0 ≤ x_12.toInt := q_12.2.2 (by omega)
        refine lv_iadd hx hb dX12_data_58 ?_
        refine lv_topi (fun x_13 ex_13 => ?_)
        have q_13 : x_13.toInt = 32 + x_12.toInt := i_pl (by decide) rfl ex_13 (by omega) (by omega)
        refine th_Vi (As := [.int 1, .int x_13]) (rest := [.int x_10, .ref (ρ a0 2)]) E hml hl.1 (y_get_v6 l D cI cS τ ρ hW H_c32 hT_c32 a0 x_13 ha0 (by omega)) lk_X12_99 yd_X12_get hT_c32 ha0 rfl (by decide) hS_c32 (fun _ h => h.elim) ⟨by decide, by decide⟩ (Nat.le_of_ble_eq_true rfl) ⟨by decide, by decide⟩ rfl dX12_data_59 (fun r_14 H_14 locs_14 p_14 hT_14 hk_14 hS_14 => ?_)
        have p_14 : H_c32 = H_14 ∧ (ai H_c32 (ρ a0 0) (288 + x_13.toInt).toNat = r_14) := p_14
        obtain ⟨rfl, p_14_0⟩ := p_14
        refine th_iast E hT_14 hS_14 h_9 (Or.inl rfl) (by decide) (vp_in_iff.mpr ⟨by omega, by omega⟩) dX12_data_62 (fun H_15 locs_15 hT_15 hU_15 hS_15 => ?_)
        have hU_15 : AU 20 H_c32 H_15 (ρ a0 2) x_10.toInt.toNat r_14 := hU_15
        have hL_15 : PL H_15 (ρ a0 2) := PL.free hI_c32.2.2.2.1 hU_15 (by omega)
        obtain ⟨x_16, ex_16⟩ : ∃ y : Int32, y32_5 + 1 = y := ⟨_, rfl⟩
        have q_x_16 : x_16.toInt = y32_5.toInt + 1 := i_add (k := 1) (by decide) ex_16 (by have := i_min y32_5; omega) (by have := i_max y32_5; omega)
        refine lv_iinc (v := x_16) (lv' := [(5, .int x_16), (0, .ref a0), (1, .int 1), (2, .int x1), (3, .int x2), (4, .int 0)]) hx hb dX12_data_63 hl (k := 5) rfl (by rw [← ex_16]; rfl) (by decide) rfl (fun ls hl => ?_)
        refine lv_goto (tgt := 32) hx hb dX12_data_66 (by decide) ?_
        exact ih_32 H_15 locs_15 _ x_16 hT_15 hS_15 (lv_sub hl [1, 2, 3, 4, 5, 0] rfl) (by omega) (by omega) (by omega) (by omega) (by omega) (by omega) ⟨(PW.q (hU_15.2 _ (th_ne (hW _ 12 0 ha0 (by decide) (by decide) (by decide)) (hW _ 12 2 ha0 (by decide) (by decide) (by decide)) (by decide))) hI_c32.1), (QS.same (ai_q (hU_15.2 _ (th_ne (hW _ 12 0 ha0 (by decide) (by decide) (by decide)) (hW _ 12 2 ha0 (by decide) (by decide) (by decide)) (by decide)))) (ai_q (hU_15.2 _ (th_ne (hW _ 12 0 ha0 (by decide) (by decide) (by decide)) (hW _ 12 2 ha0 (by decide) (by decide) (by decide)) (by decide)))) hI_c32.2.1), (QS.same (ai_q (hU_15.2 _ (th_ne (hW _ 12 0 ha0 (by decide) (by decide) (by decide)) (hW _ 12 2 ha0 (by decide) (by decide) (by decide)) (by decide)))) (ai_q (hU_15.2 _ (th_ne (hW _ 12 0 ha0 (by decide) (by decide) (by decide)) (hW _ 12 2 ha0 (by decide) (by decide) (by decide)) (by decide)))) hI_c32.2.2.1), hL_15, (PL.q (hU_15.2 _ (Ne.symm n23)) hI_c32.2.2.2.2.1), (IF.q (hU_15.2 _ (th_ne ha0 (hW _ 12 2 ha0 (by decide) (by decide) (by decide)) (by decide))) hI_c32.2.2.2.2.2)⟩ (by rw [(ai_q (hU_15.2 _ (th_ne (hW _ 12 0 ha0 (by decide) (by decide) (by decide)) (hW _ 12 2 ha0 (by decide) (by decide) (by decide)) (by decide))))]; omega) (by omega)
  have J_13 : ∀ (H_c13 : Heap) (lc_c13 : List Loc) (ls : Array Slot), TH D cI cS τ ρ H_c13 → SS (fun q => q = ρ a0 2 ∨ q = ρ a0 0) H H_c13 lc_c13 → lv_has ls 6 [(0, .ref a0), (1, .int 1), (2, .int x1), (3, .int x2), (4, .int 0)] → 0 ≤ x1.toInt → x1.toInt ≤ 700 → 0 ≤ x2.toInt → x2.toInt ≤ 8 → IM D ρ N H_c13 a0 → (ai H (ρ a0 0) 976).toInt ≤ (ai H_c13 (ρ a0 0) 976).toInt → W p l e (rmO 5 115) s m args below meth c H_c13 lc_c13 0 0 (MQ below (va_Qv (fun (u : Heap) => (IM D ρ N u a0) ∧ ((ai H (ρ a0 0) 976).toInt ≤ (ai u (ρ a0 0) 976).toInt)) (Bt D cI cS τ ρ H) (fun q => q = ρ a0 2 ∨ q = ρ a0 0)) args s 0 0 (fun q => q = ρ a0 2 ∨ q = ρ a0 0)) (F0 m 13 ls [.int 4, .int 1, .ref a0]) := by
    intro H_c13 lc_c13 ls hT_c13 hS_c13 hl ly13_2 uy13_2 ly13_3 uy13_3 hI_c13 hmn_c13
    refine lv_aload_n hx hb dX12_data_13 rfl (lv_at hl 0 rfl) ?_
    refine lv_iload_n hx hb dX12_data_14 rfl (lv_at hl 1 rfl) ?_
    refine lv_iload_n hx hb dX12_data_15 rfl (lv_at hl 2 rfl) ?_
    refine th_Vi (As := [.int 1, .int x1]) (rest := [.int 4, .int 1, .ref a0]) E hml hl.1 (y_number_v2 l D cI cS τ ρ hW H_c13 hT_c13 a0 x1 ha0) lk_X12_112 yd_X12_number hT_c13 ha0 rfl (by decide) hS_c13 (fun _ h => h.elim) ⟨by decide, by decide⟩ (Nat.le_of_ble_eq_true rfl) ⟨by decide, by decide⟩ rfl dX12_data_16 (fun r_17 H_17 locs_17 p_17 hT_17 hk_17 hS_17 => ?_)
    have p_17 : H_c13 = H_17 := p_17
    obtain rfl := p_17
    refine th_Vv (As := [.int 1, .int 4, .int r_17]) (rest := []) E hml hl.1 (y_makes_v5 l D cI cS τ ρ hW H_c13 hT_17 a0 r_17 ha0 N hN0 hN1 ⟨hI_c13.1, hI_c13.2.1, hI_c13.2.2.1, hI_c13.2.2.2.1, hI_c13.2.2.2.2.1, hI_c13.2.2.2.2.2⟩) lk_X12_126 yd_X12_makes hT_17 ha0 rfl (by decide) hS_17 (fun q h => (Or.inl h)) ⟨by decide, by decide⟩ (Nat.le_of_ble_eq_true rfl) ⟨by decide, by decide⟩ rfl dX12_data_19 (fun H_18 locs_18 p_18 hT_18 hk_18 hS_18 => ?_)
    have p_18 : (IM D ρ N H_18 a0) ∧ ((ai H_c13 (ρ a0 0) 976).toInt ≤ (ai H_18 (ρ a0 0) 976).toInt) := p_18
    obtain ⟨p_18_0, p_18_1⟩ := p_18
    have mn_18 : (ai H_c13 (ρ a0 0) 976).toInt ≤ (ai H_18 (ρ a0 0) 976).toInt := by exact p_18_1
    refine lv_aload_n hx hb dX12_data_22 rfl (lv_at hl 0 rfl) ?_
    refine gf_X12_16 E hT_18 hW ha0 dX12_data_23 (fun h_19 => ?_)
    refine lv_iconst (v := 5) hx hb dX12_data_26 (by decide) ?_
    refine lv_iload_n hx hb dX12_data_27 rfl (lv_at hl 3 rfl) ?_
    refine th_iast E hT_18 hS_18 h_19 (Or.inl rfl) (by decide) (vp_in_iff.mpr ⟨by decide, by decide⟩) dX12_data_28 (fun H_20 locs_20 hT_20 hU_20 hS_20 => ?_)
    have hU_20 : AU 20 H_18 H_20 (ρ a0 2) 5 x2 := hU_20
    have hL_20 : PL H_20 (ρ a0 2) := PL.put p_18_0.2.2.2.1 hU_20 (by show (0 : Int) ≤ x2.toInt; omega) (by show x2.toInt ≤ (8 : Int); omega)
    refine lv_iconst (v := 0) hx hb dX12_data_29 (by decide) ?_
    refine lv_istore (lv' := [(5, .int 0), (0, .ref a0), (1, .int 1), (2, .int x1), (3, .int x2), (4, .int 0)]) hx hb dX12_data_30 hl (by decide) rfl (fun ls hl => ?_)
    exact L_32 _ H_20 locs_20 _ 0 hT_20 hS_20 (lv_sub hl [1, 2, 3, 4, 5, 0] rfl) (by omega) (by omega) (by omega) (by omega) (by decide) (by decide) ⟨(PW.q (hU_20.2 _ (th_ne (hW _ 12 0 ha0 (by decide) (by decide) (by decide)) (hW _ 12 2 ha0 (by decide) (by decide) (by decide)) (by decide))) p_18_0.1), (QS.same ((Eq.trans (ai_q (hU_20.2 _ (th_ne (hW _ 12 0 ha0 (by decide) (by decide) (by decide)) (hW _ 12 2 ha0 (by decide) (by decide) (by decide)) (by decide)))) (ai_q (hk_18 _ (th_ne (hW _ 12 0 ha0 (by decide) (by decide) (by decide)) (hW _ 12 2 ha0 (by decide) (by decide) (by decide)) (by decide))))).trans (ai_q (hk_18 _ (th_ne (hW _ 12 0 ha0 (by decide) (by decide) (by decide)) (hW _ 12 2 ha0 (by decide) (by decide) (by decide)) (by decide)))).symm) ((Eq.trans (ai_q (hU_20.2 _ (th_ne (hW _ 12 0 ha0 (by decide) (by decide) (by decide)) (hW _ 12 2 ha0 (by decide) (by decide) (by decide)) (by decide)))) (ai_q (hk_18 _ (th_ne (hW _ 12 0 ha0 (by decide) (by decide) (by decide)) (hW _ 12 2 ha0 (by decide) (by decide) (by decide)) (by decide))))).trans (ai_q (hk_18 _ (th_ne (hW _ 12 0 ha0 (by decide) (by decide) (by decide)) (hW _ 12 2 ha0 (by decide) (by decide) (by decide)) (by decide)))).symm) p_18_0.2.1), (QS.same ((Eq.trans (ai_q (hU_20.2 _ (th_ne (hW _ 12 0 ha0 (by decide) (by decide) (by decide)) (hW _ 12 2 ha0 (by decide) (by decide) (by decide)) (by decide)))) (ai_q (hk_18 _ (th_ne (hW _ 12 0 ha0 (by decide) (by decide) (by decide)) (hW _ 12 2 ha0 (by decide) (by decide) (by decide)) (by decide))))).trans (ai_q (hk_18 _ (th_ne (hW _ 12 0 ha0 (by decide) (by decide) (by decide)) (hW _ 12 2 ha0 (by decide) (by decide) (by decide)) (by decide)))).symm) ((Eq.trans (ai_q (hU_20.2 _ (th_ne (hW _ 12 0 ha0 (by decide) (by decide) (by decide)) (hW _ 12 2 ha0 (by decide) (by decide) (by decide)) (by decide)))) (ai_q (hk_18 _ (th_ne (hW _ 12 0 ha0 (by decide) (by decide) (by decide)) (hW _ 12 2 ha0 (by decide) (by decide) (by decide)) (by decide))))).trans (ai_q (hk_18 _ (th_ne (hW _ 12 0 ha0 (by decide) (by decide) (by decide)) (hW _ 12 2 ha0 (by decide) (by decide) (by decide)) (by decide)))).symm) p_18_0.2.2.1), hL_20, (PL.q (hU_20.2 _ (Ne.symm n23)) p_18_0.2.2.2.2.1), (IF.q (hU_20.2 _ (th_ne ha0 (hW _ 12 2 ha0 (by decide) (by decide) (by decide)) (by decide))) p_18_0.2.2.2.2.2)⟩ (by rw [(Eq.trans (ai_q (hU_20.2 _ (th_ne (hW _ 12 0 ha0 (by decide) (by decide) (by decide)) (hW _ 12 2 ha0 (by decide) (by decide) (by decide)) (by decide)))) (ai_q (hk_18 _ (th_ne (hW _ 12 0 ha0 (by decide) (by decide) (by decide)) (hW _ 12 2 ha0 (by decide) (by decide) (by decide)) (by decide)))))]; omega) (Nat.lt_succ_self _)
  refine lv_aload_n hx hb dX12_data_0 rfl (lv_at hl 0 rfl) ?_
  refine lv_iload_n hx hb dX12_data_1 rfl (lv_at hl 1 rfl) ?_
  refine lv_iload hx hb dX12_data_2 (lv_at hl 4 rfl) ?_
  refine lv_if_eq (tgt := 12) hx hb dX12_data_4 (by decide) (fun c_21 => ?_) (fun c_21 => absurd (by decide) c_21)
  refine lv_iconst (v := 4) hx hb dX12_data_12 (by decide) ?_
  exact J_13 H [] _ hT hS hl (by omega) (by omega) (by omega) (by omega) ⟨hI.1, hI.2.1, hI.2.2.1, hI.2.2.2.1, hI.2.2.2.2.1, hI.2.2.2.2.2⟩ (by omega)
set_option maxHeartbeats 4000000 in
set_option maxRecDepth 100000 in
/-- the reference: set -/
theorem y_set_v48 (l : Launch) (D : va_G) (cI cS : ClassId) (τ : Nat → Option Nat) (ρ : Nat → Nat → Nat) (hW : WF τ ρ) (H : Heap) (hT : TH D cI cS τ ρ H) (a0 : Nat) (x2 : Int32) (ha0 : τ a0 = some 12) : MV l D cI cS τ ρ yX12_set cX12_set 4 none 0 0 H [.ref a0, .int 1, .int 16, .int x2] (fun (u : Heap) => (AU 985 H u (ρ a0 0) 304 x2)) (fun q => q = ρ a0 0) := by
  refine MV.of (by decide) (Nat.le_of_ble_eq_true rfl) ?_
  intro p e s m args below meth c E hml hr hlk hs ls hl
  have hx := E.1
  have hb := E.2.1
  have hown := E.2.2.1
  have hts := E.2.2.2.1
  have hS : SS (fun q => q = ρ a0 0) H H [] := SS.rf
  have hl : lv_has ls 4 [(0, .ref a0), (1, .int 1), (2, .int 16), (3, .int x2)] := hl
  refine lv_aload_n hx hb dX12_set_0 rfl (lv_at hl 0 rfl) ?_
  refine gf_X12_7 E hT hW ha0 dX12_set_1 (fun h_1 => ?_)
  refine lv_sipush (v := 288) hx hb dX12_set_4 (by decide) ?_
  refine lv_iload_n hx hb dX12_set_7 rfl (lv_at hl 1 rfl) ?_
  refine lv_imul hx hb dX12_set_8 ?_
  refine th_topi (y := 288) (by decide) ?_
  refine lv_iload_n hx hb dX12_set_9 rfl (lv_at hl 2 rfl) ?_
  refine lv_iadd hx hb dX12_set_10 ?_
  refine th_topi (y := 304) (by decide) ?_
  refine lv_iload_n hx hb dX12_set_11 rfl (lv_at hl 3 rfl) ?_
  refine th_iast E hT hS h_1 rfl (by decide) (vp_in_iff.mpr ⟨by decide, by decide⟩) dX12_set_12 (fun H_2 locs_2 hT_2 hU_2 hS_2 => ?_)
  have hU_2 : AU 985 H H_2 (ρ a0 0) 304 x2 := hU_2
  exact th_vret E hr hlk hs hT_2 hS_2 hU_2 dX12_set_13
set_option maxHeartbeats 4000000 in
set_option maxRecDepth 100000 in
/-- the reference: set -/
theorem y_set_v49 (l : Launch) (D : va_G) (cI cS : ClassId) (τ : Nat → Option Nat) (ρ : Nat → Nat → Nat) (hW : WF τ ρ) (H : Heap) (hT : TH D cI cS τ ρ H) (a0 : Nat) (x2 : Int32) (ha0 : τ a0 = some 12) : MV l D cI cS τ ρ yX12_set cX12_set 4 none 0 0 H [.ref a0, .int 1, .int 18, .int x2] (fun (u : Heap) => (AU 985 H u (ρ a0 0) 306 x2)) (fun q => q = ρ a0 0) := by
  refine MV.of (by decide) (Nat.le_of_ble_eq_true rfl) ?_
  intro p e s m args below meth c E hml hr hlk hs ls hl
  have hx := E.1
  have hb := E.2.1
  have hown := E.2.2.1
  have hts := E.2.2.2.1
  have hS : SS (fun q => q = ρ a0 0) H H [] := SS.rf
  have hl : lv_has ls 4 [(0, .ref a0), (1, .int 1), (2, .int 18), (3, .int x2)] := hl
  refine lv_aload_n hx hb dX12_set_0 rfl (lv_at hl 0 rfl) ?_
  refine gf_X12_7 E hT hW ha0 dX12_set_1 (fun h_1 => ?_)
  refine lv_sipush (v := 288) hx hb dX12_set_4 (by decide) ?_
  refine lv_iload_n hx hb dX12_set_7 rfl (lv_at hl 1 rfl) ?_
  refine lv_imul hx hb dX12_set_8 ?_
  refine th_topi (y := 288) (by decide) ?_
  refine lv_iload_n hx hb dX12_set_9 rfl (lv_at hl 2 rfl) ?_
  refine lv_iadd hx hb dX12_set_10 ?_
  refine th_topi (y := 306) (by decide) ?_
  refine lv_iload_n hx hb dX12_set_11 rfl (lv_at hl 3 rfl) ?_
  refine th_iast E hT hS h_1 rfl (by decide) (vp_in_iff.mpr ⟨by decide, by decide⟩) dX12_set_12 (fun H_2 locs_2 hT_2 hU_2 hS_2 => ?_)
  have hU_2 : AU 985 H H_2 (ρ a0 0) 306 x2 := hU_2
  exact th_vret E hr hlk hs hT_2 hS_2 hU_2 dX12_set_13
set_option maxHeartbeats 4000000 in
set_option maxRecDepth 100000 in
/-- the reference: times -/
theorem y_times_v2 (l : Launch) (D : va_G) (cI cS : ClassId) (τ : Nat → Option Nat) (ρ : Nat → Nat → Nat) (hW : WF τ ρ) (H : Heap) (hT : TH D cI cS τ ρ H) (a0 : Nat) (x1 : Int32) (ha0 : τ a0 = some 12) (N : Int) (hN0 : 0 ≤ N) (hN1 : N ≤ 600) (hI : IM D ρ N H a0) : MV l D cI cS τ ρ yX12_times cX12_times 3 none 1 23 H [.ref a0, .int 1, .int x1] (fun (u : Heap) => (IM D ρ N u a0) ∧ ((ai H (ρ a0 0) 976).toInt ≤ (ai u (ρ a0 0) 976).toInt)) (fun q => q = ρ a0 0) := by
  refine MV.of (by decide) (Nat.le_of_ble_eq_true rfl) ?_
  intro p e s m args below meth c E hml hr hlk hs ls hl
  have hx := E.1
  have hb := E.2.1
  have hown := E.2.2.1
  have hts := E.2.2.2.1
  have hS : SS (fun q => q = ρ a0 0) H H [] := SS.rf
  have hl : lv_has ls 3 [(0, .ref a0), (1, .int 1), (2, .int x1)] := hl
  have n01 := hI.2.2.2.2.2.1
  have n23 := hI.2.2.2.2.2.2.1
  refine lv_aload_n hx hb dX12_times_0 rfl (lv_at hl 0 rfl) ?_
  refine lv_iload_n hx hb dX12_times_1 rfl (lv_at hl 1 rfl) ?_
  refine lv_bipush (v := 16) hx hb dX12_times_2 (by decide) ?_
  refine th_Vi (As := [.int 1, .int 16]) (rest := []) E hml hl.1 (y_get_v30 l D cI cS τ ρ hW H hT a0 ha0) lk_X12_99 yd_X12_get hT ha0 rfl (by decide) hS (fun _ h => h.elim) ⟨by decide, by decide⟩ (Nat.le_of_ble_eq_true rfl) ⟨by decide, by decide⟩ rfl dX12_times_4 (fun r_1 H_1 locs_1 p_1 hT_1 hk_1 hS_1 => ?_)
  have p_1 : H = H_1 ∧ (ai H (ρ a0 0) 304 = r_1) := p_1
  obtain ⟨rfl, p_1_0⟩ := p_1
  have c_r_1 := congrArg Int32.toInt p_1_0
  refine lv_bipush (v := (-4)) hx hb dX12_times_7 (by decide) ?_
  refine lv_icmp_ne (tgt := 35) hx hb dX12_times_9 (by decide) (fun c_2 => ?_) (fun c_2 => ?_)
  · have f_2 : ¬ r_1.toInt = -4 := r_ne rfl (by decide) c_2
    exact th_vret E hr hlk hs hT_1 hS_1 ⟨⟨hI.1, hI.2.1, hI.2.2.1, hI.2.2.2.1, hI.2.2.2.2.1, hI.2.2.2.2.2⟩, (by omega)⟩ dX12_times_35
  · have f_2 : r_1.toInt = -4 := r_eq rfl (by decide) c_2
    refine lv_aload_n hx hb dX12_times_12 rfl (lv_at hl 0 rfl) ?_
    refine lv_iload_n hx hb dX12_times_13 rfl (lv_at hl 1 rfl) ?_
    refine lv_bipush (v := 16) hx hb dX12_times_14 (by decide) ?_
    refine lv_iload_n hx hb dX12_times_16 rfl (lv_at hl 2 rfl) ?_
    refine th_Vv (As := [.int 1, .int 16, .int x1]) (rest := []) E hml hl.1 (y_set_v48 l D cI cS τ ρ hW H hT_1 a0 x1 ha0) lk_X12_95 yd_X12_set hT_1 ha0 rfl (by decide) hS_1 (fun q h => h) ⟨by decide, by decide⟩ (Nat.le_of_ble_eq_true rfl) ⟨by decide, by decide⟩ rfl dX12_times_17 (fun H_3 locs_3 p_3 hT_3 hk_3 hS_3 => ?_)
    have p_3 : (AU 985 H H_3 (ρ a0 0) 304 x1) := p_3
    have hW_3 : PW N H_3 (ρ a0 0) := PW.put hI.1 p_3 (by show (-2147483648 : Int) ≤ _; exact i_min _) (by show _ ≤ (2147483647 : Int); exact i_max _)
    refine lv_aload_n hx hb dX12_times_20 rfl (lv_at hl 0 rfl) ?_
    refine lv_iload_n hx hb dX12_times_21 rfl (lv_at hl 1 rfl) ?_
    refine lv_bipush (v := 18) hx hb dX12_times_22 (by decide) ?_
    refine lv_aload_n hx hb dX12_times_24 rfl (lv_at hl 0 rfl) ?_
    refine gf_X12_7 E hT_3 hW ha0 dX12_times_25 (fun h_4 => ?_)
    refine lv_sipush (v := 977) hx hb dX12_times_28 (by decide) ?_
    refine th_iald E hT_3 h_4 (by decide) (vp_in_iff.mpr ⟨by decide, by decide⟩) dX12_times_31 ?_
    refine th_topi (y := ai H_3 (ρ a0 0) 977) rfl ?_
    refine th_topi (y := ai H (ρ a0 0) 977) (AU.o p_3 (by decide) (by decide)) ?_
    refine lv_topi (fun x_5 ex_5 => ?_)
    have c_x_5 := congrArg Int32.toInt ex_5.symm
    refine th_Vv (As := [.int 1, .int 18, .int x_5]) (rest := []) E hml hl.1 (y_set_v49 l D cI cS τ ρ hW H_3 hT_3 a0 x_5 ha0) lk_X12_95 yd_X12_set hT_3 ha0 rfl (by decide) hS_3 (fun q h => h) ⟨by decide, by decide⟩ (Nat.le_of_ble_eq_true rfl) ⟨by decide, by decide⟩ rfl dX12_times_32 (fun H_6 locs_6 p_6 hT_6 hk_6 hS_6 => ?_)
    have p_6 : (AU 985 H_3 H_6 (ρ a0 0) 306 x_5) := p_6
    have hW_6 : PW N H_6 (ρ a0 0) := PW.put hW_3 p_6 (by show (-2147483648 : Int) ≤ _; exact i_min _) (by show _ ≤ (2147483647 : Int); exact i_max _)
    exact th_vret E hr hlk hs hT_6 hS_6 ⟨⟨hW_6, (QS.same (Eq.trans (AU.o p_6 (by decide) (by decide)) (AU.o p_3 (by decide) (by decide))) (Eq.trans (AU.o p_6 (by decide) (by decide)) (AU.o p_3 (by decide) (by decide))) hI.2.1), (QS.same (Eq.trans (AU.o p_6 (by decide) (by decide)) (AU.o p_3 (by decide) (by decide))) (Eq.trans (AU.o p_6 (by decide) (by decide)) (AU.o p_3 (by decide) (by decide))) hI.2.2.1), (PL.q (p_6.2 _ (th_ne (hW _ 12 2 ha0 (by decide) (by decide) (by decide)) (hW _ 12 0 ha0 (by decide) (by decide) (by decide)) (by decide))) (PL.q (p_3.2 _ (th_ne (hW _ 12 2 ha0 (by decide) (by decide) (by decide)) (hW _ 12 0 ha0 (by decide) (by decide) (by decide)) (by decide))) hI.2.2.2.1)), (PL.q (p_6.2 _ (th_ne (hW _ 12 3 ha0 (by decide) (by decide) (by decide)) (hW _ 12 0 ha0 (by decide) (by decide) (by decide)) (by decide))) (PL.q (p_3.2 _ (th_ne (hW _ 12 3 ha0 (by decide) (by decide) (by decide)) (hW _ 12 0 ha0 (by decide) (by decide) (by decide)) (by decide))) hI.2.2.2.2.1)), (IF.q (p_6.2 _ (th_ne ha0 (hW _ 12 0 ha0 (by decide) (by decide) (by decide)) (by decide))) (IF.q (p_3.2 _ (th_ne ha0 (hW _ 12 0 ha0 (by decide) (by decide) (by decide)) (by decide))) hI.2.2.2.2.2))⟩, (by rw [(Eq.trans (AU.o p_6 (by decide) (by decide)) (AU.o p_3 (by decide) (by decide)))]; omega)⟩ dX12_times_35
set_option maxHeartbeats 4000000 in
set_option maxRecDepth 100000 in
/-- the reference: set -/
theorem y_set_v50 (l : Launch) (D : va_G) (cI cS : ClassId) (τ : Nat → Option Nat) (ρ : Nat → Nat → Nat) (hW : WF τ ρ) (H : Heap) (hT : TH D cI cS τ ρ H) (a0 : Nat) (x2 : Int32) (ha0 : τ a0 = some 12) : MV l D cI cS τ ρ yX12_set cX12_set 4 none 0 0 H [.ref a0, .int 1, .int 2, .int x2] (fun (u : Heap) => (AU 985 H u (ρ a0 0) 290 x2)) (fun q => q = ρ a0 0) := by
  refine MV.of (by decide) (Nat.le_of_ble_eq_true rfl) ?_
  intro p e s m args below meth c E hml hr hlk hs ls hl
  have hx := E.1
  have hb := E.2.1
  have hown := E.2.2.1
  have hts := E.2.2.2.1
  have hS : SS (fun q => q = ρ a0 0) H H [] := SS.rf
  have hl : lv_has ls 4 [(0, .ref a0), (1, .int 1), (2, .int 2), (3, .int x2)] := hl
  refine lv_aload_n hx hb dX12_set_0 rfl (lv_at hl 0 rfl) ?_
  refine gf_X12_7 E hT hW ha0 dX12_set_1 (fun h_1 => ?_)
  refine lv_sipush (v := 288) hx hb dX12_set_4 (by decide) ?_
  refine lv_iload_n hx hb dX12_set_7 rfl (lv_at hl 1 rfl) ?_
  refine lv_imul hx hb dX12_set_8 ?_
  refine th_topi (y := 288) (by decide) ?_
  refine lv_iload_n hx hb dX12_set_9 rfl (lv_at hl 2 rfl) ?_
  refine lv_iadd hx hb dX12_set_10 ?_
  refine th_topi (y := 290) (by decide) ?_
  refine lv_iload_n hx hb dX12_set_11 rfl (lv_at hl 3 rfl) ?_
  refine th_iast E hT hS h_1 rfl (by decide) (vp_in_iff.mpr ⟨by decide, by decide⟩) dX12_set_12 (fun H_2 locs_2 hT_2 hU_2 hS_2 => ?_)
  have hU_2 : AU 985 H H_2 (ρ a0 0) 290 x2 := hU_2
  exact th_vret E hr hlk hs hT_2 hS_2 hU_2 dX12_set_13
set_option maxHeartbeats 4000000 in
set_option maxRecDepth 100000 in
/-- the reference: sends -/
theorem y_sends_v4 (l : Launch) (D : va_G) (cI cS : ClassId) (τ : Nat → Option Nat) (ρ : Nat → Nat → Nat) (hW : WF τ ρ) (H : Heap) (hT : TH D cI cS τ ρ H) (a0 : Nat) (x1 : Int32) (ha0 : τ a0 = some 12) (N : Int) (hN0 : 0 ≤ N) (hN1 : N ≤ 600) (hI : IM D ρ N H a0) (hp0 : 0 ≤ x1.toInt ∧ x1.toInt ≤ 8) (hp1 : (ai H (ρ a0 0) 290).toInt + x1.toInt ≤ N + 1) : MV l D cI cS τ ρ yX12_sends cX12_sends 6 none 6 140 H [.ref a0, .int 1, .int x1, .int 0] (fun (u : Heap) => (IM D ρ N u a0) ∧ ((ai u (ρ a0 0) 290).toInt = (ai H (ρ a0 0) 290).toInt + x1.toInt + 0) ∧ ((ai H (ρ a0 0) 976).toInt ≤ (ai u (ρ a0 0) 976).toInt)) (fun q => q = ρ a0 2 ∨ q = ρ a0 0) := by
  refine MV.of (by decide) (Nat.le_of_ble_eq_true rfl) ?_
  intro p e s m args below meth c E hml hr hlk hs ls hl
  have hx := E.1
  have hb := E.2.1
  have hown := E.2.2.1
  have hts := E.2.2.2.1
  have hS : SS (fun q => q = ρ a0 2 ∨ q = ρ a0 0) H H [] := SS.rf
  have hl : lv_has ls 6 [(0, .ref a0), (1, .int 1), (2, .int x1), (3, .int 0)] := hl
  have n01 := hI.2.2.2.2.2.1
  have n23 := hI.2.2.2.2.2.2.1
  refine lv_aload_n hx hb dX12_sends_0 rfl (lv_at hl 0 rfl) ?_
  refine lv_iload_n hx hb dX12_sends_1 rfl (lv_at hl 1 rfl) ?_
  refine lv_iconst (v := 2) hx hb dX12_sends_2 (by decide) ?_
  refine th_Vi (As := [.int 1, .int 2]) (rest := []) E hml hl.1 (y_get_v32 l D cI cS τ ρ hW H hT a0 ha0) lk_X12_99 yd_X12_get hT ha0 rfl (by decide) hS (fun _ h => h.elim) ⟨by decide, by decide⟩ (Nat.le_of_ble_eq_true rfl) ⟨by decide, by decide⟩ rfl dX12_sends_3 (fun r_1 H_1 locs_1 p_1 hT_1 hk_1 hS_1 => ?_)
  have p_1 : H = H_1 ∧ (ai H (ρ a0 0) 290 = r_1) := p_1
  obtain ⟨rfl, p_1_0⟩ := p_1
  have b_r_1 : 0 ≤ r_1.toInt ∧ r_1.toInt ≤ N + 2 := by rw [← p_1_0]; exact hI.1 290 (by decide)
  have c_r_1 := congrArg Int32.toInt p_1_0
  refine lv_istore (lv' := [(4, .int r_1), (0, .ref a0), (1, .int 1), (2, .int x1), (3, .int 0)]) hx hb dX12_sends_6 hl (by decide) rfl (fun ls hl => ?_)
  refine lv_iload_n hx hb dX12_sends_8 rfl (lv_at hl 3 rfl) ?_
  refine lv_iload_n hx hb dX12_sends_9 rfl (lv_at hl 4 rfl) ?_
  refine lv_if_eq (tgt := 17) hx hb dX12_sends_10 (by decide) (fun c_2 => ?_) (fun c_2 => absurd (by decide) c_2)
  refine lv_iconst (v := 0) hx hb dX12_sends_17 (by decide) ?_
  refine lv_iadd hx hb dX12_sends_18 ?_
  refine lv_topi (fun x_3 ex_3 => ?_)
  have q_3 : x_3.toInt = x1.toInt + 0 := i_pl rfl (by decide) ex_3 (by omega) (by omega)
  refine lv_istore (lv' := [(5, .int x_3), (4, .int r_1), (0, .ref a0), (1, .int 1), (2, .int x1), (3, .int 0)]) hx hb dX12_sends_19 hl (by decide) rfl (fun ls hl => ?_)
  refine lv_aload_n hx hb dX12_sends_21 rfl (lv_at hl 2 rfl) ?_
  refine lv_iload_n hx hb dX12_sends_22 rfl (lv_at hl 3 rfl) ?_
  refine lv_iload hx hb dX12_sends_23 (lv_at hl 1 rfl) ?_
  refine lv_iload_n hx hb dX12_sends_25 rfl (lv_at hl 4 rfl) ?_
  refine lv_iload_n hx hb dX12_sends_26 rfl (lv_at hl 5 rfl) ?_
  refine th_Vv (As := [.int 1, .int r_1, .int x1, .int 0]) (rest := []) E hml hl.1 (y_data_v5 l D cI cS τ ρ hW H hT_1 a0 r_1 x1 ha0 N hN0 hN1 ⟨hI.1, hI.2.1, hI.2.2.1, hI.2.2.2.1, hI.2.2.2.2.1, hI.2.2.2.2.2⟩ (by omega) (by omega)) lk_X12_139 yd_X12_data hT_1 ha0 rfl (by decide) hS_1 (fun q => (fun h => h.elim (fun h => (Or.inl h)) (fun h => (Or.inr h)))) ⟨by decide, by decide⟩ (Nat.le_of_ble_eq_true rfl) ⟨by decide, by decide⟩ rfl dX12_sends_27 (fun H_4 locs_4 p_4 hT_4 hk_4 hS_4 => ?_)
  have p_4 : (IM D ρ N H_4 a0) ∧ ((ai H (ρ a0 0) 976).toInt ≤ (ai H_4 (ρ a0 0) 976).toInt) := p_4
  obtain ⟨p_4_0, p_4_1⟩ := p_4
  have mn_4 : (ai H (ρ a0 0) 976).toInt ≤ (ai H_4 (ρ a0 0) 976).toInt := by exact p_4_1
  refine lv_aload_n hx hb dX12_sends_30 rfl (lv_at hl 2 rfl) ?_
  refine lv_iload_n hx hb dX12_sends_31 rfl (lv_at hl 3 rfl) ?_
  refine lv_iload hx hb dX12_sends_32 (lv_at hl 1 rfl) ?_
  refine lv_iload hx hb dX12_sends_34 (lv_at hl 0 rfl) ?_
  refine lv_iadd hx hb dX12_sends_36 ?_
  refine lv_topi (fun x_5 ex_5 => ?_)
  have q_5 : x_5.toInt = r_1.toInt + x_3.toInt := i_pl rfl rfl ex_5 (by omega) (by omega)
  refine lv_iconst (v := 1) hx hb dX12_sends_37 (by decide) ?_
  refine lv_isub hx hb dX12_sends_38 ?_
  refine lv_topi (fun x_6 ex_6 => ?_)
  have q_6 : x_6.toInt = x_5.toInt - 1 := i_mi rfl (by decide) ex_6 (by omega) (by omega)
  refine th_Vv (As := [.int 1, .int x_6]) (rest := []) E hml hl.1 (y_times_v2 l D cI cS τ ρ hW H_4 hT_4 a0 x_6 ha0 N hN0 hN1 ⟨p_4_0.1, p_4_0.2.1, p_4_0.2.2.1, p_4_0.2.2.2.1, p_4_0.2.2.2.2.1, p_4_0.2.2.2.2.2⟩) lk_X12_143 yd_X12_times hT_4 ha0 rfl (by decide) hS_4 (fun q h => (Or.inr h)) ⟨by decide, by decide⟩ (Nat.le_of_ble_eq_true rfl) ⟨by decide, by decide⟩ rfl dX12_sends_39 (fun H_7 locs_7 p_7 hT_7 hk_7 hS_7 => ?_)
  have p_7 : (IM D ρ N H_7 a0) ∧ ((ai H_4 (ρ a0 0) 976).toInt ≤ (ai H_7 (ρ a0 0) 976).toInt) := p_7
  obtain ⟨p_7_0, p_7_1⟩ := p_7
  have mn_7 : (ai H_4 (ρ a0 0) 976).toInt ≤ (ai H_7 (ρ a0 0) 976).toInt := by exact p_7_1
  refine lv_aload_n hx hb dX12_sends_42 rfl (lv_at hl 2 rfl) ?_
  refine lv_iload_n hx hb dX12_sends_43 rfl (lv_at hl 3 rfl) ?_
  refine lv_iconst (v := 2) hx hb dX12_sends_44 (by decide) ?_
  refine lv_iload hx hb dX12_sends_45 (lv_at hl 1 rfl) ?_
  refine lv_iload hx hb dX12_sends_47 (lv_at hl 0 rfl) ?_
  refine lv_iadd hx hb dX12_sends_49 ?_
  refine lv_topi (fun x_8 ex_8 => ?_)
  have q_8 : x_8.toInt = r_1.toInt + x_3.toInt := i_pl rfl rfl ex_8 (by omega) (by omega)
  refine th_Vv (As := [.int 1, .int 2, .int x_8]) (rest := []) E hml hl.1 (y_set_v50 l D cI cS τ ρ hW H_7 hT_7 a0 x_8 ha0) lk_X12_95 yd_X12_set hT_7 ha0 rfl (by decide) hS_7 (fun q h => (Or.inr h)) ⟨by decide, by decide⟩ (Nat.le_of_ble_eq_true rfl) ⟨by decide, by decide⟩ rfl dX12_sends_50 (fun H_9 locs_9 p_9 hT_9 hk_9 hS_9 => ?_)
  have p_9 : (AU 985 H_7 H_9 (ρ a0 0) 290 x_8) := p_9
  have hW_9 : PW N H_9 (ρ a0 0) := PW.put p_7_0.1 p_9 (by show (0 : Int) ≤ x_8.toInt; omega) (by show x_8.toInt ≤ (N + 2 : Int); omega)
  refine lv_iload_n hx hb dX12_sends_53 rfl (lv_at hl 5 rfl) ?_
  refine lv_if_eq (tgt := 79) hx hb dX12_sends_54 (by decide) (fun c_10 => ?_) (fun c_10 => absurd (by decide) c_10)
  exact th_vret E hr hlk hs hT_9 hS_9 ⟨⟨hW_9, (QS.same (AU.o p_9 (by decide) (by decide)) (AU.o p_9 (by decide) (by decide)) p_7_0.2.1), (QS.of (s := (ai H_7 (ρ a0 0) 288 : Int32)) (t := (x_8 : Int32)) (AU.o p_9 (by decide) (by decide)) (AU.s p_9 (by decide)) (by have j := p_7_0.2.2.1; unfold QS at j; omega)), (PL.q (p_9.2 _ (th_ne (hW _ 12 2 ha0 (by decide) (by decide) (by decide)) (hW _ 12 0 ha0 (by decide) (by decide) (by decide)) (by decide))) p_7_0.2.2.2.1), (PL.q (p_9.2 _ (th_ne (hW _ 12 3 ha0 (by decide) (by decide) (by decide)) (hW _ 12 0 ha0 (by decide) (by decide) (by decide)) (by decide))) p_7_0.2.2.2.2.1), (IF.q (p_9.2 _ (th_ne ha0 (hW _ 12 0 ha0 (by decide) (by decide) (by decide)) (by decide))) p_7_0.2.2.2.2.2)⟩, (by have : (ai H_9 (ρ a0 0) 290).toInt = (x_8 : Int32).toInt := congrArg Int32.toInt (AU.s p_9 (by decide)); have : (ai H (ρ a0 0) 290).toInt = (r_1 : Int32).toInt := congrArg Int32.toInt p_1_0; omega), (by rw [(AU.o p_9 (by decide) (by decide))]; omega)⟩ dX12_sends_79
set_option maxHeartbeats 4000000 in
set_option maxRecDepth 100000 in
/-- the reference: makes -/
theorem y_makes_v6 (l : Launch) (D : va_G) (cI cS : ClassId) (τ : Nat → Option Nat) (ρ : Nat → Nat → Nat) (hW : WF τ ρ) (H : Heap) (hT : TH D cI cS τ ρ H) (a0 : Nat) (x2 : Int32) (ha0 : τ a0 = some 12) (N : Int) (hN0 : 0 ≤ N) (hN1 : N ≤ 600) (hI : IM D ρ N H a0) : MV l D cI cS τ ρ yX12_makes cX12_makes 5 none 4 91 H [.ref a0, .int 1, .int 6, .int x2] (fun (u : Heap) => (IM D ρ N u a0) ∧ ((ai H (ρ a0 0) 976).toInt ≤ (ai u (ρ a0 0) 976).toInt)) (fun q => q = ρ a0 2) := by
  refine MV.of (by decide) (Nat.le_of_ble_eq_true rfl) ?_
  intro p e s m args below meth c E hml hr hlk hs ls hl
  have hx := E.1
  have hb := E.2.1
  have hown := E.2.2.1
  have hts := E.2.2.2.1
  have hS : SS (fun q => q = ρ a0 2) H H [] := SS.rf
  have hl : lv_has ls 5 [(0, .ref a0), (1, .int 1), (2, .int 6), (3, .int x2)] := hl
  have n01 := hI.2.2.2.2.2.1
  have n23 := hI.2.2.2.2.2.2.1
  have L_3 : ∀ (n : Nat) (H_c3 : Heap) (lc_c3 : List Loc) (ls : Array Slot) (y3_4 : Int32), TH D cI cS τ ρ H_c3 → SS (fun q => q = ρ a0 2) H H_c3 lc_c3 → lv_has ls 5 [(0, .ref a0), (1, .int 1), (2, .int 6), (3, .int x2), (4, .int y3_4)] → 0 ≤ y3_4.toInt → IM D ρ N H_c3 a0 → (ai H (ρ a0 0) 976).toInt ≤ (ai H_c3 (ρ a0 0) 976).toInt → (20 - y3_4.toInt).toNat < n → W p l e (rmO 4 91) s m args below meth c H_c3 lc_c3 0 0 (MQ below (va_Qv (fun (u : Heap) => (IM D ρ N u a0) ∧ ((ai H (ρ a0 0) 976).toInt ≤ (ai u (ρ a0 0) 976).toInt)) (Bt D cI cS τ ρ H) (fun q => q = ρ a0 2)) args s 0 0 (fun q => q = ρ a0 2)) (F0 m 3 ls []) := by
    intro n
    induction n with
    | zero => intro H_c3 lc_c3 ls y3_4 hT_c3 hS_c3 hl ly3_4 hI_c3 hmn_c3 hm; exact absurd hm (Nat.not_lt_zero _)
    | succ n ih_3 =>
      intro H_c3 lc_c3 ls y3_4 hT_c3 hS_c3 hl ly3_4 hI_c3 hmn_c3 hm_3
      refine lv_iload hx hb dX12_makes_3 (lv_at hl 4 rfl) ?_
      refine lv_bipush (v := 20) hx hb dX12_makes_5 (by decide) ?_
      refine lv_icmp_ge (tgt := 55) hx hb dX12_makes_7 (by decide) (fun c_1 => ?_) (fun c_1 => ?_)
      · have f_1 : 20 ≤ y3_4.toInt := r_le (by decide) rfl c_1
        refine lv_aload_n hx hb dX12_makes_55 rfl (lv_at hl 0 rfl) ?_
        refine gf_X12_16 E hT_c3 hW ha0 dX12_makes_56 (fun h_2 => ?_)
        refine lv_iconst (v := 0) hx hb dX12_makes_59 (by decide) ?_
        refine lv_iload_n hx hb dX12_makes_60 rfl (lv_at hl 1 rfl) ?_
        refine th_iast E hT_c3 hS_c3 h_2 rfl (by decide) (vp_in_iff.mpr ⟨by decide, by decide⟩) dX12_makes_61 (fun H_3 locs_3 hT_3 hU_3 hS_3 => ?_)
        have hU_3 : AU 20 H_c3 H_3 (ρ a0 2) 0 (1) := hU_3
        have hL_3 : PL H_3 (ρ a0 2) := PL.put hI_c3.2.2.2.1 hU_3 (by show (0 : Int) ≤ (1 : Int32).toInt; have : (1 : Int32).toInt = 1 := (by decide); omega) (by show (1 : Int32).toInt ≤ (1 : Int); have : (1 : Int32).toInt = 1 := (by decide); omega)
        refine lv_aload_n hx hb dX12_makes_62 rfl (lv_at hl 0 rfl) ?_
        refine gf_X12_16 E hT_3 hW ha0 dX12_makes_63 (fun h_4 => ?_)
        refine lv_iconst (v := 1) hx hb dX12_makes_66 (by decide) ?_
        refine lv_iload_n hx hb dX12_makes_67 rfl (lv_at hl 2 rfl) ?_
        refine th_iast E hT_3 hS_3 h_4 rfl (by decide) (vp_in_iff.mpr ⟨by decide, by decide⟩) dX12_makes_68 (fun H_5 locs_5 hT_5 hU_5 hS_5 => ?_)
        have hU_5 : AU 20 H_3 H_5 (ρ a0 2) 1 (6) := hU_5
        have hL_5 : PL H_5 (ρ a0 2) := PL.put hL_3 hU_5 (by show (-2147483648 : Int) ≤ _; exact i_min _) (by show _ ≤ (2147483647 : Int); exact i_max _)
        refine lv_aload_n hx hb dX12_makes_69 rfl (lv_at hl 0 rfl) ?_
        refine gf_X12_16 E hT_5 hW ha0 dX12_makes_70 (fun h_6 => ?_)
        refine lv_iconst (v := 2) hx hb dX12_makes_73 (by decide) ?_
        refine lv_iload_n hx hb dX12_makes_74 rfl (lv_at hl 3 rfl) ?_
        refine th_iast E hT_5 hS_5 h_6 rfl (by decide) (vp_in_iff.mpr ⟨by decide, by decide⟩) dX12_makes_75 (fun H_7 locs_7 hT_7 hU_7 hS_7 => ?_)
        have hU_7 : AU 20 H_5 H_7 (ρ a0 2) 2 x2 := hU_7
        have hL_7 : PL H_7 (ρ a0 2) := PL.put hL_5 hU_7 (by show (-2147483648 : Int) ≤ _; exact i_min _) (by show _ ≤ (2147483647 : Int); exact i_max _)
        refine lv_iload_n hx hb dX12_makes_76 rfl (lv_at hl 2 rfl) ?_
        refine lv_iconst (v := 4) hx hb dX12_makes_77 (by decide) ?_
        refine lv_iand hx hb dX12_makes_78 ?_
        refine th_topi (y := 4) (by decide) ?_
        refine lv_if_le (tgt := 133) hx hb dX12_makes_79 (by decide) (fun c_8 => absurd c_8 (by decide)) (fun c_8 => ?_)
        refine lv_iload_n hx hb dX12_makes_82 rfl (lv_at hl 2 rfl) ?_
        refine lv_bipush (v := 8) hx hb dX12_makes_83 (by decide) ?_
        refine lv_iand hx hb dX12_makes_85 ?_
        refine th_topi (y := 0) (by decide) ?_
        refine lv_if_ne (tgt := 133) hx hb dX12_makes_86 (by decide) (fun c_9 => absurd (by decide) c_9) (fun c_9 => ?_)
        refine lv_aload_n hx hb dX12_makes_89 rfl (lv_at hl 0 rfl) ?_
        refine gf_X12_16 E hT_7 hW ha0 dX12_makes_90 (fun h_10 => ?_)
        refine lv_iconst (v := 3) hx hb dX12_makes_93 (by decide) ?_
        refine lv_aload_n hx hb dX12_makes_94 rfl (lv_at hl 0 rfl) ?_
        refine lv_iconst (v := 1) hx hb dX12_makes_95 (by decide) ?_
        refine lv_iload_n hx hb dX12_makes_96 rfl (lv_at hl 1 rfl) ?_
        refine lv_isub hx hb dX12_makes_97 ?_
        refine th_topi (y := 0) (by decide) ?_
        refine lv_aload_n hx hb dX12_makes_98 rfl (lv_at hl 0 rfl) ?_
        refine lv_iload_n hx hb dX12_makes_99 rfl (lv_at hl 1 rfl) ?_
        refine lv_iconst (v := 5) hx hb dX12_makes_100 (by decide) ?_
        refine th_Vi (As := [.int 1, .int 5]) (rest := [.int 0, .ref a0, .int 3, .ref (ρ a0 2)]) E hml hl.1 (y_get_v18 l D cI cS τ ρ hW H_7 hT_7 a0 ha0) lk_X12_99 yd_X12_get hT_7 ha0 rfl (by decide) hS_7 (fun _ h => h.elim) ⟨by decide, by decide⟩ (Nat.le_of_ble_eq_true rfl) ⟨by decide, by decide⟩ rfl dX12_makes_101 (fun r_11 H_11 locs_11 p_11 hT_11 hk_11 hS_11 => ?_)
        have p_11 : H_7 = H_11 ∧ (ai H_7 (ρ a0 0) 293 = r_11) := p_11
        obtain ⟨rfl, p_11_0⟩ := p_11
        have t_11 : ai H_c3 (ρ a0 0) 293 = r_11 := (Eq.trans (ai_q (hU_7.2 _ (th_ne (hW _ 12 0 ha0 (by decide) (by decide) (by decide)) (hW _ 12 2 ha0 (by decide) (by decide) (by decide)) (by decide)))) (Eq.trans (ai_q (hU_5.2 _ (th_ne (hW _ 12 0 ha0 (by decide) (by decide) (by decide)) (hW _ 12 2 ha0 (by decide) (by decide) (by decide)) (by decide)))) (ai_q (hU_3.2 _ (th_ne (hW _ 12 0 ha0 (by decide) (by decide) (by decide)) (hW _ 12 2 ha0 (by decide) (by decide) (by decide)) (by decide)))))).symm.trans p_11_0
        have b_r_11 : 0 ≤ r_11.toInt ∧ r_11.toInt ≤ N + 33 := by rw [← t_11]; exact hI_c3.1 293 (by decide)
        have c_r_11 := congrArg Int32.toInt t_11
        refine th_Vi (As := [.int 0, .int r_11]) (rest := [.int 3, .ref (ρ a0 2)]) E hml hl.1 (y_number_v3 l D cI cS τ ρ hW H_7 hT_11 a0 r_11 ha0) lk_X12_112 yd_X12_number hT_11 ha0 rfl (by decide) hS_11 (fun _ h => h.elim) ⟨by decide, by decide⟩ (Nat.le_of_ble_eq_true rfl) ⟨by decide, by decide⟩ rfl dX12_makes_104 (fun r_12 H_12 locs_12 p_12 hT_12 hk_12 hS_12 => ?_)
        have p_12 : H_7 = H_12 := p_12
        obtain rfl := p_12
        refine th_iast E hT_12 hS_12 h_10 rfl (by decide) (vp_in_iff.mpr ⟨by decide, by decide⟩) dX12_makes_107 (fun H_13 locs_13 hT_13 hU_13 hS_13 => ?_)
        have hU_13 : AU 20 H_7 H_13 (ρ a0 2) 3 r_12 := hU_13
        have hL_13 : PL H_13 (ρ a0 2) := PL.put hL_7 hU_13 (by show (-2147483648 : Int) ≤ _; exact i_min _) (by show _ ≤ (2147483647 : Int); exact i_max _)
        refine lv_aload_n hx hb dX12_makes_108 rfl (lv_at hl 0 rfl) ?_
        refine gf_X12_16 E hT_13 hW ha0 dX12_makes_109 (fun h_14 => ?_)
        refine lv_iconst (v := 4) hx hb dX12_makes_112 (by decide) ?_
        refine lv_aload_n hx hb dX12_makes_113 rfl (lv_at hl 0 rfl) ?_
        refine lv_iload_n hx hb dX12_makes_114 rfl (lv_at hl 1 rfl) ?_
        refine lv_bipush (v := 7) hx hb dX12_makes_115 (by decide) ?_
        refine th_Vi (As := [.int 1, .int 7]) (rest := [.int 4, .ref (ρ a0 2)]) E hml hl.1 (y_get_v19 l D cI cS τ ρ hW H_13 hT_13 a0 ha0) lk_X12_99 yd_X12_get hT_13 ha0 rfl (by decide) hS_13 (fun _ h => h.elim) ⟨by decide, by decide⟩ (Nat.le_of_ble_eq_true rfl) ⟨by decide, by decide⟩ rfl dX12_makes_117 (fun r_15 H_15 locs_15 p_15 hT_15 hk_15 hS_15 => ?_)
        have p_15 : H_13 = H_15 ∧ (ai H_13 (ρ a0 0) 295 = r_15) := p_15
        obtain ⟨rfl, p_15_0⟩ := p_15
        have t_15 : ai H_c3 (ρ a0 0) 295 = r_15 := (Eq.trans (ai_q (hU_13.2 _ (th_ne (hW _ 12 0 ha0 (by decide) (by decide) (by decide)) (hW _ 12 2 ha0 (by decide) (by decide) (by decide)) (by decide)))) (Eq.trans (ai_q (hU_7.2 _ (th_ne (hW _ 12 0 ha0 (by decide) (by decide) (by decide)) (hW _ 12 2 ha0 (by decide) (by decide) (by decide)) (by decide)))) (Eq.trans (ai_q (hU_5.2 _ (th_ne (hW _ 12 0 ha0 (by decide) (by decide) (by decide)) (hW _ 12 2 ha0 (by decide) (by decide) (by decide)) (by decide)))) (ai_q (hU_3.2 _ (th_ne (hW _ 12 0 ha0 (by decide) (by decide) (by decide)) (hW _ 12 2 ha0 (by decide) (by decide) (by decide)) (by decide))))))).symm.trans p_15_0
        have b_r_15 : 0 ≤ r_15.toInt ∧ r_15.toInt ≤ N + 33 := by rw [← t_15]; exact hI_c3.1 295 (by decide)
        have c_r_15 := congrArg Int32.toInt t_15
        refine lv_aload_n hx hb dX12_makes_120 rfl (lv_at hl 0 rfl) ?_
        refine lv_iload_n hx hb dX12_makes_121 rfl (lv_at hl 1 rfl) ?_
        refine lv_iconst (v := 5) hx hb dX12_makes_122 (by decide) ?_
        refine th_Vi (As := [.int 1, .int 5]) (rest := [.int r_15, .int 4, .ref (ρ a0 2)]) E hml hl.1 (y_get_v18 l D cI cS τ ρ hW H_13 hT_15 a0 ha0) lk_X12_99 yd_X12_get hT_15 ha0 rfl (by decide) hS_15 (fun _ h => h.elim) ⟨by decide, by decide⟩ (Nat.le_of_ble_eq_true rfl) ⟨by decide, by decide⟩ rfl dX12_makes_123 (fun r_16 H_16 locs_16 p_16 hT_16 hk_16 hS_16 => ?_)
        have p_16 : H_13 = H_16 ∧ (ai H_13 (ρ a0 0) 293 = r_16) := p_16
        obtain ⟨rfl, p_16_0⟩ := p_16
        have s_16 : r_16 = r_11 := p_16_0.symm.trans (Eq.trans (ai_q (hU_13.2 _ (th_ne (hW _ 12 0 ha0 (by decide) (by decide) (by decide)) (hW _ 12 2 ha0 (by decide) (by decide) (by decide)) (by decide)))) ((Eq.trans (ai_q (hU_7.2 _ (th_ne (hW _ 12 0 ha0 (by decide) (by decide) (by decide)) (hW _ 12 2 ha0 (by decide) (by decide) (by decide)) (by decide)))) (Eq.trans (ai_q (hU_5.2 _ (th_ne (hW _ 12 0 ha0 (by decide) (by decide) (by decide)) (hW _ 12 2 ha0 (by decide) (by decide) (by decide)) (by decide)))) (ai_q (hU_3.2 _ (th_ne (hW _ 12 0 ha0 (by decide) (by decide) (by decide)) (hW _ 12 2 ha0 (by decide) (by decide) (by decide)) (by decide)))))).trans t_11))
        refine th_topi s_16 ?_
        refine lv_isub hx hb dX12_makes_126 ?_
        refine lv_topi (fun x_17 ex_17 => ?_)
        have q_17 : x_17.toInt = r_15.toInt - r_11.toInt := i_mi rfl rfl ex_17 (by omega) (by omega)
        refine th_iast E hT_16 hS_16 h_14 rfl (by decide) (vp_in_iff.mpr ⟨by decide, by decide⟩) dX12_makes_127 (fun H_18 locs_18 hT_18 hU_18 hS_18 => ?_)
        have hU_18 : AU 20 H_13 H_18 (ρ a0 2) 4 x_17 := hU_18
        have hL_18 : PL H_18 (ρ a0 2) := PL.put hL_13 hU_18 (by show (-2147483648 : Int) ≤ _; exact i_min _) (by show _ ≤ (2147483647 : Int); exact i_max _)
        refine lv_aload_n hx hb dX12_makes_128 rfl (lv_at hl 0 rfl) ?_
        refine lv_iload_n hx hb dX12_makes_129 rfl (lv_at hl 1 rfl) ?_
        refine th_Vv (As := [.int 1]) (rest := []) E hml hl.1 (y_spans_v2 l D cI cS τ ρ hW H_18 hT_18 a0 ha0 N hN0 hN1 ⟨(PW.q (hU_18.2 _ (th_ne (hW _ 12 0 ha0 (by decide) (by decide) (by decide)) (hW _ 12 2 ha0 (by decide) (by decide) (by decide)) (by decide))) (PW.q (hU_13.2 _ (th_ne (hW _ 12 0 ha0 (by decide) (by decide) (by decide)) (hW _ 12 2 ha0 (by decide) (by decide) (by decide)) (by decide))) (PW.q (hU_7.2 _ (th_ne (hW _ 12 0 ha0 (by decide) (by decide) (by decide)) (hW _ 12 2 ha0 (by decide) (by decide) (by decide)) (by decide))) (PW.q (hU_5.2 _ (th_ne (hW _ 12 0 ha0 (by decide) (by decide) (by decide)) (hW _ 12 2 ha0 (by decide) (by decide) (by decide)) (by decide))) (PW.q (hU_3.2 _ (th_ne (hW _ 12 0 ha0 (by decide) (by decide) (by decide)) (hW _ 12 2 ha0 (by decide) (by decide) (by decide)) (by decide))) hI_c3.1))))), (QS.same (Eq.trans (ai_q (hU_18.2 _ (th_ne (hW _ 12 0 ha0 (by decide) (by decide) (by decide)) (hW _ 12 2 ha0 (by decide) (by decide) (by decide)) (by decide)))) (Eq.trans (ai_q (hU_13.2 _ (th_ne (hW _ 12 0 ha0 (by decide) (by decide) (by decide)) (hW _ 12 2 ha0 (by decide) (by decide) (by decide)) (by decide)))) (Eq.trans (ai_q (hU_7.2 _ (th_ne (hW _ 12 0 ha0 (by decide) (by decide) (by decide)) (hW _ 12 2 ha0 (by decide) (by decide) (by decide)) (by decide)))) (Eq.trans (ai_q (hU_5.2 _ (th_ne (hW _ 12 0 ha0 (by decide) (by decide) (by decide)) (hW _ 12 2 ha0 (by decide) (by decide) (by decide)) (by decide)))) (ai_q (hU_3.2 _ (th_ne (hW _ 12 0 ha0 (by decide) (by decide) (by decide)) (hW _ 12 2 ha0 (by decide) (by decide) (by decide)) (by decide)))))))) (Eq.trans (ai_q (hU_18.2 _ (th_ne (hW _ 12 0 ha0 (by decide) (by decide) (by decide)) (hW _ 12 2 ha0 (by decide) (by decide) (by decide)) (by decide)))) (Eq.trans (ai_q (hU_13.2 _ (th_ne (hW _ 12 0 ha0 (by decide) (by decide) (by decide)) (hW _ 12 2 ha0 (by decide) (by decide) (by decide)) (by decide)))) (Eq.trans (ai_q (hU_7.2 _ (th_ne (hW _ 12 0 ha0 (by decide) (by decide) (by decide)) (hW _ 12 2 ha0 (by decide) (by decide) (by decide)) (by decide)))) (Eq.trans (ai_q (hU_5.2 _ (th_ne (hW _ 12 0 ha0 (by decide) (by decide) (by decide)) (hW _ 12 2 ha0 (by decide) (by decide) (by decide)) (by decide)))) (ai_q (hU_3.2 _ (th_ne (hW _ 12 0 ha0 (by decide) (by decide) (by decide)) (hW _ 12 2 ha0 (by decide) (by decide) (by decide)) (by decide)))))))) hI_c3.2.1), (QS.same (Eq.trans (ai_q (hU_18.2 _ (th_ne (hW _ 12 0 ha0 (by decide) (by decide) (by decide)) (hW _ 12 2 ha0 (by decide) (by decide) (by decide)) (by decide)))) (Eq.trans (ai_q (hU_13.2 _ (th_ne (hW _ 12 0 ha0 (by decide) (by decide) (by decide)) (hW _ 12 2 ha0 (by decide) (by decide) (by decide)) (by decide)))) (Eq.trans (ai_q (hU_7.2 _ (th_ne (hW _ 12 0 ha0 (by decide) (by decide) (by decide)) (hW _ 12 2 ha0 (by decide) (by decide) (by decide)) (by decide)))) (Eq.trans (ai_q (hU_5.2 _ (th_ne (hW _ 12 0 ha0 (by decide) (by decide) (by decide)) (hW _ 12 2 ha0 (by decide) (by decide) (by decide)) (by decide)))) (ai_q (hU_3.2 _ (th_ne (hW _ 12 0 ha0 (by decide) (by decide) (by decide)) (hW _ 12 2 ha0 (by decide) (by decide) (by decide)) (by decide)))))))) (Eq.trans (ai_q (hU_18.2 _ (th_ne (hW _ 12 0 ha0 (by decide) (by decide) (by decide)) (hW _ 12 2 ha0 (by decide) (by decide) (by decide)) (by decide)))) (Eq.trans (ai_q (hU_13.2 _ (th_ne (hW _ 12 0 ha0 (by decide) (by decide) (by decide)) (hW _ 12 2 ha0 (by decide) (by decide) (by decide)) (by decide)))) (Eq.trans (ai_q (hU_7.2 _ (th_ne (hW _ 12 0 ha0 (by decide) (by decide) (by decide)) (hW _ 12 2 ha0 (by decide) (by decide) (by decide)) (by decide)))) (Eq.trans (ai_q (hU_5.2 _ (th_ne (hW _ 12 0 ha0 (by decide) (by decide) (by decide)) (hW _ 12 2 ha0 (by decide) (by decide) (by decide)) (by decide)))) (ai_q (hU_3.2 _ (th_ne (hW _ 12 0 ha0 (by decide) (by decide) (by decide)) (hW _ 12 2 ha0 (by decide) (by decide) (by decide)) (by decide)))))))) hI_c3.2.2.1), hL_18, (PL.q (hU_18.2 _ (Ne.symm n23)) (PL.q (hU_13.2 _ (Ne.symm n23)) (PL.q (hU_7.2 _ (Ne.symm n23)) (PL.q (hU_5.2 _ (Ne.symm n23)) (PL.q (hU_3.2 _ (Ne.symm n23)) hI_c3.2.2.2.2.1))))), (IF.q (hU_18.2 _ (th_ne ha0 (hW _ 12 2 ha0 (by decide) (by decide) (by decide)) (by decide))) (IF.q (hU_13.2 _ (th_ne ha0 (hW _ 12 2 ha0 (by decide) (by decide) (by decide)) (by decide))) (IF.q (hU_7.2 _ (th_ne ha0 (hW _ 12 2 ha0 (by decide) (by decide) (by decide)) (by decide))) (IF.q (hU_5.2 _ (th_ne ha0 (hW _ 12 2 ha0 (by decide) (by decide) (by decide)) (by decide))) (IF.q (hU_3.2 _ (th_ne ha0 (hW _ 12 2 ha0 (by decide) (by decide) (by decide)) (by decide))) hI_c3.2.2.2.2.2)))))⟩) lk_X12_115 yd_X12_spans hT_18 ha0 rfl (by decide) hS_18 (fun q h => h) ⟨by decide, by decide⟩ (Nat.le_of_ble_eq_true rfl) ⟨by decide, by decide⟩ rfl dX12_makes_130 (fun H_19 locs_19 p_19 hT_19 hk_19 hS_19 => ?_)
        have p_19 : (IM D ρ N H_19 a0) ∧ ((ai H_18 (ρ a0 0) 976).toInt ≤ (ai H_19 (ρ a0 0) 976).toInt) := p_19
        obtain ⟨p_19_0, p_19_1⟩ := p_19
        have mn_19 : (ai H_c3 (ρ a0 0) 976).toInt ≤ (ai H_19 (ρ a0 0) 976).toInt := by have h := p_19_1; rw [(Eq.trans (ai_q (hU_18.2 _ (th_ne (hW _ 12 0 ha0 (by decide) (by decide) (by decide)) (hW _ 12 2 ha0 (by decide) (by decide) (by decide)) (by decide)))) (Eq.trans (ai_q (hU_13.2 _ (th_ne (hW _ 12 0 ha0 (by decide) (by decide) (by decide)) (hW _ 12 2 ha0 (by decide) (by decide) (by decide)) (by decide)))) (Eq.trans (ai_q (hU_7.2 _ (th_ne (hW _ 12 0 ha0 (by decide) (by decide) (by decide)) (hW _ 12 2 ha0 (by decide) (by decide) (by decide)) (by decide)))) (Eq.trans (ai_q (hU_5.2 _ (th_ne (hW _ 12 0 ha0 (by decide) (by decide) (by decide)) (hW _ 12 2 ha0 (by decide) (by decide) (by decide)) (by decide)))) (ai_q (hU_3.2 _ (th_ne (hW _ 12 0 ha0 (by decide) (by decide) (by decide)) (hW _ 12 2 ha0 (by decide) (by decide) (by decide)) (by decide))))))))] at h; exact h
        exact th_vret E hr hlk hs hT_19 hS_19 ⟨⟨p_19_0.1, p_19_0.2.1, p_19_0.2.2.1, p_19_0.2.2.2.1, p_19_0.2.2.2.2.1, p_19_0.2.2.2.2.2⟩, (by rw [(Eq.trans (ai_q (hk_19 _ (th_ne (hW _ 12 0 ha0 (by decide) (by decide) (by decide)) (hW _ 12 2 ha0 (by decide) (by decide) (by decide)) (by decide)))) (Eq.trans (ai_q (hU_18.2 _ (th_ne (hW _ 12 0 ha0 (by decide) (by decide) (by decide)) (hW _ 12 2 ha0 (by decide) (by decide) (by decide)) (by decide)))) (Eq.trans (ai_q (hU_13.2 _ (th_ne (hW _ 12 0 ha0 (by decide) (by decide) (by decide)) (hW _ 12 2 ha0 (by decide) (by decide) (by decide)) (by decide)))) (Eq.trans (ai_q (hU_7.2 _ (th_ne (hW _ 12 0 ha0 (by decide) (by decide) (by decide)) (hW _ 12 2 ha0 (by decide) (by decide) (by decide)) (by decide)))) (Eq.trans (ai_q (hU_5.2 _ (th_ne (hW _ 12 0 ha0 (by decide) (by decide) (by decide)) (hW _ 12 2 ha0 (by decide) (by decide) (by decide)) (by decide)))) (ai_q (hU_3.2 _ (th_ne (hW _ 12 0 ha0 (by decide) (by decide) (by decide)) (hW _ 12 2 ha0 (by decide) (by decide) (by decide)) (by decide)))))))))]; omega)⟩ dX12_makes_133
      · have f_1 : y3_4.toInt < 20 := r_nle (by decide) rfl c_1
        refine lv_aload_n hx hb dX12_makes_10 rfl (lv_at hl 0 rfl) ?_
        refine gf_X12_16 E hT_c3 hW ha0 dX12_makes_11 (fun h_20 => ?_)
        refine lv_iload hx hb dX12_makes_14 (lv_at hl 4 rfl) ?_
        refine lv_iload hx hb dX12_makes_16 (lv_at hl 4 rfl) ?_
        refine lv_iconst (v := 3) hx hb dX12_makes_18 (by decide) ?_
        refine lv_icmp_lt (tgt := 42) hx hb dX12_makes_19 (by decide) (fun c_21 => ?_) (fun c_21 => ?_)
        · have f_21 : y3_4.toInt < 3 := r_lt rfl (by decide) c_21
          refine lv_iconst (v := 0) hx hb dX12_makes_42 (by decide) ?_
          refine lv_goto (tgt := 48) hx hb dX12_makes_43 (by decide) ?_
          refine th_iast E hT_c3 hS_c3 h_20 rfl (by decide) (vp_in_iff.mpr ⟨by omega, by omega⟩) dX12_makes_48 (fun H_22 locs_22 hT_22 hU_22 hS_22 => ?_)
          have hU_22 : AU 20 H_c3 H_22 (ρ a0 2) y3_4.toInt.toNat (0) := hU_22
          have hL_22 : PL H_22 (ρ a0 2) := PL.zero hI_c3.2.2.2.1 hU_22
          obtain ⟨x_23, ex_23⟩ : ∃ y : Int32, y3_4 + 1 = y := ⟨_, rfl⟩
          have q_x_23 : x_23.toInt = y3_4.toInt + 1 := i_add (k := 1) (by decide) ex_23 (by have := i_min y3_4; omega) (by have := i_max y3_4; omega)
          refine lv_iinc (v := x_23) (lv' := [(4, .int x_23), (0, .ref a0), (1, .int 1), (2, .int 6), (3, .int x2)]) hx hb dX12_makes_49 hl (k := 4) rfl (by rw [← ex_23]; rfl) (by decide) rfl (fun ls hl => ?_)
          refine lv_goto (tgt := 3) hx hb dX12_makes_52 (by decide) ?_
          exact ih_3 H_22 locs_22 _ x_23 hT_22 hS_22 (lv_sub hl [1, 2, 3, 4, 0] rfl) (by omega) ⟨(PW.q (hU_22.2 _ (th_ne (hW _ 12 0 ha0 (by decide) (by decide) (by decide)) (hW _ 12 2 ha0 (by decide) (by decide) (by decide)) (by decide))) hI_c3.1), (QS.same (ai_q (hU_22.2 _ (th_ne (hW _ 12 0 ha0 (by decide) (by decide) (by decide)) (hW _ 12 2 ha0 (by decide) (by decide) (by decide)) (by decide)))) (ai_q (hU_22.2 _ (th_ne (hW _ 12 0 ha0 (by decide) (by decide) (by decide)) (hW _ 12 2 ha0 (by decide) (by decide) (by decide)) (by decide)))) hI_c3.2.1), (QS.same (ai_q (hU_22.2 _ (th_ne (hW _ 12 0 ha0 (by decide) (by decide) (by decide)) (hW _ 12 2 ha0 (by decide) (by decide) (by decide)) (by decide)))) (ai_q (hU_22.2 _ (th_ne (hW _ 12 0 ha0 (by decide) (by decide) (by decide)) (hW _ 12 2 ha0 (by decide) (by decide) (by decide)) (by decide)))) hI_c3.2.2.1), hL_22, (PL.q (hU_22.2 _ (Ne.symm n23)) hI_c3.2.2.2.2.1), (IF.q (hU_22.2 _ (th_ne ha0 (hW _ 12 2 ha0 (by decide) (by decide) (by decide)) (by decide))) hI_c3.2.2.2.2.2)⟩ (by rw [(ai_q (hU_22.2 _ (th_ne (hW _ 12 0 ha0 (by decide) (by decide) (by decide)) (hW _ 12 2 ha0 (by decide) (by decide) (by decide)) (by decide))))]; omega) (by omega)
        · have f_21 : 3 ≤ y3_4.toInt := r_nlt rfl (by decide) c_21
          refine lv_iload hx hb dX12_makes_22 (lv_at hl 4 rfl) ?_
          refine lv_iconst (v := 5) hx hb dX12_makes_24 (by decide) ?_
          refine lv_icmp_eq (tgt := 42) hx hb dX12_makes_25 (by decide) (fun c_24 => ?_) (fun c_24 => ?_)
          · have f_24 : y3_4.toInt = 5 := r_eq rfl (by decide) c_24
            refine lv_iconst (v := 0) hx hb dX12_makes_42 (by decide) ?_
            refine lv_goto (tgt := 48) hx hb dX12_makes_43 (by decide) ?_
            refine th_iast E hT_c3 hS_c3 h_20 rfl (by decide) (vp_in_iff.mpr ⟨by omega, by omega⟩) dX12_makes_48 (fun H_25 locs_25 hT_25 hU_25 hS_25 => ?_)
            have hU_25 : AU 20 H_c3 H_25 (ρ a0 2) y3_4.toInt.toNat (0) := hU_25
            have hL_25 : PL H_25 (ρ a0 2) := PL.zero hI_c3.2.2.2.1 hU_25
            obtain ⟨x_26, ex_26⟩ : ∃ y : Int32, y3_4 + 1 = y := ⟨_, rfl⟩
            have q_x_26 : x_26.toInt = y3_4.toInt + 1 := i_add (k := 1) (by decide) ex_26 (by have := i_min y3_4; omega) (by have := i_max y3_4; omega)
            refine lv_iinc (v := x_26) (lv' := [(4, .int x_26), (0, .ref a0), (1, .int 1), (2, .int 6), (3, .int x2)]) hx hb dX12_makes_49 hl (k := 4) rfl (by rw [← ex_26]; rfl) (by decide) rfl (fun ls hl => ?_)
            refine lv_goto (tgt := 3) hx hb dX12_makes_52 (by decide) ?_
            exact ih_3 H_25 locs_25 _ x_26 hT_25 hS_25 (lv_sub hl [1, 2, 3, 4, 0] rfl) (by omega) ⟨(PW.q (hU_25.2 _ (th_ne (hW _ 12 0 ha0 (by decide) (by decide) (by decide)) (hW _ 12 2 ha0 (by decide) (by decide) (by decide)) (by decide))) hI_c3.1), (QS.same (ai_q (hU_25.2 _ (th_ne (hW _ 12 0 ha0 (by decide) (by decide) (by decide)) (hW _ 12 2 ha0 (by decide) (by decide) (by decide)) (by decide)))) (ai_q (hU_25.2 _ (th_ne (hW _ 12 0 ha0 (by decide) (by decide) (by decide)) (hW _ 12 2 ha0 (by decide) (by decide) (by decide)) (by decide)))) hI_c3.2.1), (QS.same (ai_q (hU_25.2 _ (th_ne (hW _ 12 0 ha0 (by decide) (by decide) (by decide)) (hW _ 12 2 ha0 (by decide) (by decide) (by decide)) (by decide)))) (ai_q (hU_25.2 _ (th_ne (hW _ 12 0 ha0 (by decide) (by decide) (by decide)) (hW _ 12 2 ha0 (by decide) (by decide) (by decide)) (by decide)))) hI_c3.2.2.1), hL_25, (PL.q (hU_25.2 _ (Ne.symm n23)) hI_c3.2.2.2.2.1), (IF.q (hU_25.2 _ (th_ne ha0 (hW _ 12 2 ha0 (by decide) (by decide) (by decide)) (by decide))) hI_c3.2.2.2.2.2)⟩ (by rw [(ai_q (hU_25.2 _ (th_ne (hW _ 12 0 ha0 (by decide) (by decide) (by decide)) (hW _ 12 2 ha0 (by decide) (by decide) (by decide)) (by decide))))]; omega) (by omega)
          · have f_24 : ¬ y3_4.toInt = 5 := r_ne rfl (by decide) c_24
            refine lv_iload hx hb dX12_makes_28 (lv_at hl 4 rfl) ?_
            refine lv_bipush (v := 6) hx hb dX12_makes_30 (by decide) ?_
            refine lv_icmp_eq (tgt := 42) hx hb dX12_makes_32 (by decide) (fun c_27 => ?_) (fun c_27 => ?_)
            · have f_27 : y3_4.toInt = 6 := r_eq rfl (by decide) c_27
              refine lv_iconst (v := 0) hx hb dX12_makes_42 (by decide) ?_
              refine lv_goto (tgt := 48) hx hb dX12_makes_43 (by decide) ?_
              refine th_iast E hT_c3 hS_c3 h_20 rfl (by decide) (vp_in_iff.mpr ⟨by omega, by omega⟩) dX12_makes_48 (fun H_28 locs_28 hT_28 hU_28 hS_28 => ?_)
              have hU_28 : AU 20 H_c3 H_28 (ρ a0 2) y3_4.toInt.toNat (0) := hU_28
              have hL_28 : PL H_28 (ρ a0 2) := PL.zero hI_c3.2.2.2.1 hU_28
              obtain ⟨x_29, ex_29⟩ : ∃ y : Int32, y3_4 + 1 = y := ⟨_, rfl⟩
              have q_x_29 : x_29.toInt = y3_4.toInt + 1 := i_add (k := 1) (by decide) ex_29 (by have := i_min y3_4; omega) (by have := i_max y3_4; omega)
              refine lv_iinc (v := x_29) (lv' := [(4, .int x_29), (0, .ref a0), (1, .int 1), (2, .int 6), (3, .int x2)]) hx hb dX12_makes_49 hl (k := 4) rfl (by rw [← ex_29]; rfl) (by decide) rfl (fun ls hl => ?_)
              refine lv_goto (tgt := 3) hx hb dX12_makes_52 (by decide) ?_
              exact ih_3 H_28 locs_28 _ x_29 hT_28 hS_28 (lv_sub hl [1, 2, 3, 4, 0] rfl) (by omega) ⟨(PW.q (hU_28.2 _ (th_ne (hW _ 12 0 ha0 (by decide) (by decide) (by decide)) (hW _ 12 2 ha0 (by decide) (by decide) (by decide)) (by decide))) hI_c3.1), (QS.same (ai_q (hU_28.2 _ (th_ne (hW _ 12 0 ha0 (by decide) (by decide) (by decide)) (hW _ 12 2 ha0 (by decide) (by decide) (by decide)) (by decide)))) (ai_q (hU_28.2 _ (th_ne (hW _ 12 0 ha0 (by decide) (by decide) (by decide)) (hW _ 12 2 ha0 (by decide) (by decide) (by decide)) (by decide)))) hI_c3.2.1), (QS.same (ai_q (hU_28.2 _ (th_ne (hW _ 12 0 ha0 (by decide) (by decide) (by decide)) (hW _ 12 2 ha0 (by decide) (by decide) (by decide)) (by decide)))) (ai_q (hU_28.2 _ (th_ne (hW _ 12 0 ha0 (by decide) (by decide) (by decide)) (hW _ 12 2 ha0 (by decide) (by decide) (by decide)) (by decide)))) hI_c3.2.2.1), hL_28, (PL.q (hU_28.2 _ (Ne.symm n23)) hI_c3.2.2.2.2.1), (IF.q (hU_28.2 _ (th_ne ha0 (hW _ 12 2 ha0 (by decide) (by decide) (by decide)) (by decide))) hI_c3.2.2.2.2.2)⟩ (by rw [(ai_q (hU_28.2 _ (th_ne (hW _ 12 0 ha0 (by decide) (by decide) (by decide)) (hW _ 12 2 ha0 (by decide) (by decide) (by decide)) (by decide))))]; omega) (by omega)
            · have f_27 : ¬ y3_4.toInt = 6 := r_ne rfl (by decide) c_27
              refine lv_iload hx hb dX12_makes_35 (lv_at hl 4 rfl) ?_
              refine lv_bipush (v := 12) hx hb dX12_makes_37 (by decide) ?_
              refine lv_icmp_lt (tgt := 46) hx hb dX12_makes_39 (by decide) (fun c_30 => ?_) (fun c_30 => ?_)
              · have f_30 : y3_4.toInt < 12 := r_lt rfl (by decide) c_30
                refine lv_bipush (v := (-4)) hx hb dX12_makes_46 (by decide) ?_
                refine th_iast E hT_c3 hS_c3 h_20 rfl (by decide) (vp_in_iff.mpr ⟨by omega, by omega⟩) dX12_makes_48 (fun H_31 locs_31 hT_31 hU_31 hS_31 => ?_)
                have hU_31 : AU 20 H_c3 H_31 (ρ a0 2) y3_4.toInt.toNat ((-4)) := hU_31
                have hL_31 : PL H_31 (ρ a0 2) := PL.free hI_c3.2.2.2.1 hU_31 (by omega)
                obtain ⟨x_32, ex_32⟩ : ∃ y : Int32, y3_4 + 1 = y := ⟨_, rfl⟩
                have q_x_32 : x_32.toInt = y3_4.toInt + 1 := i_add (k := 1) (by decide) ex_32 (by have := i_min y3_4; omega) (by have := i_max y3_4; omega)
                refine lv_iinc (v := x_32) (lv' := [(4, .int x_32), (0, .ref a0), (1, .int 1), (2, .int 6), (3, .int x2)]) hx hb dX12_makes_49 hl (k := 4) rfl (by rw [← ex_32]; rfl) (by decide) rfl (fun ls hl => ?_)
                refine lv_goto (tgt := 3) hx hb dX12_makes_52 (by decide) ?_
                exact ih_3 H_31 locs_31 _ x_32 hT_31 hS_31 (lv_sub hl [1, 2, 3, 4, 0] rfl) (by omega) ⟨(PW.q (hU_31.2 _ (th_ne (hW _ 12 0 ha0 (by decide) (by decide) (by decide)) (hW _ 12 2 ha0 (by decide) (by decide) (by decide)) (by decide))) hI_c3.1), (QS.same (ai_q (hU_31.2 _ (th_ne (hW _ 12 0 ha0 (by decide) (by decide) (by decide)) (hW _ 12 2 ha0 (by decide) (by decide) (by decide)) (by decide)))) (ai_q (hU_31.2 _ (th_ne (hW _ 12 0 ha0 (by decide) (by decide) (by decide)) (hW _ 12 2 ha0 (by decide) (by decide) (by decide)) (by decide)))) hI_c3.2.1), (QS.same (ai_q (hU_31.2 _ (th_ne (hW _ 12 0 ha0 (by decide) (by decide) (by decide)) (hW _ 12 2 ha0 (by decide) (by decide) (by decide)) (by decide)))) (ai_q (hU_31.2 _ (th_ne (hW _ 12 0 ha0 (by decide) (by decide) (by decide)) (hW _ 12 2 ha0 (by decide) (by decide) (by decide)) (by decide)))) hI_c3.2.2.1), hL_31, (PL.q (hU_31.2 _ (Ne.symm n23)) hI_c3.2.2.2.2.1), (IF.q (hU_31.2 _ (th_ne ha0 (hW _ 12 2 ha0 (by decide) (by decide) (by decide)) (by decide))) hI_c3.2.2.2.2.2)⟩ (by rw [(ai_q (hU_31.2 _ (th_ne (hW _ 12 0 ha0 (by decide) (by decide) (by decide)) (hW _ 12 2 ha0 (by decide) (by decide) (by decide)) (by decide))))]; omega) (by omega)
              · have f_30 : 12 ≤ y3_4.toInt := r_nlt rfl (by decide) c_30
                refine lv_iconst (v := 0) hx hb dX12_makes_42 (by decide) ?_
                refine lv_goto (tgt := 48) hx hb dX12_makes_43 (by decide) ?_
                refine th_iast E hT_c3 hS_c3 h_20 rfl (by decide) (vp_in_iff.mpr ⟨by omega, by omega⟩) dX12_makes_48 (fun H_33 locs_33 hT_33 hU_33 hS_33 => ?_)
                have hU_33 : AU 20 H_c3 H_33 (ρ a0 2) y3_4.toInt.toNat (0) := hU_33
                have hL_33 : PL H_33 (ρ a0 2) := PL.zero hI_c3.2.2.2.1 hU_33
                obtain ⟨x_34, ex_34⟩ : ∃ y : Int32, y3_4 + 1 = y := ⟨_, rfl⟩
                have q_x_34 : x_34.toInt = y3_4.toInt + 1 := i_add (k := 1) (by decide) ex_34 (by have := i_min y3_4; omega) (by have := i_max y3_4; omega)
                refine lv_iinc (v := x_34) (lv' := [(4, .int x_34), (0, .ref a0), (1, .int 1), (2, .int 6), (3, .int x2)]) hx hb dX12_makes_49 hl (k := 4) rfl (by rw [← ex_34]; rfl) (by decide) rfl (fun ls hl => ?_)
                refine lv_goto (tgt := 3) hx hb dX12_makes_52 (by decide) ?_
                exact ih_3 H_33 locs_33 _ x_34 hT_33 hS_33 (lv_sub hl [1, 2, 3, 4, 0] rfl) (by omega) ⟨(PW.q (hU_33.2 _ (th_ne (hW _ 12 0 ha0 (by decide) (by decide) (by decide)) (hW _ 12 2 ha0 (by decide) (by decide) (by decide)) (by decide))) hI_c3.1), (QS.same (ai_q (hU_33.2 _ (th_ne (hW _ 12 0 ha0 (by decide) (by decide) (by decide)) (hW _ 12 2 ha0 (by decide) (by decide) (by decide)) (by decide)))) (ai_q (hU_33.2 _ (th_ne (hW _ 12 0 ha0 (by decide) (by decide) (by decide)) (hW _ 12 2 ha0 (by decide) (by decide) (by decide)) (by decide)))) hI_c3.2.1), (QS.same (ai_q (hU_33.2 _ (th_ne (hW _ 12 0 ha0 (by decide) (by decide) (by decide)) (hW _ 12 2 ha0 (by decide) (by decide) (by decide)) (by decide)))) (ai_q (hU_33.2 _ (th_ne (hW _ 12 0 ha0 (by decide) (by decide) (by decide)) (hW _ 12 2 ha0 (by decide) (by decide) (by decide)) (by decide)))) hI_c3.2.2.1), hL_33, (PL.q (hU_33.2 _ (Ne.symm n23)) hI_c3.2.2.2.2.1), (IF.q (hU_33.2 _ (th_ne ha0 (hW _ 12 2 ha0 (by decide) (by decide) (by decide)) (by decide))) hI_c3.2.2.2.2.2)⟩ (by rw [(ai_q (hU_33.2 _ (th_ne (hW _ 12 0 ha0 (by decide) (by decide) (by decide)) (hW _ 12 2 ha0 (by decide) (by decide) (by decide)) (by decide))))]; omega) (by omega)
  refine lv_iconst (v := 0) hx hb dX12_makes_0 (by decide) ?_
  refine lv_istore (lv' := [(4, .int 0), (0, .ref a0), (1, .int 1), (2, .int 6), (3, .int x2)]) hx hb dX12_makes_1 hl (by decide) rfl (fun ls hl => ?_)
  exact L_3 _ H [] _ 0 hT hS (lv_sub hl [1, 2, 3, 4, 0] rfl) (by decide) ⟨hI.1, hI.2.1, hI.2.2.1, hI.2.2.2.1, hI.2.2.2.2.1, hI.2.2.2.2.2⟩ (by omega) (Nat.lt_succ_self _)
set_option maxHeartbeats 4000000 in
set_option maxRecDepth 100000 in
/-- the reference: data -/
theorem y_data_v6 (l : Launch) (D : va_G) (cI cS : ClassId) (τ : Nat → Option Nat) (ρ : Nat → Nat → Nat) (hW : WF τ ρ) (H : Heap) (hT : TH D cI cS τ ρ H) (a0 : Nat) (x1 : Int32) (x2 : Int32) (ha0 : τ a0 = some 12) (N : Int) (hN0 : 0 ≤ N) (hN1 : N ≤ 600) (hI : IM D ρ N H a0) (hp0 : 0 ≤ x1.toInt ∧ x1.toInt ≤ 700) (hp1 : 0 ≤ x2.toInt ∧ x2.toInt ≤ 8) : MV l D cI cS τ ρ yX12_data cX12_data 6 none 5 115 H [.ref a0, .int 1, .int x1, .int x2, .int 1] (fun (u : Heap) => (IM D ρ N u a0) ∧ ((ai H (ρ a0 0) 976).toInt ≤ (ai u (ρ a0 0) 976).toInt)) (fun q => q = ρ a0 2 ∨ q = ρ a0 0) := by
  refine MV.of (by decide) (Nat.le_of_ble_eq_true rfl) ?_
  intro p e s m args below meth c E hml hr hlk hs ls hl
  have hx := E.1
  have hb := E.2.1
  have hown := E.2.2.1
  have hts := E.2.2.2.1
  have hS : SS (fun q => q = ρ a0 2 ∨ q = ρ a0 0) H H [] := SS.rf
  have hl : lv_has ls 6 [(0, .ref a0), (1, .int 1), (2, .int x1), (3, .int x2), (4, .int 1)] := hl
  have n01 := hI.2.2.2.2.2.1
  have n23 := hI.2.2.2.2.2.2.1
  have J_103 : ∀ (H_c103 : Heap) (lc_c103 : List Loc) (ls : Array Slot) (y103_5 : Int32) (z103_2 : Int32), TH D cI cS τ ρ H_c103 → SS (fun q => q = ρ a0 2 ∨ q = ρ a0 0) H H_c103 lc_c103 → lv_has ls 6 [(0, .ref a0), (1, .int 1), (2, .int x1), (3, .int x2), (4, .int 1), (5, .int y103_5)] → 0 ≤ x1.toInt → x1.toInt ≤ 700 → 0 ≤ x2.toInt → x2.toInt ≤ 8 → 0 ≤ y103_5.toInt → y103_5.toInt ≤ 8 → IM D ρ N H_c103 a0 → (ai H (ρ a0 0) 976).toInt ≤ (ai H_c103 (ρ a0 0) 976).toInt → W p l e (rmO 5 115) s m args below meth c H_c103 lc_c103 0 0 (MQ below (va_Qv (fun (u : Heap) => (IM D ρ N u a0) ∧ ((ai H (ρ a0 0) 976).toInt ≤ (ai u (ρ a0 0) 976).toInt)) (Bt D cI cS τ ρ H) (fun q => q = ρ a0 2 ∨ q = ρ a0 0)) args s 0 0 (fun q => q = ρ a0 2 ∨ q = ρ a0 0)) (F0 m 103 ls [.int z103_2, .int 7, .ref (ρ a0 2)]) := by
    intro H_c103 lc_c103 ls y103_5 z103_2 hT_c103 hS_c103 hl ly103_2 uy103_2 ly103_3 uy103_3 ly103_5 uy103_5 hI_c103 hmn_c103
    refine th_iast E hT_c103 hS_c103 (hW _ 12 2 ha0 (by decide) (by decide) (by decide)) (Or.inl rfl) (by decide) (vp_in_iff.mpr ⟨by decide, by decide⟩) dX12_data_103 (fun H_1 locs_1 hT_1 hU_1 hS_1 => ?_)
    have hU_1 : AU 20 H_c103 H_1 (ρ a0 2) 7 z103_2 := hU_1
    have hL_1 : PL H_1 (ρ a0 2) := PL.put hI_c103.2.2.2.1 hU_1 (by show (-2147483648 : Int) ≤ _; exact i_min _) (by show _ ≤ (2147483647 : Int); exact i_max _)
    refine lv_aload_n hx hb dX12_data_104 rfl (lv_at hl 0 rfl) ?_
    refine th_Vv (As := []) (rest := []) E hml hl.1 (y_posts l D cI cS τ ρ hW H_1 hT_1 a0 ha0 N hN0 hN1 ⟨(PW.q (hU_1.2 _ (th_ne (hW _ 12 0 ha0 (by decide) (by decide) (by decide)) (hW _ 12 2 ha0 (by decide) (by decide) (by decide)) (by decide))) hI_c103.1), (QS.same (ai_q (hU_1.2 _ (th_ne (hW _ 12 0 ha0 (by decide) (by decide) (by decide)) (hW _ 12 2 ha0 (by decide) (by decide) (by decide)) (by decide)))) (ai_q (hU_1.2 _ (th_ne (hW _ 12 0 ha0 (by decide) (by decide) (by decide)) (hW _ 12 2 ha0 (by decide) (by decide) (by decide)) (by decide)))) hI_c103.2.1), (QS.same (ai_q (hU_1.2 _ (th_ne (hW _ 12 0 ha0 (by decide) (by decide) (by decide)) (hW _ 12 2 ha0 (by decide) (by decide) (by decide)) (by decide)))) (ai_q (hU_1.2 _ (th_ne (hW _ 12 0 ha0 (by decide) (by decide) (by decide)) (hW _ 12 2 ha0 (by decide) (by decide) (by decide)) (by decide)))) hI_c103.2.2.1), hL_1, (PL.q (hU_1.2 _ (Ne.symm n23)) hI_c103.2.2.2.2.1), (IF.q (hU_1.2 _ (th_ne ha0 (hW _ 12 2 ha0 (by decide) (by decide) (by decide)) (by decide))) hI_c103.2.2.2.2.2)⟩) lk_X12_129 yd_X12_posts hT_1 ha0 rfl (by decide) hS_1 (fun q h => (Or.inr h)) ⟨by decide, by decide⟩ (Nat.le_of_ble_eq_true rfl) ⟨by decide, by decide⟩ rfl dX12_data_105 (fun H_2 locs_2 p_2 hT_2 hk_2 hS_2 => ?_)
    have p_2 : (IM D ρ N H_2 a0) ∧ ((ai H_1 (ρ a0 0) 976).toInt ≤ (ai H_2 (ρ a0 0) 976).toInt) := p_2
    obtain ⟨p_2_0, p_2_1⟩ := p_2
    have mn_2 : (ai H_c103 (ρ a0 0) 976).toInt ≤ (ai H_2 (ρ a0 0) 976).toInt := by have h := p_2_1; rw [(ai_q (hU_1.2 _ (th_ne (hW _ 12 0 ha0 (by decide) (by decide) (by decide)) (hW _ 12 2 ha0 (by decide) (by decide) (by decide)) (by decide))))] at h; exact h
    exact th_vret E hr hlk hs hT_2 hS_2 ⟨⟨p_2_0.1, p_2_0.2.1, p_2_0.2.2.1, p_2_0.2.2.2.1, p_2_0.2.2.2.2.1, p_2_0.2.2.2.2.2⟩, (by omega)⟩ dX12_data_108
  have L_32 : ∀ (n : Nat) (H_c32 : Heap) (lc_c32 : List Loc) (ls : Array Slot) (y32_5 : Int32), TH D cI cS τ ρ H_c32 → SS (fun q => q = ρ a0 2 ∨ q = ρ a0 0) H H_c32 lc_c32 → lv_has ls 6 [(0, .ref a0), (1, .int 1), (2, .int x1), (3, .int x2), (4, .int 1), (5, .int y32_5)] → 0 ≤ x1.toInt → x1.toInt ≤ 700 → 0 ≤ x2.toInt → x2.toInt ≤ 8 → 0 ≤ y32_5.toInt → y32_5.toInt ≤ 8 → IM D ρ N H_c32 a0 → (ai H (ρ a0 0) 976).toInt ≤ (ai H_c32 (ρ a0 0) 976).toInt → (x2.toInt - y32_5.toInt).toNat < n → W p l e (rmO 5 115) s m args below meth c H_c32 lc_c32 0 0 (MQ below (va_Qv (fun (u : Heap) => (IM D ρ N u a0) ∧ ((ai H (ρ a0 0) 976).toInt ≤ (ai u (ρ a0 0) 976).toInt)) (Bt D cI cS τ ρ H) (fun q => q = ρ a0 2 ∨ q = ρ a0 0)) args s 0 0 (fun q => q = ρ a0 2 ∨ q = ρ a0 0)) (F0 m 32 ls []) := by
    intro n
    induction n with
    | zero => intro H_c32 lc_c32 ls y32_5 hT_c32 hS_c32 hl ly32_2 uy32_2 ly32_3 uy32_3 ly32_5 uy32_5 hI_c32 hmn_c32 hm; exact absurd hm (Nat.not_lt_zero _)
    | succ n ih_32 =>
      intro H_c32 lc_c32 ls y32_5 hT_c32 hS_c32 hl ly32_2 uy32_2 ly32_3 uy32_3 ly32_5 uy32_5 hI_c32 hmn_c32 hm_32
      refine lv_iload hx hb dX12_data_32 (lv_at hl 5 rfl) ?_
      refine lv_iload_n hx hb dX12_data_34 rfl (lv_at hl 3 rfl) ?_
      refine lv_icmp_ge (tgt := 69) hx hb dX12_data_35 (by decide) (fun c_3 => ?_) (fun c_3 => ?_)
      · have f_3 : x2.toInt ≤ y32_5.toInt := r_le rfl rfl c_3
        refine lv_aload_n hx hb dX12_data_69 rfl (lv_at hl 0 rfl) ?_
        refine gf_X12_16 E hT_c32 hW ha0 dX12_data_70 (fun h_4 => ?_)
        refine lv_bipush (v := 7) hx hb dX12_data_73 (by decide) ?_
        refine lv_iload_n hx hb dX12_data_75 rfl (lv_at hl 2 rfl) ?_
        refine lv_aload_n hx hb dX12_data_76 rfl (lv_at hl 0 rfl) ?_
        refine lv_iload_n hx hb dX12_data_77 rfl (lv_at hl 1 rfl) ?_
        refine lv_bipush (v := 14) hx hb dX12_data_78 (by decide) ?_
        refine th_Vi (As := [.int 1, .int 14]) (rest := [.int x1, .int 7, .ref (ρ a0 2)]) E hml hl.1 (y_get_v35 l D cI cS τ ρ hW H_c32 hT_c32 a0 ha0) lk_X12_99 yd_X12_get hT_c32 ha0 rfl (by decide) hS_c32 (fun _ h => h.elim) ⟨by decide, by decide⟩ (Nat.le_of_ble_eq_true rfl) ⟨by decide, by decide⟩ rfl dX12_data_80 (fun r_5 H_5 locs_5 p_5 hT_5 hk_5 hS_5 => ?_)
        have p_5 : H_c32 = H_5 ∧ (ai H_c32 (ρ a0 0) 302 = r_5) := p_5
        obtain ⟨rfl, p_5_0⟩ := p_5
        have c_r_5 := congrArg Int32.toInt p_5_0
        refine lv_icmp_ge (tgt := 101) hx hb dX12_data_83 (by decide) (fun c_6 => ?_) (fun c_6 => ?_)
        · have f_6 : r_5.toInt ≤ x1.toInt := r_le rfl rfl c_6
          refine lv_bipush (v := (-4)) hx hb dX12_data_101 (by decide) ?_
          exact J_103 H_c32 locs_5 _ y32_5 (-4) hT_5 hS_5 hl (by omega) (by omega) (by omega) (by omega) (by omega) (by omega) ⟨hI_c32.1, hI_c32.2.1, hI_c32.2.2.1, hI_c32.2.2.2.1, hI_c32.2.2.2.2.1, hI_c32.2.2.2.2.2⟩ (by omega)
        · have f_6 : x1.toInt < r_5.toInt := r_nle rfl rfl c_6
          refine lv_aload_n hx hb dX12_data_86 rfl (lv_at hl 0 rfl) ?_
          refine lv_iload_n hx hb dX12_data_87 rfl (lv_at hl 1 rfl) ?_
          refine lv_aload_n hx hb dX12_data_88 rfl (lv_at hl 0 rfl) ?_
          refine lv_iload_n hx hb dX12_data_89 rfl (lv_at hl 1 rfl) ?_
          refine lv_bipush (v := 14) hx hb dX12_data_90 (by decide) ?_
          refine th_Vi (As := [.int 1, .int 14]) (rest := [.int 1, .ref a0, .int 7, .ref (ρ a0 2)]) E hml hl.1 (y_get_v35 l D cI cS τ ρ hW H_c32 hT_5 a0 ha0) lk_X12_99 yd_X12_get hT_5 ha0 rfl (by decide) hS_5 (fun _ h => h.elim) ⟨by decide, by decide⟩ (Nat.le_of_ble_eq_true rfl) ⟨by decide, by decide⟩ rfl dX12_data_92 (fun r_7 H_7 locs_7 p_7 hT_7 hk_7 hS_7 => ?_)
          have p_7 : H_c32 = H_7 ∧ (ai H_c32 (ρ a0 0) 302 = r_7) := p_7
          obtain ⟨rfl, p_7_0⟩ := p_7
          have s_7 : r_7 = r_5 := p_7_0.symm.trans p_5_0
          refine th_topi s_7 ?_
          refine th_Vi (As := [.int 1, .int r_5]) (rest := [.int 7, .ref (ρ a0 2)]) E hml hl.1 (y_number_v2 l D cI cS τ ρ hW H_c32 hT_7 a0 r_5 ha0) lk_X12_112 yd_X12_number hT_7 ha0 rfl (by decide) hS_7 (fun _ h => h.elim) ⟨by decide, by decide⟩ (Nat.le_of_ble_eq_true rfl) ⟨by decide, by decide⟩ rfl dX12_data_95 (fun r_8 H_8 locs_8 p_8 hT_8 hk_8 hS_8 => ?_)
          have p_8 : H_c32 = H_8 := p_8
          obtain rfl := p_8
          refine lv_goto (tgt := 103) hx hb dX12_data_98 (by decide) ?_
          exact J_103 H_c32 locs_8 _ y32_5 r_8 hT_8 hS_8 hl (by omega) (by omega) (by omega) (by omega) (by omega) (by omega) ⟨hI_c32.1, hI_c32.2.1, hI_c32.2.2.1, hI_c32.2.2.2.1, hI_c32.2.2.2.2.1, hI_c32.2.2.2.2.2⟩ (by omega)
      · have f_3 : y32_5.toInt < x2.toInt := r_nle rfl rfl c_3
        refine lv_aload_n hx hb dX12_data_38 rfl (lv_at hl 0 rfl) ?_
        refine gf_X12_16 E hT_c32 hW ha0 dX12_data_39 (fun h_9 => ?_)
        refine lv_bipush (v := 12) hx hb dX12_data_42 (by decide) ?_
        refine lv_iload hx hb dX12_data_44 (lv_at hl 5 rfl) ?_
        refine lv_iadd hx hb dX12_data_46 ?_
        refine lv_topi (fun x_10 ex_10 => ?_)
        have q_10 : x_10.toInt = 12 + y32_5.toInt := i_pl (by decide) rfl ex_10 (by omega) (by omega)
        refine lv_aload_n hx hb dX12_data_47 rfl (lv_at hl 0 rfl) ?_
        refine lv_iload_n hx hb dX12_data_48 rfl (lv_at hl 1 rfl) ?_
        refine lv_bipush (v := 32) hx hb dX12_data_49 (by decide) ?_
        refine lv_iload_n hx hb dX12_data_51 rfl (lv_at hl 2 rfl) ?_
        refine lv_iload hx hb dX12_data_52 (lv_at hl 5 rfl) ?_
        refine lv_iadd hx hb dX12_data_54 ?_
        refine lv_topi (fun x_11 ex_11 => ?_)
        have q_11 : x_11.toInt = x1.toInt + y32_5.toInt := i_pl rfl rfl ex_11 (by omega) (by omega)
        refine lv_bipush (v := 64) hx hb dX12_data_55 (by decide) ?_
        refine lv_irem hx hb dX12_data_57 (by decide) ?_
        refine lv_topi (fun x_12 ex_12 => ?_)
        have q_12 := i_rem (k := 64) (x := x_11) (by decide) (by decide) ex_12
        have p_12 : 0 ≤ x_12.toInt := q_12.2.2 (by omega)
        refine lv_iadd hx hb dX12_data_58 ?_
        refine lv_topi (fun x_13 ex_13 => ?_)
        have q_13 : x_13.toInt = 32 + x_12.toInt := i_pl (by decide) rfl ex_13 (by omega) (by omega)
        refine th_Vi (As := [.int 1, .int x_13]) (rest := [.int x_10, .ref (ρ a0 2)]) E hml hl.1 (y_get_v6 l D cI cS τ ρ hW H_c32 hT_c32 a0 x_13 ha0 (by omega)) lk_X12_99 yd_X12_get hT_c32 ha0 rfl (by decide) hS_c32 (fun _ h => h.elim) ⟨by decide, by decide⟩ (Nat.le_of_ble_eq_true rfl) ⟨by decide, by decide⟩ rfl dX12_data_59 (fun r_14 H_14 locs_14 p_14 hT_14 hk_14 hS_14 => ?_)
        have p_14 : H_c32 = H_14 ∧ (ai H_c32 (ρ a0 0) (288 + x_13.toInt).toNat = r_14) := p_14
        obtain ⟨rfl, p_14_0⟩ := p_14
        refine th_iast E hT_14 hS_14 h_9 (Or.inl rfl) (by decide) (vp_in_iff.mpr ⟨by omega, by omega⟩) dX12_data_62 (fun H_15 locs_15 hT_15 hU_15 hS_15 => ?_)
        have hU_15 : AU 20 H_c32 H_15 (ρ a0 2) x_10.toInt.toNat r_14 := hU_15
        have hL_15 : PL H_15 (ρ a0 2) := PL.free hI_c32.2.2.2.1 hU_15 (by omega)
        obtain ⟨x_16, ex_16⟩ : ∃ y : Int32, y32_5 + 1 = y := ⟨_, rfl⟩
        have q_x_16 : x_16.toInt = y32_5.toInt + 1 := i_add (k := 1) (by decide) ex_16 (by have := i_min y32_5; omega) (by have := i_max y32_5; omega)
        refine lv_iinc (v := x_16) (lv' := [(5, .int x_16), (0, .ref a0), (1, .int 1), (2, .int x1), (3, .int x2), (4, .int 1)]) hx hb dX12_data_63 hl (k := 5) rfl (by rw [← ex_16]; rfl) (by decide) rfl (fun ls hl => ?_)
        refine lv_goto (tgt := 32) hx hb dX12_data_66 (by decide) ?_
        exact ih_32 H_15 locs_15 _ x_16 hT_15 hS_15 (lv_sub hl [1, 2, 3, 4, 5, 0] rfl) (by omega) (by omega) (by omega) (by omega) (by omega) (by omega) ⟨(PW.q (hU_15.2 _ (th_ne (hW _ 12 0 ha0 (by decide) (by decide) (by decide)) (hW _ 12 2 ha0 (by decide) (by decide) (by decide)) (by decide))) hI_c32.1), (QS.same (ai_q (hU_15.2 _ (th_ne (hW _ 12 0 ha0 (by decide) (by decide) (by decide)) (hW _ 12 2 ha0 (by decide) (by decide) (by decide)) (by decide)))) (ai_q (hU_15.2 _ (th_ne (hW _ 12 0 ha0 (by decide) (by decide) (by decide)) (hW _ 12 2 ha0 (by decide) (by decide) (by decide)) (by decide)))) hI_c32.2.1), (QS.same (ai_q (hU_15.2 _ (th_ne (hW _ 12 0 ha0 (by decide) (by decide) (by decide)) (hW _ 12 2 ha0 (by decide) (by decide) (by decide)) (by decide)))) (ai_q (hU_15.2 _ (th_ne (hW _ 12 0 ha0 (by decide) (by decide) (by decide)) (hW _ 12 2 ha0 (by decide) (by decide) (by decide)) (by decide)))) hI_c32.2.2.1), hL_15, (PL.q (hU_15.2 _ (Ne.symm n23)) hI_c32.2.2.2.2.1), (IF.q (hU_15.2 _ (th_ne ha0 (hW _ 12 2 ha0 (by decide) (by decide) (by decide)) (by decide))) hI_c32.2.2.2.2.2)⟩ (by rw [(ai_q (hU_15.2 _ (th_ne (hW _ 12 0 ha0 (by decide) (by decide) (by decide)) (hW _ 12 2 ha0 (by decide) (by decide) (by decide)) (by decide))))]; omega) (by omega)
  have J_13 : ∀ (H_c13 : Heap) (lc_c13 : List Loc) (ls : Array Slot), TH D cI cS τ ρ H_c13 → SS (fun q => q = ρ a0 2 ∨ q = ρ a0 0) H H_c13 lc_c13 → lv_has ls 6 [(0, .ref a0), (1, .int 1), (2, .int x1), (3, .int x2), (4, .int 1)] → 0 ≤ x1.toInt → x1.toInt ≤ 700 → 0 ≤ x2.toInt → x2.toInt ≤ 8 → IM D ρ N H_c13 a0 → (ai H (ρ a0 0) 976).toInt ≤ (ai H_c13 (ρ a0 0) 976).toInt → W p l e (rmO 5 115) s m args below meth c H_c13 lc_c13 0 0 (MQ below (va_Qv (fun (u : Heap) => (IM D ρ N u a0) ∧ ((ai H (ρ a0 0) 976).toInt ≤ (ai u (ρ a0 0) 976).toInt)) (Bt D cI cS τ ρ H) (fun q => q = ρ a0 2 ∨ q = ρ a0 0)) args s 0 0 (fun q => q = ρ a0 2 ∨ q = ρ a0 0)) (F0 m 13 ls [.int 6, .int 1, .ref a0]) := by
    intro H_c13 lc_c13 ls hT_c13 hS_c13 hl ly13_2 uy13_2 ly13_3 uy13_3 hI_c13 hmn_c13
    refine lv_aload_n hx hb dX12_data_13 rfl (lv_at hl 0 rfl) ?_
    refine lv_iload_n hx hb dX12_data_14 rfl (lv_at hl 1 rfl) ?_
    refine lv_iload_n hx hb dX12_data_15 rfl (lv_at hl 2 rfl) ?_
    refine th_Vi (As := [.int 1, .int x1]) (rest := [.int 6, .int 1, .ref a0]) E hml hl.1 (y_number_v2 l D cI cS τ ρ hW H_c13 hT_c13 a0 x1 ha0) lk_X12_112 yd_X12_number hT_c13 ha0 rfl (by decide) hS_c13 (fun _ h => h.elim) ⟨by decide, by decide⟩ (Nat.le_of_ble_eq_true rfl) ⟨by decide, by decide⟩ rfl dX12_data_16 (fun r_17 H_17 locs_17 p_17 hT_17 hk_17 hS_17 => ?_)
    have p_17 : H_c13 = H_17 := p_17
    obtain rfl := p_17
    refine th_Vv (As := [.int 1, .int 6, .int r_17]) (rest := []) E hml hl.1 (y_makes_v6 l D cI cS τ ρ hW H_c13 hT_17 a0 r_17 ha0 N hN0 hN1 ⟨hI_c13.1, hI_c13.2.1, hI_c13.2.2.1, hI_c13.2.2.2.1, hI_c13.2.2.2.2.1, hI_c13.2.2.2.2.2⟩) lk_X12_126 yd_X12_makes hT_17 ha0 rfl (by decide) hS_17 (fun q h => (Or.inl h)) ⟨by decide, by decide⟩ (Nat.le_of_ble_eq_true rfl) ⟨by decide, by decide⟩ rfl dX12_data_19 (fun H_18 locs_18 p_18 hT_18 hk_18 hS_18 => ?_)
    have p_18 : (IM D ρ N H_18 a0) ∧ ((ai H_c13 (ρ a0 0) 976).toInt ≤ (ai H_18 (ρ a0 0) 976).toInt) := p_18
    obtain ⟨p_18_0, p_18_1⟩ := p_18
    have mn_18 : (ai H_c13 (ρ a0 0) 976).toInt ≤ (ai H_18 (ρ a0 0) 976).toInt := by exact p_18_1
    refine lv_aload_n hx hb dX12_data_22 rfl (lv_at hl 0 rfl) ?_
    refine gf_X12_16 E hT_18 hW ha0 dX12_data_23 (fun h_19 => ?_)
    refine lv_iconst (v := 5) hx hb dX12_data_26 (by decide) ?_
    refine lv_iload_n hx hb dX12_data_27 rfl (lv_at hl 3 rfl) ?_
    refine th_iast E hT_18 hS_18 h_19 (Or.inl rfl) (by decide) (vp_in_iff.mpr ⟨by decide, by decide⟩) dX12_data_28 (fun H_20 locs_20 hT_20 hU_20 hS_20 => ?_)
    have hU_20 : AU 20 H_18 H_20 (ρ a0 2) 5 x2 := hU_20
    have hL_20 : PL H_20 (ρ a0 2) := PL.put p_18_0.2.2.2.1 hU_20 (by show (0 : Int) ≤ x2.toInt; omega) (by show x2.toInt ≤ (8 : Int); omega)
    refine lv_iconst (v := 0) hx hb dX12_data_29 (by decide) ?_
    refine lv_istore (lv' := [(5, .int 0), (0, .ref a0), (1, .int 1), (2, .int x1), (3, .int x2), (4, .int 1)]) hx hb dX12_data_30 hl (by decide) rfl (fun ls hl => ?_)
    exact L_32 _ H_20 locs_20 _ 0 hT_20 hS_20 (lv_sub hl [1, 2, 3, 4, 5, 0] rfl) (by omega) (by omega) (by omega) (by omega) (by decide) (by decide) ⟨(PW.q (hU_20.2 _ (th_ne (hW _ 12 0 ha0 (by decide) (by decide) (by decide)) (hW _ 12 2 ha0 (by decide) (by decide) (by decide)) (by decide))) p_18_0.1), (QS.same ((Eq.trans (ai_q (hU_20.2 _ (th_ne (hW _ 12 0 ha0 (by decide) (by decide) (by decide)) (hW _ 12 2 ha0 (by decide) (by decide) (by decide)) (by decide)))) (ai_q (hk_18 _ (th_ne (hW _ 12 0 ha0 (by decide) (by decide) (by decide)) (hW _ 12 2 ha0 (by decide) (by decide) (by decide)) (by decide))))).trans (ai_q (hk_18 _ (th_ne (hW _ 12 0 ha0 (by decide) (by decide) (by decide)) (hW _ 12 2 ha0 (by decide) (by decide) (by decide)) (by decide)))).symm) ((Eq.trans (ai_q (hU_20.2 _ (th_ne (hW _ 12 0 ha0 (by decide) (by decide) (by decide)) (hW _ 12 2 ha0 (by decide) (by decide) (by decide)) (by decide)))) (ai_q (hk_18 _ (th_ne (hW _ 12 0 ha0 (by decide) (by decide) (by decide)) (hW _ 12 2 ha0 (by decide) (by decide) (by decide)) (by decide))))).trans (ai_q (hk_18 _ (th_ne (hW _ 12 0 ha0 (by decide) (by decide) (by decide)) (hW _ 12 2 ha0 (by decide) (by decide) (by decide)) (by decide)))).symm) p_18_0.2.1), (QS.same ((Eq.trans (ai_q (hU_20.2 _ (th_ne (hW _ 12 0 ha0 (by decide) (by decide) (by decide)) (hW _ 12 2 ha0 (by decide) (by decide) (by decide)) (by decide)))) (ai_q (hk_18 _ (th_ne (hW _ 12 0 ha0 (by decide) (by decide) (by decide)) (hW _ 12 2 ha0 (by decide) (by decide) (by decide)) (by decide))))).trans (ai_q (hk_18 _ (th_ne (hW _ 12 0 ha0 (by decide) (by decide) (by decide)) (hW _ 12 2 ha0 (by decide) (by decide) (by decide)) (by decide)))).symm) ((Eq.trans (ai_q (hU_20.2 _ (th_ne (hW _ 12 0 ha0 (by decide) (by decide) (by decide)) (hW _ 12 2 ha0 (by decide) (by decide) (by decide)) (by decide)))) (ai_q (hk_18 _ (th_ne (hW _ 12 0 ha0 (by decide) (by decide) (by decide)) (hW _ 12 2 ha0 (by decide) (by decide) (by decide)) (by decide))))).trans (ai_q (hk_18 _ (th_ne (hW _ 12 0 ha0 (by decide) (by decide) (by decide)) (hW _ 12 2 ha0 (by decide) (by decide) (by decide)) (by decide)))).symm) p_18_0.2.2.1), hL_20, (PL.q (hU_20.2 _ (Ne.symm n23)) p_18_0.2.2.2.2.1), (IF.q (hU_20.2 _ (th_ne ha0 (hW _ 12 2 ha0 (by decide) (by decide) (by decide)) (by decide))) p_18_0.2.2.2.2.2)⟩ (by rw [(Eq.trans (ai_q (hU_20.2 _ (th_ne (hW _ 12 0 ha0 (by decide) (by decide) (by decide)) (hW _ 12 2 ha0 (by decide) (by decide) (by decide)) (by decide)))) (ai_q (hk_18 _ (th_ne (hW _ 12 0 ha0 (by decide) (by decide) (by decide)) (hW _ 12 2 ha0 (by decide) (by decide) (by decide)) (by decide)))))]; omega) (Nat.lt_succ_self _)
  refine lv_aload_n hx hb dX12_data_0 rfl (lv_at hl 0 rfl) ?_
  refine lv_iload_n hx hb dX12_data_1 rfl (lv_at hl 1 rfl) ?_
  refine lv_iload hx hb dX12_data_2 (lv_at hl 4 rfl) ?_
  refine lv_if_eq (tgt := 12) hx hb dX12_data_4 (by decide) (fun c_21 => absurd c_21 (by decide)) (fun c_21 => ?_)
  refine lv_bipush (v := 6) hx hb dX12_data_7 (by decide) ?_
  refine lv_goto (tgt := 13) hx hb dX12_data_9 (by decide) ?_
  exact J_13 H [] _ hT hS hl (by omega) (by omega) (by omega) (by omega) ⟨hI.1, hI.2.1, hI.2.2.1, hI.2.2.2.1, hI.2.2.2.2.1, hI.2.2.2.2.2⟩ (by omega)
set_option maxHeartbeats 4000000 in
set_option maxRecDepth 100000 in
/-- the reference: set -/
theorem y_set_v51 (l : Launch) (D : va_G) (cI cS : ClassId) (τ : Nat → Option Nat) (ρ : Nat → Nat → Nat) (hW : WF τ ρ) (H : Heap) (hT : TH D cI cS τ ρ H) (a0 : Nat) (ha0 : τ a0 = some 12) : MV l D cI cS τ ρ yX12_set cX12_set 4 none 0 0 H [.ref a0, .int 1, .int 0, .int 9] (fun (u : Heap) => (AU 985 H u (ρ a0 0) 288 (9))) (fun q => q = ρ a0 0) := by
  refine MV.of (by decide) (Nat.le_of_ble_eq_true rfl) ?_
  intro p e s m args below meth c E hml hr hlk hs ls hl
  have hx := E.1
  have hb := E.2.1
  have hown := E.2.2.1
  have hts := E.2.2.2.1
  have hS : SS (fun q => q = ρ a0 0) H H [] := SS.rf
  have hl : lv_has ls 4 [(0, .ref a0), (1, .int 1), (2, .int 0), (3, .int 9)] := hl
  refine lv_aload_n hx hb dX12_set_0 rfl (lv_at hl 0 rfl) ?_
  refine gf_X12_7 E hT hW ha0 dX12_set_1 (fun h_1 => ?_)
  refine lv_sipush (v := 288) hx hb dX12_set_4 (by decide) ?_
  refine lv_iload_n hx hb dX12_set_7 rfl (lv_at hl 1 rfl) ?_
  refine lv_imul hx hb dX12_set_8 ?_
  refine th_topi (y := 288) (by decide) ?_
  refine lv_iload_n hx hb dX12_set_9 rfl (lv_at hl 2 rfl) ?_
  refine lv_iadd hx hb dX12_set_10 ?_
  refine th_topi (y := 288) (by decide) ?_
  refine lv_iload_n hx hb dX12_set_11 rfl (lv_at hl 3 rfl) ?_
  refine th_iast E hT hS h_1 rfl (by decide) (vp_in_iff.mpr ⟨by decide, by decide⟩) dX12_set_12 (fun H_2 locs_2 hT_2 hU_2 hS_2 => ?_)
  have hU_2 : AU 985 H H_2 (ρ a0 0) 288 (9) := hU_2
  exact th_vret E hr hlk hs hT_2 hS_2 hU_2 dX12_set_13
set_option maxHeartbeats 4000000 in
set_option maxRecDepth 100000 in
/-- the reference: set -/
theorem y_set_v52 (l : Launch) (D : va_G) (cI cS : ClassId) (τ : Nat → Option Nat) (ρ : Nat → Nat → Nat) (hW : WF τ ρ) (H : Heap) (hT : TH D cI cS τ ρ H) (a0 : Nat) (ha0 : τ a0 = some 12) : MV l D cI cS τ ρ yX12_set cX12_set 4 none 0 0 H [.ref a0, .int 1, .int 0, .int 5] (fun (u : Heap) => (AU 985 H u (ρ a0 0) 288 (5))) (fun q => q = ρ a0 0) := by
  refine MV.of (by decide) (Nat.le_of_ble_eq_true rfl) ?_
  intro p e s m args below meth c E hml hr hlk hs ls hl
  have hx := E.1
  have hb := E.2.1
  have hown := E.2.2.1
  have hts := E.2.2.2.1
  have hS : SS (fun q => q = ρ a0 0) H H [] := SS.rf
  have hl : lv_has ls 4 [(0, .ref a0), (1, .int 1), (2, .int 0), (3, .int 5)] := hl
  refine lv_aload_n hx hb dX12_set_0 rfl (lv_at hl 0 rfl) ?_
  refine gf_X12_7 E hT hW ha0 dX12_set_1 (fun h_1 => ?_)
  refine lv_sipush (v := 288) hx hb dX12_set_4 (by decide) ?_
  refine lv_iload_n hx hb dX12_set_7 rfl (lv_at hl 1 rfl) ?_
  refine lv_imul hx hb dX12_set_8 ?_
  refine th_topi (y := 288) (by decide) ?_
  refine lv_iload_n hx hb dX12_set_9 rfl (lv_at hl 2 rfl) ?_
  refine lv_iadd hx hb dX12_set_10 ?_
  refine th_topi (y := 288) (by decide) ?_
  refine lv_iload_n hx hb dX12_set_11 rfl (lv_at hl 3 rfl) ?_
  refine th_iast E hT hS h_1 rfl (by decide) (vp_in_iff.mpr ⟨by decide, by decide⟩) dX12_set_12 (fun H_2 locs_2 hT_2 hU_2 hS_2 => ?_)
  have hU_2 : AU 985 H H_2 (ρ a0 0) 288 (5) := hU_2
  exact th_vret E hr hlk hs hT_2 hS_2 hU_2 dX12_set_13
set_option maxHeartbeats 4000000 in
set_option maxRecDepth 100000 in
/-- the reference: sends -/
theorem y_sends_v5 (l : Launch) (D : va_G) (cI cS : ClassId) (τ : Nat → Option Nat) (ρ : Nat → Nat → Nat) (hW : WF τ ρ) (H : Heap) (hT : TH D cI cS τ ρ H) (a0 : Nat) (x1 : Int32) (ha0 : τ a0 = some 12) (N : Int) (hN0 : 0 ≤ N) (hN1 : N ≤ 600) (hI : IM D ρ N H a0) (hp0 : 0 ≤ x1.toInt ∧ x1.toInt ≤ 8) (hp1 : (ai H (ρ a0 0) 290).toInt + x1.toInt ≤ N + 1) : MV l D cI cS τ ρ yX12_sends cX12_sends 6 none 6 140 H [.ref a0, .int 1, .int x1, .int 1] (fun (u : Heap) => (IM D ρ N u a0) ∧ ((ai u (ρ a0 0) 290).toInt = (ai H (ρ a0 0) 290).toInt + x1.toInt + 1) ∧ ((ai H (ρ a0 0) 976).toInt ≤ (ai u (ρ a0 0) 976).toInt)) (fun q => q = ρ a0 2 ∨ q = ρ a0 0) := by
  refine MV.of (by decide) (Nat.le_of_ble_eq_true rfl) ?_
  intro p e s m args below meth c E hml hr hlk hs ls hl
  have hx := E.1
  have hb := E.2.1
  have hown := E.2.2.1
  have hts := E.2.2.2.1
  have hS : SS (fun q => q = ρ a0 2 ∨ q = ρ a0 0) H H [] := SS.rf
  have hl : lv_has ls 6 [(0, .ref a0), (1, .int 1), (2, .int x1), (3, .int 1)] := hl
  have n01 := hI.2.2.2.2.2.1
  have n23 := hI.2.2.2.2.2.2.1
  refine lv_aload_n hx hb dX12_sends_0 rfl (lv_at hl 0 rfl) ?_
  refine lv_iload_n hx hb dX12_sends_1 rfl (lv_at hl 1 rfl) ?_
  refine lv_iconst (v := 2) hx hb dX12_sends_2 (by decide) ?_
  refine th_Vi (As := [.int 1, .int 2]) (rest := []) E hml hl.1 (y_get_v32 l D cI cS τ ρ hW H hT a0 ha0) lk_X12_99 yd_X12_get hT ha0 rfl (by decide) hS (fun _ h => h.elim) ⟨by decide, by decide⟩ (Nat.le_of_ble_eq_true rfl) ⟨by decide, by decide⟩ rfl dX12_sends_3 (fun r_1 H_1 locs_1 p_1 hT_1 hk_1 hS_1 => ?_)
  have p_1 : H = H_1 ∧ (ai H (ρ a0 0) 290 = r_1) := p_1
  obtain ⟨rfl, p_1_0⟩ := p_1
  have b_r_1 : 0 ≤ r_1.toInt ∧ r_1.toInt ≤ N + 2 := by rw [← p_1_0]; exact hI.1 290 (by decide)
  have c_r_1 := congrArg Int32.toInt p_1_0
  refine lv_istore (lv' := [(4, .int r_1), (0, .ref a0), (1, .int 1), (2, .int x1), (3, .int 1)]) hx hb dX12_sends_6 hl (by decide) rfl (fun ls hl => ?_)
  refine lv_iload_n hx hb dX12_sends_8 rfl (lv_at hl 3 rfl) ?_
  refine lv_iload_n hx hb dX12_sends_9 rfl (lv_at hl 4 rfl) ?_
  refine lv_if_eq (tgt := 17) hx hb dX12_sends_10 (by decide) (fun c_2 => absurd c_2 (by decide)) (fun c_2 => ?_)
  refine lv_iconst (v := 1) hx hb dX12_sends_13 (by decide) ?_
  refine lv_goto (tgt := 18) hx hb dX12_sends_14 (by decide) ?_
  refine lv_iadd hx hb dX12_sends_18 ?_
  refine lv_topi (fun x_3 ex_3 => ?_)
  have q_3 : x_3.toInt = x1.toInt + 1 := i_pl rfl (by decide) ex_3 (by omega) (by omega)
  refine lv_istore (lv' := [(5, .int x_3), (4, .int r_1), (0, .ref a0), (1, .int 1), (2, .int x1), (3, .int 1)]) hx hb dX12_sends_19 hl (by decide) rfl (fun ls hl => ?_)
  refine lv_aload_n hx hb dX12_sends_21 rfl (lv_at hl 2 rfl) ?_
  refine lv_iload_n hx hb dX12_sends_22 rfl (lv_at hl 3 rfl) ?_
  refine lv_iload hx hb dX12_sends_23 (lv_at hl 1 rfl) ?_
  refine lv_iload_n hx hb dX12_sends_25 rfl (lv_at hl 4 rfl) ?_
  refine lv_iload_n hx hb dX12_sends_26 rfl (lv_at hl 5 rfl) ?_
  refine th_Vv (As := [.int 1, .int r_1, .int x1, .int 1]) (rest := []) E hml hl.1 (y_data_v6 l D cI cS τ ρ hW H hT_1 a0 r_1 x1 ha0 N hN0 hN1 ⟨hI.1, hI.2.1, hI.2.2.1, hI.2.2.2.1, hI.2.2.2.2.1, hI.2.2.2.2.2⟩ (by omega) (by omega)) lk_X12_139 yd_X12_data hT_1 ha0 rfl (by decide) hS_1 (fun q => (fun h => h.elim (fun h => (Or.inl h)) (fun h => (Or.inr h)))) ⟨by decide, by decide⟩ (Nat.le_of_ble_eq_true rfl) ⟨by decide, by decide⟩ rfl dX12_sends_27 (fun H_4 locs_4 p_4 hT_4 hk_4 hS_4 => ?_)
  have p_4 : (IM D ρ N H_4 a0) ∧ ((ai H (ρ a0 0) 976).toInt ≤ (ai H_4 (ρ a0 0) 976).toInt) := p_4
  obtain ⟨p_4_0, p_4_1⟩ := p_4
  have mn_4 : (ai H (ρ a0 0) 976).toInt ≤ (ai H_4 (ρ a0 0) 976).toInt := by exact p_4_1
  refine lv_aload_n hx hb dX12_sends_30 rfl (lv_at hl 2 rfl) ?_
  refine lv_iload_n hx hb dX12_sends_31 rfl (lv_at hl 3 rfl) ?_
  refine lv_iload hx hb dX12_sends_32 (lv_at hl 1 rfl) ?_
  refine lv_iload hx hb dX12_sends_34 (lv_at hl 0 rfl) ?_
  refine lv_iadd hx hb dX12_sends_36 ?_
  refine lv_topi (fun x_5 ex_5 => ?_)
  have q_5 : x_5.toInt = r_1.toInt + x_3.toInt := i_pl rfl rfl ex_5 (by omega) (by omega)
  refine lv_iconst (v := 1) hx hb dX12_sends_37 (by decide) ?_
  refine lv_isub hx hb dX12_sends_38 ?_
  refine lv_topi (fun x_6 ex_6 => ?_)
  have q_6 : x_6.toInt = x_5.toInt - 1 := i_mi rfl (by decide) ex_6 (by omega) (by omega)
  refine th_Vv (As := [.int 1, .int x_6]) (rest := []) E hml hl.1 (y_times_v2 l D cI cS τ ρ hW H_4 hT_4 a0 x_6 ha0 N hN0 hN1 ⟨p_4_0.1, p_4_0.2.1, p_4_0.2.2.1, p_4_0.2.2.2.1, p_4_0.2.2.2.2.1, p_4_0.2.2.2.2.2⟩) lk_X12_143 yd_X12_times hT_4 ha0 rfl (by decide) hS_4 (fun q h => (Or.inr h)) ⟨by decide, by decide⟩ (Nat.le_of_ble_eq_true rfl) ⟨by decide, by decide⟩ rfl dX12_sends_39 (fun H_7 locs_7 p_7 hT_7 hk_7 hS_7 => ?_)
  have p_7 : (IM D ρ N H_7 a0) ∧ ((ai H_4 (ρ a0 0) 976).toInt ≤ (ai H_7 (ρ a0 0) 976).toInt) := p_7
  obtain ⟨p_7_0, p_7_1⟩ := p_7
  have mn_7 : (ai H_4 (ρ a0 0) 976).toInt ≤ (ai H_7 (ρ a0 0) 976).toInt := by exact p_7_1
  refine lv_aload_n hx hb dX12_sends_42 rfl (lv_at hl 2 rfl) ?_
  refine lv_iload_n hx hb dX12_sends_43 rfl (lv_at hl 3 rfl) ?_
  refine lv_iconst (v := 2) hx hb dX12_sends_44 (by decide) ?_
  refine lv_iload hx hb dX12_sends_45 (lv_at hl 1 rfl) ?_
  refine lv_iload hx hb dX12_sends_47 (lv_at hl 0 rfl) ?_
  refine lv_iadd hx hb dX12_sends_49 ?_
  refine lv_topi (fun x_8 ex_8 => ?_)
  have q_8 : x_8.toInt = r_1.toInt + x_3.toInt := i_pl rfl rfl ex_8 (by omega) (by omega)
  refine th_Vv (As := [.int 1, .int 2, .int x_8]) (rest := []) E hml hl.1 (y_set_v50 l D cI cS τ ρ hW H_7 hT_7 a0 x_8 ha0) lk_X12_95 yd_X12_set hT_7 ha0 rfl (by decide) hS_7 (fun q h => (Or.inr h)) ⟨by decide, by decide⟩ (Nat.le_of_ble_eq_true rfl) ⟨by decide, by decide⟩ rfl dX12_sends_50 (fun H_9 locs_9 p_9 hT_9 hk_9 hS_9 => ?_)
  have p_9 : (AU 985 H_7 H_9 (ρ a0 0) 290 x_8) := p_9
  have hW_9 : PW N H_9 (ρ a0 0) := PW.put p_7_0.1 p_9 (by show (0 : Int) ≤ x_8.toInt; omega) (by show x_8.toInt ≤ (N + 2 : Int); omega)
  refine lv_iload_n hx hb dX12_sends_53 rfl (lv_at hl 5 rfl) ?_
  refine lv_if_eq (tgt := 79) hx hb dX12_sends_54 (by decide) (fun c_10 => absurd c_10 (by decide)) (fun c_10 => ?_)
  refine lv_aload_n hx hb dX12_sends_57 rfl (lv_at hl 2 rfl) ?_
  refine lv_iload_n hx hb dX12_sends_58 rfl (lv_at hl 3 rfl) ?_
  refine lv_iconst (v := 0) hx hb dX12_sends_59 (by decide) ?_
  refine lv_aload_n hx hb dX12_sends_60 rfl (lv_at hl 2 rfl) ?_
  refine lv_iload_n hx hb dX12_sends_61 rfl (lv_at hl 3 rfl) ?_
  refine lv_iconst (v := 0) hx hb dX12_sends_62 (by decide) ?_
  refine th_Vi (As := [.int 1, .int 0]) (rest := [.int 0, .int 1, .ref a0]) E hml hl.1 (y_get_v20 l D cI cS τ ρ hW H_9 hT_9 a0 ha0) lk_X12_99 yd_X12_get hT_9 ha0 rfl (by decide) hS_9 (fun _ h => h.elim) ⟨by decide, by decide⟩ (Nat.le_of_ble_eq_true rfl) ⟨by decide, by decide⟩ rfl dX12_sends_63 (fun r_11 H_11 locs_11 p_11 hT_11 hk_11 hS_11 => ?_)
  have p_11 : H_9 = H_11 ∧ (ai H_9 (ρ a0 0) 288 = r_11) := p_11
  obtain ⟨rfl, p_11_0⟩ := p_11
  have t_11 : ai H_7 (ρ a0 0) 288 = r_11 := (AU.o p_9 (by decide) (by decide)).symm.trans p_11_0
  have c_r_11 := congrArg Int32.toInt t_11
  refine lv_iconst (v := 4) hx hb dX12_sends_66 (by decide) ?_
  refine lv_icmp_ne (tgt := 74) hx hb dX12_sends_67 (by decide) (fun c_12 => ?_) (fun c_12 => ?_)
  · have f_12 : ¬ r_11.toInt = 4 := r_ne rfl (by decide) c_12
    refine lv_bipush (v := 9) hx hb dX12_sends_74 (by decide) ?_
    refine th_Vv (As := [.int 1, .int 0, .int 9]) (rest := []) E hml hl.1 (y_set_v51 l D cI cS τ ρ hW H_9 hT_11 a0 ha0) lk_X12_95 yd_X12_set hT_11 ha0 rfl (by decide) hS_11 (fun q h => (Or.inr h)) ⟨by decide, by decide⟩ (Nat.le_of_ble_eq_true rfl) ⟨by decide, by decide⟩ rfl dX12_sends_76 (fun H_13 locs_13 p_13 hT_13 hk_13 hS_13 => ?_)
    have p_13 : (AU 985 H_9 H_13 (ρ a0 0) 288 (9)) := p_13
    have hW_13 : PW N H_13 (ρ a0 0) := PW.put hW_9 p_13 (by show (-2147483648 : Int) ≤ _; exact i_min _) (by show _ ≤ (2147483647 : Int); exact i_max _)
    exact th_vret E hr hlk hs hT_13 hS_13 ⟨⟨hW_13, (QS.same (Eq.trans (AU.o p_13 (by decide) (by decide)) (AU.o p_9 (by decide) (by decide))) (Eq.trans (AU.o p_13 (by decide) (by decide)) (AU.o p_9 (by decide) (by decide))) p_7_0.2.1), (QS.of (s := (9 : Int32)) (t := (x_8 : Int32)) (AU.s p_13 (by decide)) (Eq.trans (AU.o p_13 (by decide) (by decide)) (AU.s p_9 (by decide))) (by have j := p_7_0.2.2.1; unfold QS at j; have : (ai H_7 (ρ a0 0) 288).toInt = (r_11 : Int32).toInt := congrArg Int32.toInt t_11; have : (9 : Int32).toInt = 9 := (by decide); omega)), (PL.q (p_13.2 _ (th_ne (hW _ 12 2 ha0 (by decide) (by decide) (by decide)) (hW _ 12 0 ha0 (by decide) (by decide) (by decide)) (by decide))) (PL.q (p_9.2 _ (th_ne (hW _ 12 2 ha0 (by decide) (by decide) (by decide)) (hW _ 12 0 ha0 (by decide) (by decide) (by decide)) (by decide))) p_7_0.2.2.2.1)), (PL.q (p_13.2 _ (th_ne (hW _ 12 3 ha0 (by decide) (by decide) (by decide)) (hW _ 12 0 ha0 (by decide) (by decide) (by decide)) (by decide))) (PL.q (p_9.2 _ (th_ne (hW _ 12 3 ha0 (by decide) (by decide) (by decide)) (hW _ 12 0 ha0 (by decide) (by decide) (by decide)) (by decide))) p_7_0.2.2.2.2.1)), (IF.q (p_13.2 _ (th_ne ha0 (hW _ 12 0 ha0 (by decide) (by decide) (by decide)) (by decide))) (IF.q (p_9.2 _ (th_ne ha0 (hW _ 12 0 ha0 (by decide) (by decide) (by decide)) (by decide))) p_7_0.2.2.2.2.2))⟩, (by have : (ai H_13 (ρ a0 0) 290).toInt = (x_8 : Int32).toInt := congrArg Int32.toInt (Eq.trans (AU.o p_13 (by decide) (by decide)) (AU.s p_9 (by decide))); have : (ai H (ρ a0 0) 290).toInt = (r_1 : Int32).toInt := congrArg Int32.toInt p_1_0; omega), (by rw [(Eq.trans (AU.o p_13 (by decide) (by decide)) (AU.o p_9 (by decide) (by decide)))]; omega)⟩ dX12_sends_79
  · have f_12 : r_11.toInt = 4 := r_eq rfl (by decide) c_12
    refine lv_iconst (v := 5) hx hb dX12_sends_70 (by decide) ?_
    refine lv_goto (tgt := 76) hx hb dX12_sends_71 (by decide) ?_
    refine th_Vv (As := [.int 1, .int 0, .int 5]) (rest := []) E hml hl.1 (y_set_v52 l D cI cS τ ρ hW H_9 hT_11 a0 ha0) lk_X12_95 yd_X12_set hT_11 ha0 rfl (by decide) hS_11 (fun q h => (Or.inr h)) ⟨by decide, by decide⟩ (Nat.le_of_ble_eq_true rfl) ⟨by decide, by decide⟩ rfl dX12_sends_76 (fun H_14 locs_14 p_14 hT_14 hk_14 hS_14 => ?_)
    have p_14 : (AU 985 H_9 H_14 (ρ a0 0) 288 (5)) := p_14
    have hW_14 : PW N H_14 (ρ a0 0) := PW.put hW_9 p_14 (by show (-2147483648 : Int) ≤ _; exact i_min _) (by show _ ≤ (2147483647 : Int); exact i_max _)
    exact th_vret E hr hlk hs hT_14 hS_14 ⟨⟨hW_14, (QS.same (Eq.trans (AU.o p_14 (by decide) (by decide)) (AU.o p_9 (by decide) (by decide))) (Eq.trans (AU.o p_14 (by decide) (by decide)) (AU.o p_9 (by decide) (by decide))) p_7_0.2.1), (QS.of (s := (5 : Int32)) (t := (x_8 : Int32)) (AU.s p_14 (by decide)) (Eq.trans (AU.o p_14 (by decide) (by decide)) (AU.s p_9 (by decide))) (by have j := p_7_0.2.2.1; unfold QS at j; have : (ai H_7 (ρ a0 0) 288).toInt = (r_11 : Int32).toInt := congrArg Int32.toInt t_11; have : (5 : Int32).toInt = 5 := (by decide); omega)), (PL.q (p_14.2 _ (th_ne (hW _ 12 2 ha0 (by decide) (by decide) (by decide)) (hW _ 12 0 ha0 (by decide) (by decide) (by decide)) (by decide))) (PL.q (p_9.2 _ (th_ne (hW _ 12 2 ha0 (by decide) (by decide) (by decide)) (hW _ 12 0 ha0 (by decide) (by decide) (by decide)) (by decide))) p_7_0.2.2.2.1)), (PL.q (p_14.2 _ (th_ne (hW _ 12 3 ha0 (by decide) (by decide) (by decide)) (hW _ 12 0 ha0 (by decide) (by decide) (by decide)) (by decide))) (PL.q (p_9.2 _ (th_ne (hW _ 12 3 ha0 (by decide) (by decide) (by decide)) (hW _ 12 0 ha0 (by decide) (by decide) (by decide)) (by decide))) p_7_0.2.2.2.2.1)), (IF.q (p_14.2 _ (th_ne ha0 (hW _ 12 0 ha0 (by decide) (by decide) (by decide)) (by decide))) (IF.q (p_9.2 _ (th_ne ha0 (hW _ 12 0 ha0 (by decide) (by decide) (by decide)) (by decide))) p_7_0.2.2.2.2.2))⟩, (by have : (ai H_14 (ρ a0 0) 290).toInt = (x_8 : Int32).toInt := congrArg Int32.toInt (Eq.trans (AU.o p_14 (by decide) (by decide)) (AU.s p_9 (by decide))); have : (ai H (ρ a0 0) 290).toInt = (r_1 : Int32).toInt := congrArg Int32.toInt p_1_0; omega), (by rw [(Eq.trans (AU.o p_14 (by decide) (by decide)) (AU.o p_9 (by decide) (by decide)))]; omega)⟩ dX12_sends_79
set_option maxHeartbeats 4000000 in
set_option maxRecDepth 100000 in
/-- the reference: data -/
theorem y_data_v7 (l : Launch) (D : va_G) (cI cS : ClassId) (τ : Nat → Option Nat) (ρ : Nat → Nat → Nat) (hW : WF τ ρ) (H : Heap) (hT : TH D cI cS τ ρ H) (a0 : Nat) (x1 : Int32) (ha0 : τ a0 = some 12) (N : Int) (hN0 : 0 ≤ N) (hN1 : N ≤ 600) (hI : IM D ρ N H a0) (hp0 : 0 ≤ x1.toInt ∧ x1.toInt ≤ 700) (hp1 : 0 ≤ 0 ∧ 0 ≤ 8) : MV l D cI cS τ ρ yX12_data cX12_data 6 none 5 115 H [.ref a0, .int 1, .int x1, .int 0, .int 1] (fun (u : Heap) => (IM D ρ N u a0) ∧ ((ai H (ρ a0 0) 976).toInt ≤ (ai u (ρ a0 0) 976).toInt)) (fun q => q = ρ a0 2 ∨ q = ρ a0 0) := by
  refine MV.of (by decide) (Nat.le_of_ble_eq_true rfl) ?_
  intro p e s m args below meth c E hml hr hlk hs ls hl
  have hx := E.1
  have hb := E.2.1
  have hown := E.2.2.1
  have hts := E.2.2.2.1
  have hS : SS (fun q => q = ρ a0 2 ∨ q = ρ a0 0) H H [] := SS.rf
  have hl : lv_has ls 6 [(0, .ref a0), (1, .int 1), (2, .int x1), (3, .int 0), (4, .int 1)] := hl
  have n01 := hI.2.2.2.2.2.1
  have n23 := hI.2.2.2.2.2.2.1
  have J_103 : ∀ (H_c103 : Heap) (lc_c103 : List Loc) (ls : Array Slot) (z103_2 : Int32), TH D cI cS τ ρ H_c103 → SS (fun q => q = ρ a0 2 ∨ q = ρ a0 0) H H_c103 lc_c103 → lv_has ls 6 [(0, .ref a0), (1, .int 1), (2, .int x1), (3, .int 0), (4, .int 1), (5, .int 0)] → 0 ≤ x1.toInt → x1.toInt ≤ 700 → IM D ρ N H_c103 a0 → (ai H (ρ a0 0) 976).toInt ≤ (ai H_c103 (ρ a0 0) 976).toInt → W p l e (rmO 5 115) s m args below meth c H_c103 lc_c103 0 0 (MQ below (va_Qv (fun (u : Heap) => (IM D ρ N u a0) ∧ ((ai H (ρ a0 0) 976).toInt ≤ (ai u (ρ a0 0) 976).toInt)) (Bt D cI cS τ ρ H) (fun q => q = ρ a0 2 ∨ q = ρ a0 0)) args s 0 0 (fun q => q = ρ a0 2 ∨ q = ρ a0 0)) (F0 m 103 ls [.int z103_2, .int 7, .ref (ρ a0 2)]) := by
    intro H_c103 lc_c103 ls z103_2 hT_c103 hS_c103 hl ly103_2 uy103_2 hI_c103 hmn_c103
    refine th_iast E hT_c103 hS_c103 (hW _ 12 2 ha0 (by decide) (by decide) (by decide)) (Or.inl rfl) (by decide) (vp_in_iff.mpr ⟨by decide, by decide⟩) dX12_data_103 (fun H_1 locs_1 hT_1 hU_1 hS_1 => ?_)
    have hU_1 : AU 20 H_c103 H_1 (ρ a0 2) 7 z103_2 := hU_1
    have hL_1 : PL H_1 (ρ a0 2) := PL.put hI_c103.2.2.2.1 hU_1 (by show (-2147483648 : Int) ≤ _; exact i_min _) (by show _ ≤ (2147483647 : Int); exact i_max _)
    refine lv_aload_n hx hb dX12_data_104 rfl (lv_at hl 0 rfl) ?_
    refine th_Vv (As := []) (rest := []) E hml hl.1 (y_posts l D cI cS τ ρ hW H_1 hT_1 a0 ha0 N hN0 hN1 ⟨(PW.q (hU_1.2 _ (th_ne (hW _ 12 0 ha0 (by decide) (by decide) (by decide)) (hW _ 12 2 ha0 (by decide) (by decide) (by decide)) (by decide))) hI_c103.1), (QS.same (ai_q (hU_1.2 _ (th_ne (hW _ 12 0 ha0 (by decide) (by decide) (by decide)) (hW _ 12 2 ha0 (by decide) (by decide) (by decide)) (by decide)))) (ai_q (hU_1.2 _ (th_ne (hW _ 12 0 ha0 (by decide) (by decide) (by decide)) (hW _ 12 2 ha0 (by decide) (by decide) (by decide)) (by decide)))) hI_c103.2.1), (QS.same (ai_q (hU_1.2 _ (th_ne (hW _ 12 0 ha0 (by decide) (by decide) (by decide)) (hW _ 12 2 ha0 (by decide) (by decide) (by decide)) (by decide)))) (ai_q (hU_1.2 _ (th_ne (hW _ 12 0 ha0 (by decide) (by decide) (by decide)) (hW _ 12 2 ha0 (by decide) (by decide) (by decide)) (by decide)))) hI_c103.2.2.1), hL_1, (PL.q (hU_1.2 _ (Ne.symm n23)) hI_c103.2.2.2.2.1), (IF.q (hU_1.2 _ (th_ne ha0 (hW _ 12 2 ha0 (by decide) (by decide) (by decide)) (by decide))) hI_c103.2.2.2.2.2)⟩) lk_X12_129 yd_X12_posts hT_1 ha0 rfl (by decide) hS_1 (fun q h => (Or.inr h)) ⟨by decide, by decide⟩ (Nat.le_of_ble_eq_true rfl) ⟨by decide, by decide⟩ rfl dX12_data_105 (fun H_2 locs_2 p_2 hT_2 hk_2 hS_2 => ?_)
    have p_2 : (IM D ρ N H_2 a0) ∧ ((ai H_1 (ρ a0 0) 976).toInt ≤ (ai H_2 (ρ a0 0) 976).toInt) := p_2
    obtain ⟨p_2_0, p_2_1⟩ := p_2
    have mn_2 : (ai H_c103 (ρ a0 0) 976).toInt ≤ (ai H_2 (ρ a0 0) 976).toInt := by have h := p_2_1; rw [(ai_q (hU_1.2 _ (th_ne (hW _ 12 0 ha0 (by decide) (by decide) (by decide)) (hW _ 12 2 ha0 (by decide) (by decide) (by decide)) (by decide))))] at h; exact h
    exact th_vret E hr hlk hs hT_2 hS_2 ⟨⟨p_2_0.1, p_2_0.2.1, p_2_0.2.2.1, p_2_0.2.2.2.1, p_2_0.2.2.2.2.1, p_2_0.2.2.2.2.2⟩, (by omega)⟩ dX12_data_108
  have L_32 : ∀ (n : Nat) (H_c32 : Heap) (lc_c32 : List Loc) (ls : Array Slot), TH D cI cS τ ρ H_c32 → SS (fun q => q = ρ a0 2 ∨ q = ρ a0 0) H H_c32 lc_c32 → lv_has ls 6 [(0, .ref a0), (1, .int 1), (2, .int x1), (3, .int 0), (4, .int 1), (5, .int 0)] → 0 ≤ x1.toInt → x1.toInt ≤ 700 → IM D ρ N H_c32 a0 → (ai H (ρ a0 0) 976).toInt ≤ (ai H_c32 (ρ a0 0) 976).toInt → ((0 : Int) - 0).toNat < n → W p l e (rmO 5 115) s m args below meth c H_c32 lc_c32 0 0 (MQ below (va_Qv (fun (u : Heap) => (IM D ρ N u a0) ∧ ((ai H (ρ a0 0) 976).toInt ≤ (ai u (ρ a0 0) 976).toInt)) (Bt D cI cS τ ρ H) (fun q => q = ρ a0 2 ∨ q = ρ a0 0)) args s 0 0 (fun q => q = ρ a0 2 ∨ q = ρ a0 0)) (F0 m 32 ls []) := by
    intro n
    induction n with
    | zero => intro H_c32 lc_c32 ls hT_c32 hS_c32 hl ly32_2 uy32_2 hI_c32 hmn_c32 hm; exact absurd hm (Nat.not_lt_zero _)
    | succ n ih_32 =>
      intro H_c32 lc_c32 ls hT_c32 hS_c32 hl ly32_2 uy32_2 hI_c32 hmn_c32 hm_32
      refine lv_iload hx hb dX12_data_32 (lv_at hl 5 rfl) ?_
      refine lv_iload_n hx hb dX12_data_34 rfl (lv_at hl 3 rfl) ?_
      refine lv_icmp_ge (tgt := 69) hx hb dX12_data_35 (by decide) (fun c_3 => ?_) (fun c_3 => absurd (by decide) c_3)
      refine lv_aload_n hx hb dX12_data_69 rfl (lv_at hl 0 rfl) ?_
      refine gf_X12_16 E hT_c32 hW ha0 dX12_data_70 (fun h_4 => ?_)
      refine lv_bipush (v := 7) hx hb dX12_data_73 (by decide) ?_
      refine lv_iload_n hx hb dX12_data_75 rfl (lv_at hl 2 rfl) ?_
      refine lv_aload_n hx hb dX12_data_76 rfl (lv_at hl 0 rfl) ?_
      refine lv_iload_n hx hb dX12_data_77 rfl (lv_at hl 1 rfl) ?_
      refine lv_bipush (v := 14) hx hb dX12_data_78 (by decide) ?_
      refine th_Vi (As := [.int 1, .int 14]) (rest := [.int x1, .int 7, .ref (ρ a0 2)]) E hml hl.1 (y_get_v35 l D cI cS τ ρ hW H_c32 hT_c32 a0 ha0) lk_X12_99 yd_X12_get hT_c32 ha0 rfl (by decide) hS_c32 (fun _ h => h.elim) ⟨by decide, by decide⟩ (Nat.le_of_ble_eq_true rfl) ⟨by decide, by decide⟩ rfl dX12_data_80 (fun r_5 H_5 locs_5 p_5 hT_5 hk_5 hS_5 => ?_)
      have p_5 : H_c32 = H_5 ∧ (ai H_c32 (ρ a0 0) 302 = r_5) := p_5
      obtain ⟨rfl, p_5_0⟩ := p_5
      have c_r_5 := congrArg Int32.toInt p_5_0
      refine lv_icmp_ge (tgt := 101) hx hb dX12_data_83 (by decide) (fun c_6 => ?_) (fun c_6 => ?_)
      · have f_6 : r_5.toInt ≤ x1.toInt := r_le rfl rfl c_6
        refine lv_bipush (v := (-4)) hx hb dX12_data_101 (by decide) ?_
        exact J_103 H_c32 locs_5 _ (-4) hT_5 hS_5 hl (by omega) (by omega) ⟨hI_c32.1, hI_c32.2.1, hI_c32.2.2.1, hI_c32.2.2.2.1, hI_c32.2.2.2.2.1, hI_c32.2.2.2.2.2⟩ (by omega)
      · have f_6 : x1.toInt < r_5.toInt := r_nle rfl rfl c_6
        refine lv_aload_n hx hb dX12_data_86 rfl (lv_at hl 0 rfl) ?_
        refine lv_iload_n hx hb dX12_data_87 rfl (lv_at hl 1 rfl) ?_
        refine lv_aload_n hx hb dX12_data_88 rfl (lv_at hl 0 rfl) ?_
        refine lv_iload_n hx hb dX12_data_89 rfl (lv_at hl 1 rfl) ?_
        refine lv_bipush (v := 14) hx hb dX12_data_90 (by decide) ?_
        refine th_Vi (As := [.int 1, .int 14]) (rest := [.int 1, .ref a0, .int 7, .ref (ρ a0 2)]) E hml hl.1 (y_get_v35 l D cI cS τ ρ hW H_c32 hT_5 a0 ha0) lk_X12_99 yd_X12_get hT_5 ha0 rfl (by decide) hS_5 (fun _ h => h.elim) ⟨by decide, by decide⟩ (Nat.le_of_ble_eq_true rfl) ⟨by decide, by decide⟩ rfl dX12_data_92 (fun r_7 H_7 locs_7 p_7 hT_7 hk_7 hS_7 => ?_)
        have p_7 : H_c32 = H_7 ∧ (ai H_c32 (ρ a0 0) 302 = r_7) := p_7
        obtain ⟨rfl, p_7_0⟩ := p_7
        have s_7 : r_7 = r_5 := p_7_0.symm.trans p_5_0
        refine th_topi s_7 ?_
        refine th_Vi (As := [.int 1, .int r_5]) (rest := [.int 7, .ref (ρ a0 2)]) E hml hl.1 (y_number_v2 l D cI cS τ ρ hW H_c32 hT_7 a0 r_5 ha0) lk_X12_112 yd_X12_number hT_7 ha0 rfl (by decide) hS_7 (fun _ h => h.elim) ⟨by decide, by decide⟩ (Nat.le_of_ble_eq_true rfl) ⟨by decide, by decide⟩ rfl dX12_data_95 (fun r_8 H_8 locs_8 p_8 hT_8 hk_8 hS_8 => ?_)
        have p_8 : H_c32 = H_8 := p_8
        obtain rfl := p_8
        refine lv_goto (tgt := 103) hx hb dX12_data_98 (by decide) ?_
        exact J_103 H_c32 locs_8 _ r_8 hT_8 hS_8 hl (by omega) (by omega) ⟨hI_c32.1, hI_c32.2.1, hI_c32.2.2.1, hI_c32.2.2.2.1, hI_c32.2.2.2.2.1, hI_c32.2.2.2.2.2⟩ (by omega)
  have J_13 : ∀ (H_c13 : Heap) (lc_c13 : List Loc) (ls : Array Slot), TH D cI cS τ ρ H_c13 → SS (fun q => q = ρ a0 2 ∨ q = ρ a0 0) H H_c13 lc_c13 → lv_has ls 6 [(0, .ref a0), (1, .int 1), (2, .int x1), (3, .int 0), (4, .int 1)] → 0 ≤ x1.toInt → x1.toInt ≤ 700 → IM D ρ N H_c13 a0 → (ai H (ρ a0 0) 976).toInt ≤ (ai H_c13 (ρ a0 0) 976).toInt → W p l e (rmO 5 115) s m args below meth c H_c13 lc_c13 0 0 (MQ below (va_Qv (fun (u : Heap) => (IM D ρ N u a0) ∧ ((ai H (ρ a0 0) 976).toInt ≤ (ai u (ρ a0 0) 976).toInt)) (Bt D cI cS τ ρ H) (fun q => q = ρ a0 2 ∨ q = ρ a0 0)) args s 0 0 (fun q => q = ρ a0 2 ∨ q = ρ a0 0)) (F0 m 13 ls [.int 6, .int 1, .ref a0]) := by
    intro H_c13 lc_c13 ls hT_c13 hS_c13 hl ly13_2 uy13_2 hI_c13 hmn_c13
    refine lv_aload_n hx hb dX12_data_13 rfl (lv_at hl 0 rfl) ?_
    refine lv_iload_n hx hb dX12_data_14 rfl (lv_at hl 1 rfl) ?_
    refine lv_iload_n hx hb dX12_data_15 rfl (lv_at hl 2 rfl) ?_
    refine th_Vi (As := [.int 1, .int x1]) (rest := [.int 6, .int 1, .ref a0]) E hml hl.1 (y_number_v2 l D cI cS τ ρ hW H_c13 hT_c13 a0 x1 ha0) lk_X12_112 yd_X12_number hT_c13 ha0 rfl (by decide) hS_c13 (fun _ h => h.elim) ⟨by decide, by decide⟩ (Nat.le_of_ble_eq_true rfl) ⟨by decide, by decide⟩ rfl dX12_data_16 (fun r_9 H_9 locs_9 p_9 hT_9 hk_9 hS_9 => ?_)
    have p_9 : H_c13 = H_9 := p_9
    obtain rfl := p_9
    refine th_Vv (As := [.int 1, .int 6, .int r_9]) (rest := []) E hml hl.1 (y_makes_v6 l D cI cS τ ρ hW H_c13 hT_9 a0 r_9 ha0 N hN0 hN1 ⟨hI_c13.1, hI_c13.2.1, hI_c13.2.2.1, hI_c13.2.2.2.1, hI_c13.2.2.2.2.1, hI_c13.2.2.2.2.2⟩) lk_X12_126 yd_X12_makes hT_9 ha0 rfl (by decide) hS_9 (fun q h => (Or.inl h)) ⟨by decide, by decide⟩ (Nat.le_of_ble_eq_true rfl) ⟨by decide, by decide⟩ rfl dX12_data_19 (fun H_10 locs_10 p_10 hT_10 hk_10 hS_10 => ?_)
    have p_10 : (IM D ρ N H_10 a0) ∧ ((ai H_c13 (ρ a0 0) 976).toInt ≤ (ai H_10 (ρ a0 0) 976).toInt) := p_10
    obtain ⟨p_10_0, p_10_1⟩ := p_10
    have mn_10 : (ai H_c13 (ρ a0 0) 976).toInt ≤ (ai H_10 (ρ a0 0) 976).toInt := by exact p_10_1
    refine lv_aload_n hx hb dX12_data_22 rfl (lv_at hl 0 rfl) ?_
    refine gf_X12_16 E hT_10 hW ha0 dX12_data_23 (fun h_11 => ?_)
    refine lv_iconst (v := 5) hx hb dX12_data_26 (by decide) ?_
    refine lv_iload_n hx hb dX12_data_27 rfl (lv_at hl 3 rfl) ?_
    refine th_iast E hT_10 hS_10 h_11 (Or.inl rfl) (by decide) (vp_in_iff.mpr ⟨by decide, by decide⟩) dX12_data_28 (fun H_12 locs_12 hT_12 hU_12 hS_12 => ?_)
    have hU_12 : AU 20 H_10 H_12 (ρ a0 2) 5 (0) := hU_12
    have hL_12 : PL H_12 (ρ a0 2) := PL.put p_10_0.2.2.2.1 hU_12 (by show (0 : Int) ≤ (0 : Int32).toInt; have : (0 : Int32).toInt = 0 := (by decide); omega) (by show (0 : Int32).toInt ≤ (8 : Int); have : (0 : Int32).toInt = 0 := (by decide); omega)
    refine lv_iconst (v := 0) hx hb dX12_data_29 (by decide) ?_
    refine lv_istore (lv' := [(5, .int 0), (0, .ref a0), (1, .int 1), (2, .int x1), (3, .int 0), (4, .int 1)]) hx hb dX12_data_30 hl (by decide) rfl (fun ls hl => ?_)
    exact L_32 _ H_12 locs_12 _ hT_12 hS_12 (lv_sub hl [1, 2, 3, 4, 5, 0] rfl) (by omega) (by omega) ⟨(PW.q (hU_12.2 _ (th_ne (hW _ 12 0 ha0 (by decide) (by decide) (by decide)) (hW _ 12 2 ha0 (by decide) (by decide) (by decide)) (by decide))) p_10_0.1), (QS.same ((Eq.trans (ai_q (hU_12.2 _ (th_ne (hW _ 12 0 ha0 (by decide) (by decide) (by decide)) (hW _ 12 2 ha0 (by decide) (by decide) (by decide)) (by decide)))) (ai_q (hk_10 _ (th_ne (hW _ 12 0 ha0 (by decide) (by decide) (by decide)) (hW _ 12 2 ha0 (by decide) (by decide) (by decide)) (by decide))))).trans (ai_q (hk_10 _ (th_ne (hW _ 12 0 ha0 (by decide) (by decide) (by decide)) (hW _ 12 2 ha0 (by decide) (by decide) (by decide)) (by decide)))).symm) ((Eq.trans (ai_q (hU_12.2 _ (th_ne (hW _ 12 0 ha0 (by decide) (by decide) (by decide)) (hW _ 12 2 ha0 (by decide) (by decide) (by decide)) (by decide)))) (ai_q (hk_10 _ (th_ne (hW _ 12 0 ha0 (by decide) (by decide) (by decide)) (hW _ 12 2 ha0 (by decide) (by decide) (by decide)) (by decide))))).trans (ai_q (hk_10 _ (th_ne (hW _ 12 0 ha0 (by decide) (by decide) (by decide)) (hW _ 12 2 ha0 (by decide) (by decide) (by decide)) (by decide)))).symm) p_10_0.2.1), (QS.same ((Eq.trans (ai_q (hU_12.2 _ (th_ne (hW _ 12 0 ha0 (by decide) (by decide) (by decide)) (hW _ 12 2 ha0 (by decide) (by decide) (by decide)) (by decide)))) (ai_q (hk_10 _ (th_ne (hW _ 12 0 ha0 (by decide) (by decide) (by decide)) (hW _ 12 2 ha0 (by decide) (by decide) (by decide)) (by decide))))).trans (ai_q (hk_10 _ (th_ne (hW _ 12 0 ha0 (by decide) (by decide) (by decide)) (hW _ 12 2 ha0 (by decide) (by decide) (by decide)) (by decide)))).symm) ((Eq.trans (ai_q (hU_12.2 _ (th_ne (hW _ 12 0 ha0 (by decide) (by decide) (by decide)) (hW _ 12 2 ha0 (by decide) (by decide) (by decide)) (by decide)))) (ai_q (hk_10 _ (th_ne (hW _ 12 0 ha0 (by decide) (by decide) (by decide)) (hW _ 12 2 ha0 (by decide) (by decide) (by decide)) (by decide))))).trans (ai_q (hk_10 _ (th_ne (hW _ 12 0 ha0 (by decide) (by decide) (by decide)) (hW _ 12 2 ha0 (by decide) (by decide) (by decide)) (by decide)))).symm) p_10_0.2.2.1), hL_12, (PL.q (hU_12.2 _ (Ne.symm n23)) p_10_0.2.2.2.2.1), (IF.q (hU_12.2 _ (th_ne ha0 (hW _ 12 2 ha0 (by decide) (by decide) (by decide)) (by decide))) p_10_0.2.2.2.2.2)⟩ (by rw [(Eq.trans (ai_q (hU_12.2 _ (th_ne (hW _ 12 0 ha0 (by decide) (by decide) (by decide)) (hW _ 12 2 ha0 (by decide) (by decide) (by decide)) (by decide)))) (ai_q (hk_10 _ (th_ne (hW _ 12 0 ha0 (by decide) (by decide) (by decide)) (hW _ 12 2 ha0 (by decide) (by decide) (by decide)) (by decide)))))]; omega) (Nat.lt_succ_self _)
  refine lv_aload_n hx hb dX12_data_0 rfl (lv_at hl 0 rfl) ?_
  refine lv_iload_n hx hb dX12_data_1 rfl (lv_at hl 1 rfl) ?_
  refine lv_iload hx hb dX12_data_2 (lv_at hl 4 rfl) ?_
  refine lv_if_eq (tgt := 12) hx hb dX12_data_4 (by decide) (fun c_13 => absurd c_13 (by decide)) (fun c_13 => ?_)
  refine lv_bipush (v := 6) hx hb dX12_data_7 (by decide) ?_
  refine lv_goto (tgt := 13) hx hb dX12_data_9 (by decide) ?_
  exact J_13 H [] _ hT hS hl (by omega) (by omega) ⟨hI.1, hI.2.1, hI.2.2.1, hI.2.2.2.1, hI.2.2.2.2.1, hI.2.2.2.2.2⟩ (by omega)
set_option maxHeartbeats 4000000 in
set_option maxRecDepth 100000 in
/-- the reference: sends -/
theorem y_sends_v6 (l : Launch) (D : va_G) (cI cS : ClassId) (τ : Nat → Option Nat) (ρ : Nat → Nat → Nat) (hW : WF τ ρ) (H : Heap) (hT : TH D cI cS τ ρ H) (a0 : Nat) (ha0 : τ a0 = some 12) (N : Int) (hN0 : 0 ≤ N) (hN1 : N ≤ 600) (hI : IM D ρ N H a0) (hp0 : 0 ≤ 0 ∧ 0 ≤ 8) (hp1 : (ai H (ρ a0 0) 290).toInt + 0 ≤ N + 1) : MV l D cI cS τ ρ yX12_sends cX12_sends 6 none 6 140 H [.ref a0, .int 1, .int 0, .int 1] (fun (u : Heap) => (IM D ρ N u a0) ∧ ((ai u (ρ a0 0) 290).toInt = (ai H (ρ a0 0) 290).toInt + 0 + 1) ∧ ((ai H (ρ a0 0) 976).toInt ≤ (ai u (ρ a0 0) 976).toInt)) (fun q => q = ρ a0 2 ∨ q = ρ a0 0) := by
  refine MV.of (by decide) (Nat.le_of_ble_eq_true rfl) ?_
  intro p e s m args below meth c E hml hr hlk hs ls hl
  have hx := E.1
  have hb := E.2.1
  have hown := E.2.2.1
  have hts := E.2.2.2.1
  have hS : SS (fun q => q = ρ a0 2 ∨ q = ρ a0 0) H H [] := SS.rf
  have hl : lv_has ls 6 [(0, .ref a0), (1, .int 1), (2, .int 0), (3, .int 1)] := hl
  have n01 := hI.2.2.2.2.2.1
  have n23 := hI.2.2.2.2.2.2.1
  refine lv_aload_n hx hb dX12_sends_0 rfl (lv_at hl 0 rfl) ?_
  refine lv_iload_n hx hb dX12_sends_1 rfl (lv_at hl 1 rfl) ?_
  refine lv_iconst (v := 2) hx hb dX12_sends_2 (by decide) ?_
  refine th_Vi (As := [.int 1, .int 2]) (rest := []) E hml hl.1 (y_get_v32 l D cI cS τ ρ hW H hT a0 ha0) lk_X12_99 yd_X12_get hT ha0 rfl (by decide) hS (fun _ h => h.elim) ⟨by decide, by decide⟩ (Nat.le_of_ble_eq_true rfl) ⟨by decide, by decide⟩ rfl dX12_sends_3 (fun r_1 H_1 locs_1 p_1 hT_1 hk_1 hS_1 => ?_)
  have p_1 : H = H_1 ∧ (ai H (ρ a0 0) 290 = r_1) := p_1
  obtain ⟨rfl, p_1_0⟩ := p_1
  have b_r_1 : 0 ≤ r_1.toInt ∧ r_1.toInt ≤ N + 2 := by rw [← p_1_0]; exact hI.1 290 (by decide)
  have c_r_1 := congrArg Int32.toInt p_1_0
  refine lv_istore (lv' := [(4, .int r_1), (0, .ref a0), (1, .int 1), (2, .int 0), (3, .int 1)]) hx hb dX12_sends_6 hl (by decide) rfl (fun ls hl => ?_)
  refine lv_iload_n hx hb dX12_sends_8 rfl (lv_at hl 3 rfl) ?_
  refine lv_iload_n hx hb dX12_sends_9 rfl (lv_at hl 4 rfl) ?_
  refine lv_if_eq (tgt := 17) hx hb dX12_sends_10 (by decide) (fun c_2 => absurd c_2 (by decide)) (fun c_2 => ?_)
  refine lv_iconst (v := 1) hx hb dX12_sends_13 (by decide) ?_
  refine lv_goto (tgt := 18) hx hb dX12_sends_14 (by decide) ?_
  refine lv_iadd hx hb dX12_sends_18 ?_
  refine th_topi (y := 1) (by decide) ?_
  refine lv_istore (lv' := [(5, .int 1), (4, .int r_1), (0, .ref a0), (1, .int 1), (2, .int 0), (3, .int 1)]) hx hb dX12_sends_19 hl (by decide) rfl (fun ls hl => ?_)
  refine lv_aload_n hx hb dX12_sends_21 rfl (lv_at hl 2 rfl) ?_
  refine lv_iload_n hx hb dX12_sends_22 rfl (lv_at hl 3 rfl) ?_
  refine lv_iload hx hb dX12_sends_23 (lv_at hl 1 rfl) ?_
  refine lv_iload_n hx hb dX12_sends_25 rfl (lv_at hl 4 rfl) ?_
  refine lv_iload_n hx hb dX12_sends_26 rfl (lv_at hl 5 rfl) ?_
  refine th_Vv (As := [.int 1, .int r_1, .int 0, .int 1]) (rest := []) E hml hl.1 (y_data_v7 l D cI cS τ ρ hW H hT_1 a0 r_1 ha0 N hN0 hN1 ⟨hI.1, hI.2.1, hI.2.2.1, hI.2.2.2.1, hI.2.2.2.2.1, hI.2.2.2.2.2⟩ (by omega) (by omega)) lk_X12_139 yd_X12_data hT_1 ha0 rfl (by decide) hS_1 (fun q => (fun h => h.elim (fun h => (Or.inl h)) (fun h => (Or.inr h)))) ⟨by decide, by decide⟩ (Nat.le_of_ble_eq_true rfl) ⟨by decide, by decide⟩ rfl dX12_sends_27 (fun H_3 locs_3 p_3 hT_3 hk_3 hS_3 => ?_)
  have p_3 : (IM D ρ N H_3 a0) ∧ ((ai H (ρ a0 0) 976).toInt ≤ (ai H_3 (ρ a0 0) 976).toInt) := p_3
  obtain ⟨p_3_0, p_3_1⟩ := p_3
  have mn_3 : (ai H (ρ a0 0) 976).toInt ≤ (ai H_3 (ρ a0 0) 976).toInt := by exact p_3_1
  refine lv_aload_n hx hb dX12_sends_30 rfl (lv_at hl 2 rfl) ?_
  refine lv_iload_n hx hb dX12_sends_31 rfl (lv_at hl 3 rfl) ?_
  refine lv_iload hx hb dX12_sends_32 (lv_at hl 1 rfl) ?_
  refine lv_iload hx hb dX12_sends_34 (lv_at hl 0 rfl) ?_
  refine lv_iadd hx hb dX12_sends_36 ?_
  refine lv_topi (fun x_4 ex_4 => ?_)
  have q_4 : x_4.toInt = r_1.toInt + 1 := i_pl rfl (by decide) ex_4 (by omega) (by omega)
  refine lv_iconst (v := 1) hx hb dX12_sends_37 (by decide) ?_
  refine lv_isub hx hb dX12_sends_38 ?_
  refine lv_topi (fun x_5 ex_5 => ?_)
  have q_5 : x_5.toInt = x_4.toInt - 1 := i_mi rfl (by decide) ex_5 (by omega) (by omega)
  refine th_Vv (As := [.int 1, .int x_5]) (rest := []) E hml hl.1 (y_times_v2 l D cI cS τ ρ hW H_3 hT_3 a0 x_5 ha0 N hN0 hN1 ⟨p_3_0.1, p_3_0.2.1, p_3_0.2.2.1, p_3_0.2.2.2.1, p_3_0.2.2.2.2.1, p_3_0.2.2.2.2.2⟩) lk_X12_143 yd_X12_times hT_3 ha0 rfl (by decide) hS_3 (fun q h => (Or.inr h)) ⟨by decide, by decide⟩ (Nat.le_of_ble_eq_true rfl) ⟨by decide, by decide⟩ rfl dX12_sends_39 (fun H_6 locs_6 p_6 hT_6 hk_6 hS_6 => ?_)
  have p_6 : (IM D ρ N H_6 a0) ∧ ((ai H_3 (ρ a0 0) 976).toInt ≤ (ai H_6 (ρ a0 0) 976).toInt) := p_6
  obtain ⟨p_6_0, p_6_1⟩ := p_6
  have mn_6 : (ai H_3 (ρ a0 0) 976).toInt ≤ (ai H_6 (ρ a0 0) 976).toInt := by exact p_6_1
  refine lv_aload_n hx hb dX12_sends_42 rfl (lv_at hl 2 rfl) ?_
  refine lv_iload_n hx hb dX12_sends_43 rfl (lv_at hl 3 rfl) ?_
  refine lv_iconst (v := 2) hx hb dX12_sends_44 (by decide) ?_
  refine lv_iload hx hb dX12_sends_45 (lv_at hl 1 rfl) ?_
  refine lv_iload hx hb dX12_sends_47 (lv_at hl 0 rfl) ?_
  refine lv_iadd hx hb dX12_sends_49 ?_
  refine lv_topi (fun x_7 ex_7 => ?_)
  have q_7 : x_7.toInt = r_1.toInt + 1 := i_pl rfl (by decide) ex_7 (by omega) (by omega)
  refine th_Vv (As := [.int 1, .int 2, .int x_7]) (rest := []) E hml hl.1 (y_set_v50 l D cI cS τ ρ hW H_6 hT_6 a0 x_7 ha0) lk_X12_95 yd_X12_set hT_6 ha0 rfl (by decide) hS_6 (fun q h => (Or.inr h)) ⟨by decide, by decide⟩ (Nat.le_of_ble_eq_true rfl) ⟨by decide, by decide⟩ rfl dX12_sends_50 (fun H_8 locs_8 p_8 hT_8 hk_8 hS_8 => ?_)
  have p_8 : (AU 985 H_6 H_8 (ρ a0 0) 290 x_7) := p_8
  have hW_8 : PW N H_8 (ρ a0 0) := PW.put p_6_0.1 p_8 (by show (0 : Int) ≤ x_7.toInt; omega) (by show x_7.toInt ≤ (N + 2 : Int); omega)
  refine lv_iload_n hx hb dX12_sends_53 rfl (lv_at hl 5 rfl) ?_
  refine lv_if_eq (tgt := 79) hx hb dX12_sends_54 (by decide) (fun c_9 => absurd c_9 (by decide)) (fun c_9 => ?_)
  refine lv_aload_n hx hb dX12_sends_57 rfl (lv_at hl 2 rfl) ?_
  refine lv_iload_n hx hb dX12_sends_58 rfl (lv_at hl 3 rfl) ?_
  refine lv_iconst (v := 0) hx hb dX12_sends_59 (by decide) ?_
  refine lv_aload_n hx hb dX12_sends_60 rfl (lv_at hl 2 rfl) ?_
  refine lv_iload_n hx hb dX12_sends_61 rfl (lv_at hl 3 rfl) ?_
  refine lv_iconst (v := 0) hx hb dX12_sends_62 (by decide) ?_
  refine th_Vi (As := [.int 1, .int 0]) (rest := [.int 0, .int 1, .ref a0]) E hml hl.1 (y_get_v20 l D cI cS τ ρ hW H_8 hT_8 a0 ha0) lk_X12_99 yd_X12_get hT_8 ha0 rfl (by decide) hS_8 (fun _ h => h.elim) ⟨by decide, by decide⟩ (Nat.le_of_ble_eq_true rfl) ⟨by decide, by decide⟩ rfl dX12_sends_63 (fun r_10 H_10 locs_10 p_10 hT_10 hk_10 hS_10 => ?_)
  have p_10 : H_8 = H_10 ∧ (ai H_8 (ρ a0 0) 288 = r_10) := p_10
  obtain ⟨rfl, p_10_0⟩ := p_10
  have t_10 : ai H_6 (ρ a0 0) 288 = r_10 := (AU.o p_8 (by decide) (by decide)).symm.trans p_10_0
  have c_r_10 := congrArg Int32.toInt t_10
  refine lv_iconst (v := 4) hx hb dX12_sends_66 (by decide) ?_
  refine lv_icmp_ne (tgt := 74) hx hb dX12_sends_67 (by decide) (fun c_11 => ?_) (fun c_11 => ?_)
  · have f_11 : ¬ r_10.toInt = 4 := r_ne rfl (by decide) c_11
    refine lv_bipush (v := 9) hx hb dX12_sends_74 (by decide) ?_
    refine th_Vv (As := [.int 1, .int 0, .int 9]) (rest := []) E hml hl.1 (y_set_v51 l D cI cS τ ρ hW H_8 hT_10 a0 ha0) lk_X12_95 yd_X12_set hT_10 ha0 rfl (by decide) hS_10 (fun q h => (Or.inr h)) ⟨by decide, by decide⟩ (Nat.le_of_ble_eq_true rfl) ⟨by decide, by decide⟩ rfl dX12_sends_76 (fun H_12 locs_12 p_12 hT_12 hk_12 hS_12 => ?_)
    have p_12 : (AU 985 H_8 H_12 (ρ a0 0) 288 (9)) := p_12
    have hW_12 : PW N H_12 (ρ a0 0) := PW.put hW_8 p_12 (by show (-2147483648 : Int) ≤ _; exact i_min _) (by show _ ≤ (2147483647 : Int); exact i_max _)
    exact th_vret E hr hlk hs hT_12 hS_12 ⟨⟨hW_12, (QS.same (Eq.trans (AU.o p_12 (by decide) (by decide)) (AU.o p_8 (by decide) (by decide))) (Eq.trans (AU.o p_12 (by decide) (by decide)) (AU.o p_8 (by decide) (by decide))) p_6_0.2.1), (QS.of (s := (9 : Int32)) (t := (x_7 : Int32)) (AU.s p_12 (by decide)) (Eq.trans (AU.o p_12 (by decide) (by decide)) (AU.s p_8 (by decide))) (by have j := p_6_0.2.2.1; unfold QS at j; have : (ai H_6 (ρ a0 0) 288).toInt = (r_10 : Int32).toInt := congrArg Int32.toInt t_10; have : (9 : Int32).toInt = 9 := (by decide); omega)), (PL.q (p_12.2 _ (th_ne (hW _ 12 2 ha0 (by decide) (by decide) (by decide)) (hW _ 12 0 ha0 (by decide) (by decide) (by decide)) (by decide))) (PL.q (p_8.2 _ (th_ne (hW _ 12 2 ha0 (by decide) (by decide) (by decide)) (hW _ 12 0 ha0 (by decide) (by decide) (by decide)) (by decide))) p_6_0.2.2.2.1)), (PL.q (p_12.2 _ (th_ne (hW _ 12 3 ha0 (by decide) (by decide) (by decide)) (hW _ 12 0 ha0 (by decide) (by decide) (by decide)) (by decide))) (PL.q (p_8.2 _ (th_ne (hW _ 12 3 ha0 (by decide) (by decide) (by decide)) (hW _ 12 0 ha0 (by decide) (by decide) (by decide)) (by decide))) p_6_0.2.2.2.2.1)), (IF.q (p_12.2 _ (th_ne ha0 (hW _ 12 0 ha0 (by decide) (by decide) (by decide)) (by decide))) (IF.q (p_8.2 _ (th_ne ha0 (hW _ 12 0 ha0 (by decide) (by decide) (by decide)) (by decide))) p_6_0.2.2.2.2.2))⟩, (by have : (ai H_12 (ρ a0 0) 290).toInt = (x_7 : Int32).toInt := congrArg Int32.toInt (Eq.trans (AU.o p_12 (by decide) (by decide)) (AU.s p_8 (by decide))); have : (ai H (ρ a0 0) 290).toInt = (r_1 : Int32).toInt := congrArg Int32.toInt p_1_0; omega), (by rw [(Eq.trans (AU.o p_12 (by decide) (by decide)) (AU.o p_8 (by decide) (by decide)))]; omega)⟩ dX12_sends_79
  · have f_11 : r_10.toInt = 4 := r_eq rfl (by decide) c_11
    refine lv_iconst (v := 5) hx hb dX12_sends_70 (by decide) ?_
    refine lv_goto (tgt := 76) hx hb dX12_sends_71 (by decide) ?_
    refine th_Vv (As := [.int 1, .int 0, .int 5]) (rest := []) E hml hl.1 (y_set_v52 l D cI cS τ ρ hW H_8 hT_10 a0 ha0) lk_X12_95 yd_X12_set hT_10 ha0 rfl (by decide) hS_10 (fun q h => (Or.inr h)) ⟨by decide, by decide⟩ (Nat.le_of_ble_eq_true rfl) ⟨by decide, by decide⟩ rfl dX12_sends_76 (fun H_13 locs_13 p_13 hT_13 hk_13 hS_13 => ?_)
    have p_13 : (AU 985 H_8 H_13 (ρ a0 0) 288 (5)) := p_13
    have hW_13 : PW N H_13 (ρ a0 0) := PW.put hW_8 p_13 (by show (-2147483648 : Int) ≤ _; exact i_min _) (by show _ ≤ (2147483647 : Int); exact i_max _)
    exact th_vret E hr hlk hs hT_13 hS_13 ⟨⟨hW_13, (QS.same (Eq.trans (AU.o p_13 (by decide) (by decide)) (AU.o p_8 (by decide) (by decide))) (Eq.trans (AU.o p_13 (by decide) (by decide)) (AU.o p_8 (by decide) (by decide))) p_6_0.2.1), (QS.of (s := (5 : Int32)) (t := (x_7 : Int32)) (AU.s p_13 (by decide)) (Eq.trans (AU.o p_13 (by decide) (by decide)) (AU.s p_8 (by decide))) (by have j := p_6_0.2.2.1; unfold QS at j; have : (ai H_6 (ρ a0 0) 288).toInt = (r_10 : Int32).toInt := congrArg Int32.toInt t_10; have : (5 : Int32).toInt = 5 := (by decide); omega)), (PL.q (p_13.2 _ (th_ne (hW _ 12 2 ha0 (by decide) (by decide) (by decide)) (hW _ 12 0 ha0 (by decide) (by decide) (by decide)) (by decide))) (PL.q (p_8.2 _ (th_ne (hW _ 12 2 ha0 (by decide) (by decide) (by decide)) (hW _ 12 0 ha0 (by decide) (by decide) (by decide)) (by decide))) p_6_0.2.2.2.1)), (PL.q (p_13.2 _ (th_ne (hW _ 12 3 ha0 (by decide) (by decide) (by decide)) (hW _ 12 0 ha0 (by decide) (by decide) (by decide)) (by decide))) (PL.q (p_8.2 _ (th_ne (hW _ 12 3 ha0 (by decide) (by decide) (by decide)) (hW _ 12 0 ha0 (by decide) (by decide) (by decide)) (by decide))) p_6_0.2.2.2.2.1)), (IF.q (p_13.2 _ (th_ne ha0 (hW _ 12 0 ha0 (by decide) (by decide) (by decide)) (by decide))) (IF.q (p_8.2 _ (th_ne ha0 (hW _ 12 0 ha0 (by decide) (by decide) (by decide)) (by decide))) p_6_0.2.2.2.2.2))⟩, (by have : (ai H_13 (ρ a0 0) 290).toInt = (x_7 : Int32).toInt := congrArg Int32.toInt (Eq.trans (AU.o p_13 (by decide) (by decide)) (AU.s p_8 (by decide))); have : (ai H (ρ a0 0) 290).toInt = (r_1 : Int32).toInt := congrArg Int32.toInt p_1_0; omega), (by rw [(Eq.trans (AU.o p_13 (by decide) (by decide)) (AU.o p_8 (by decide) (by decide)))]; omega)⟩ dX12_sends_79
set_option maxHeartbeats 4000000 in
set_option maxRecDepth 100000 in
/-- the reference: goesOnce -/
theorem y_goesOnce_v2 (l : Launch) (D : va_G) (cI cS : ClassId) (τ : Nat → Option Nat) (ρ : Nat → Nat → Nat) (hW : WF τ ρ) (H : Heap) (hT : TH D cI cS τ ρ H) (a0 : Nat) (ha0 : τ a0 = some 12) (N : Int) (hN0 : 0 ≤ N) (hN1 : N ≤ 600) (hI : IM D ρ N H a0) : MI l D cI cS τ ρ yX12_goesOnce cX12_goesOnce 6 (some .boolean) 7 165 H [.ref a0, .int 1] (fun (r : Int32) (u : Heap) => (IM D ρ N u a0) ∧ (r = 0 ∨ r = 1) ∧ (((ai H (ρ a0 0) 290).toInt ≤ (ai u (ρ a0 0) 290).toInt) ∧ (r.toInt = 1 → (ai H (ρ a0 0) 290).toInt + 1 ≤ (ai u (ρ a0 0) 290).toInt)) ∧ ((ai H (ρ a0 0) 976).toInt ≤ (ai u (ρ a0 0) 976).toInt)) (fun q => q = ρ a0 2 ∨ q = ρ a0 0) := by
  refine MI.of (by decide) (Nat.le_of_ble_eq_true rfl) ?_
  intro p e s m args below meth c E hml hr hlk hs ls hl
  have hx := E.1
  have hb := E.2.1
  have hown := E.2.2.1
  have hts := E.2.2.2.1
  have hS : SS (fun q => q = ρ a0 2 ∨ q = ρ a0 0) H H [] := SS.rf
  have hl : lv_has ls 6 [(0, .ref a0), (1, .int 1)] := hl
  have n01 := hI.2.2.2.2.2.1
  have n23 := hI.2.2.2.2.2.2.1
  refine lv_aload_n hx hb dX12_goesOnce_0 rfl (lv_at hl 0 rfl) ?_
  refine lv_iload_n hx hb dX12_goesOnce_1 rfl (lv_at hl 1 rfl) ?_
  refine lv_iconst (v := 2) hx hb dX12_goesOnce_2 (by decide) ?_
  refine th_Vi (As := [.int 1, .int 2]) (rest := []) E hml hl.1 (y_get_v32 l D cI cS τ ρ hW H hT a0 ha0) lk_X12_99 yd_X12_get hT ha0 rfl (by decide) hS (fun _ h => h.elim) ⟨by decide, by decide⟩ (Nat.le_of_ble_eq_true rfl) ⟨by decide, by decide⟩ rfl dX12_goesOnce_3 (fun r_1 H_1 locs_1 p_1 hT_1 hk_1 hS_1 => ?_)
  have p_1 : H = H_1 ∧ (ai H (ρ a0 0) 290 = r_1) := p_1
  obtain ⟨rfl, p_1_0⟩ := p_1
  have b_r_1 : 0 ≤ r_1.toInt ∧ r_1.toInt ≤ N + 2 := by rw [← p_1_0]; exact hI.1 290 (by decide)
  have c_r_1 := congrArg Int32.toInt p_1_0
  refine lv_istore_n (lv' := [(2, .int r_1), (0, .ref a0), (1, .int 1)]) hx hb dX12_goesOnce_6 rfl hl (by decide) rfl (fun ls hl => ?_)
  refine lv_aload_n hx hb dX12_goesOnce_7 rfl (lv_at hl 1 rfl) ?_
  refine lv_iload_n hx hb dX12_goesOnce_8 rfl (lv_at hl 2 rfl) ?_
  refine lv_iload_n hx hb dX12_goesOnce_9 rfl (lv_at hl 0 rfl) ?_
  refine th_Vi (As := [.int 1, .int r_1]) (rest := []) E hml hl.1 (y_saidFrom_v2 l D cI cS τ ρ hW H hT_1 a0 r_1 ha0 N hN0 hN1 ⟨hI.1, hI.2.1, hI.2.2.1, hI.2.2.2.1, hI.2.2.2.2.1, hI.2.2.2.2.2⟩ (by omega)) lk_X12_109 yd_X12_saidFrom hT_1 ha0 rfl (by decide) hS_1 (fun _ h => h.elim) ⟨by decide, by decide⟩ (Nat.le_of_ble_eq_true rfl) ⟨by decide, by decide⟩ rfl dX12_goesOnce_10 (fun r_2 H_2 locs_2 p_2 hT_2 hk_2 hS_2 => ?_)
  have p_2 : H = H_2 ∧ (0 ≤ r_2.toInt ∧ (r_2.toInt = 0 ∨ (1 ≤ r_1.toInt ∧ r_2.toInt = (ai H (ρ a0 0) 292).toInt + 1 - r_1.toInt) ∨ (r_1.toInt < 1 ∧ r_2.toInt = (ai H (ρ a0 0) 292).toInt)) ∧ (ai H (ρ a0 0) 292).toInt ≤ N) := p_2
  obtain ⟨rfl, p_2_0⟩ := p_2
  refine lv_istore_n (lv' := [(3, .int r_2), (2, .int r_1), (0, .ref a0), (1, .int 1)]) hx hb dX12_goesOnce_13 rfl hl (by decide) rfl (fun ls hl => ?_)
  refine lv_aload_n hx hb dX12_goesOnce_14 rfl (lv_at hl 2 rfl) ?_
  refine gf_X12_25 E hT_2 ha0 dX12_goesOnce_15 ?_
  refine lv_topi (fun x_3 ex_3 => ?_)
  have b_3 : 1 ≤ x_3.toInt ∧ x_3.toInt ≤ 8 := by rw [ex_3]; exact IF.f6 hI.2.2.2.2.2
  refine lv_iload_n hx hb dX12_goesOnce_18 rfl (lv_at hl 0 rfl) ?_
  refine lv_aload_n hx hb dX12_goesOnce_19 rfl (lv_at hl 2 rfl) ?_
  refine lv_iload_n hx hb dX12_goesOnce_20 rfl (lv_at hl 3 rfl) ?_
  refine lv_iconst (v := 3) hx hb dX12_goesOnce_21 (by decide) ?_
  refine th_Vi (As := [.int 1, .int 3]) (rest := [.int r_2, .int x_3]) E hml hl.1 (y_get_v31 l D cI cS τ ρ hW H hT_2 a0 ha0) lk_X12_99 yd_X12_get hT_2 ha0 rfl (by decide) hS_2 (fun _ h => h.elim) ⟨by decide, by decide⟩ (Nat.le_of_ble_eq_true rfl) ⟨by decide, by decide⟩ rfl dX12_goesOnce_22 (fun r_4 H_4 locs_4 p_4 hT_4 hk_4 hS_4 => ?_)
  have p_4 : H = H_4 ∧ (ai H (ρ a0 0) 291 = r_4) := p_4
  obtain ⟨rfl, p_4_0⟩ := p_4
  have b_r_4 : 0 ≤ r_4.toInt ∧ r_4.toInt ≤ (2147483647 : Int) := by rw [← p_4_0]; exact hI.1 291 (by decide)
  have c_r_4 := congrArg Int32.toInt p_4_0
  refine lv_iload_n hx hb dX12_goesOnce_25 rfl (lv_at hl 1 rfl) ?_
  refine lv_isub hx hb dX12_goesOnce_26 ?_
  refine lv_topi (fun x_5 ex_5 => ?_)
  have q_5 : x_5.toInt = r_4.toInt - r_1.toInt := i_mi rfl rfl ex_5 (by omega) (by omega)
  refine th_Si (As := [.int r_2, .int x_5]) (rest := [.int x_3]) E hml hl.1 (y_lesser_v2 l D cI cS τ ρ hW H hT_4 r_2 x_5) lk_X12_146 yd_X12_lesser hS_4 (fun _ h => h.elim) ⟨by decide, by decide⟩ (Nat.le_of_ble_eq_true rfl) ⟨by decide, by decide⟩ rfl dX12_goesOnce_27 (fun r_6 H_6 locs_6 p_6 hT_6 hk_6 hS_6 => ?_)
  have p_6 : H = H_6 ∧ (r_6.toInt ≤ r_2.toInt ∧ r_6.toInt ≤ x_5.toInt ∧ (r_6.toInt = r_2.toInt ∨ r_6.toInt = x_5.toInt)) := p_6
  obtain ⟨rfl, p_6_0⟩ := p_6
  refine th_Si (As := [.int x_3, .int r_6]) (rest := []) E hml hl.1 (y_lesser_v2 l D cI cS τ ρ hW H hT_6 x_3 r_6) lk_X12_146 yd_X12_lesser hS_6 (fun _ h => h.elim) ⟨by decide, by decide⟩ (Nat.le_of_ble_eq_true rfl) ⟨by decide, by decide⟩ rfl dX12_goesOnce_30 (fun r_7 H_7 locs_7 p_7 hT_7 hk_7 hS_7 => ?_)
  have p_7 : H = H_7 ∧ (r_7.toInt ≤ x_3.toInt ∧ r_7.toInt ≤ r_6.toInt ∧ (r_7.toInt = x_3.toInt ∨ r_7.toInt = r_6.toInt)) := p_7
  obtain ⟨rfl, p_7_0⟩ := p_7
  refine lv_istore (lv' := [(4, .int r_7), (3, .int r_2), (2, .int r_1), (0, .ref a0), (1, .int 1)]) hx hb dX12_goesOnce_33 hl (by decide) rfl (fun ls hl => ?_)
  refine lv_aload_n hx hb dX12_goesOnce_35 rfl (lv_at hl 3 rfl) ?_
  refine lv_iload_n hx hb dX12_goesOnce_36 rfl (lv_at hl 4 rfl) ?_
  refine lv_bipush (v := 13) hx hb dX12_goesOnce_37 (by decide) ?_
  refine th_Vi (As := [.int 1, .int 13]) (rest := []) E hml hl.1 (y_get_v34 l D cI cS τ ρ hW H hT_7 a0 ha0) lk_X12_99 yd_X12_get hT_7 ha0 rfl (by decide) hS_7 (fun _ h => h.elim) ⟨by decide, by decide⟩ (Nat.le_of_ble_eq_true rfl) ⟨by decide, by decide⟩ rfl dX12_goesOnce_39 (fun r_8 H_8 locs_8 p_8 hT_8 hk_8 hS_8 => ?_)
  have p_8 : H = H_8 ∧ (ai H (ρ a0 0) 301 = r_8) := p_8
  obtain ⟨rfl, p_8_0⟩ := p_8
  have c_r_8 := congrArg Int32.toInt p_8_0
  refine lv_iconst (v := 1) hx hb dX12_goesOnce_42 (by decide) ?_
  refine lv_icmp_ne (tgt := 50) hx hb dX12_goesOnce_43 (by decide) (fun c_9 => ?_) (fun c_9 => ?_)
  · have f_9 : ¬ r_8.toInt = 1 := r_ne rfl (by decide) c_9
    refine lv_iconst (v := 0) hx hb dX12_goesOnce_50 (by decide) ?_
    refine lv_istore (lv' := [(5, .int 0), (4, .int r_7), (3, .int r_2), (2, .int r_1), (0, .ref a0), (1, .int 1)]) hx hb dX12_goesOnce_51 hl (by decide) rfl (fun ls hl => ?_)
    refine lv_aload_n hx hb dX12_goesOnce_53 rfl (lv_at hl 4 rfl) ?_
    refine lv_iload_n hx hb dX12_goesOnce_54 rfl (lv_at hl 5 rfl) ?_
    refine lv_iconst (v := 4) hx hb dX12_goesOnce_55 (by decide) ?_
    refine lv_bipush (v := 7) hx hb dX12_goesOnce_56 (by decide) ?_
    refine th_Vi (As := [.int 1, .int 4, .int 7]) (rest := []) E hml hl.1 (y_isIn_v2 l D cI cS τ ρ hW H hT_8 a0 ha0) lk_X12_106 yd_X12_isIn hT_8 ha0 rfl (by decide) hS_8 (fun _ h => h.elim) ⟨by decide, by decide⟩ (Nat.le_of_ble_eq_true rfl) ⟨by decide, by decide⟩ rfl dX12_goesOnce_58 (fun r_10 H_10 locs_10 p_10 hT_10 hk_10 hS_10 => ?_)
    have p_10 : H = H_10 ∧ (r_10 = 0 ∨ r_10 = 1) ∧ ((r_10.toInt = 1 ∧ ((ai H (ρ a0 0) 288).toInt = 4 ∨ (ai H (ρ a0 0) 288).toInt = 7)) ∨ (r_10.toInt = 0 ∧ ¬ (ai H (ρ a0 0) 288).toInt = 4 ∧ ¬ (ai H (ρ a0 0) 288).toInt = 7)) := p_10
    obtain ⟨rfl, p_10_0, p_10_1⟩ := p_10
    have z_10 := b_iv p_10_0
    refine lv_if_ne (tgt := 66) hx hb dX12_goesOnce_61 (by decide) (fun c_11 => ?_) (fun c_11 => ?_)
    · have f_11 : ¬ r_10.toInt = 0 := r_ne rfl (by decide) c_11
      have nz_r_10 : ¬ r_10 = 0 := c_11
      refine lv_iload hx hb dX12_goesOnce_66 (lv_at hl 1 rfl) ?_
      refine lv_aload_n hx hb dX12_goesOnce_68 rfl (lv_at hl 4 rfl) ?_
      refine gf_X12_25 E hT_10 ha0 dX12_goesOnce_69 ?_
      refine th_topi (y := x_3) ex_3.symm ?_
      refine lv_icmp_eq (tgt := 102) hx hb dX12_goesOnce_72 (by decide) (fun c_12 => ?_) (fun c_12 => ?_)
      · have f_12 : r_7.toInt = x_3.toInt := r_eq rfl rfl c_12
        refine lv_aload_n hx hb dX12_goesOnce_102 rfl (lv_at hl 4 rfl) ?_
        refine lv_iload_n hx hb dX12_goesOnce_103 rfl (lv_at hl 5 rfl) ?_
        refine lv_iload hx hb dX12_goesOnce_104 (lv_at hl 1 rfl) ?_
        refine lv_iload hx hb dX12_goesOnce_106 (lv_at hl 0 rfl) ?_
        refine lv_if_eq (tgt := 134) hx hb dX12_goesOnce_108 (by decide) (fun c_13 => ?_) (fun c_13 => absurd (by decide) c_13)
        refine lv_iconst (v := 0) hx hb dX12_goesOnce_134 (by decide) ?_
        refine th_Vv (As := [.int 1, .int r_7, .int 0]) (rest := []) E hml hl.1 (y_sends_v4 l D cI cS τ ρ hW H hT_10 a0 r_7 ha0 N hN0 hN1 ⟨hI.1, hI.2.1, hI.2.2.1, hI.2.2.2.1, hI.2.2.2.2.1, hI.2.2.2.2.2⟩ (by omega) (by have : (ai H (ρ a0 0) 290).toInt = (r_1 : Int32).toInt := congrArg Int32.toInt p_1_0; have j_290 := hI.2.2.1; unfold QS at j_290; omega)) lk_X12_149 yd_X12_sends hT_10 ha0 rfl (by decide) hS_10 (fun q => (fun h => h.elim (fun h => (Or.inl h)) (fun h => (Or.inr h)))) ⟨by decide, by decide⟩ (Nat.le_of_ble_eq_true rfl) ⟨by decide, by decide⟩ rfl dX12_goesOnce_135 (fun H_14 locs_14 p_14 hT_14 hk_14 hS_14 => ?_)
        have p_14 : (IM D ρ N H_14 a0) ∧ ((ai H_14 (ρ a0 0) 290).toInt = (ai H (ρ a0 0) 290).toInt + r_7.toInt + 0) ∧ ((ai H (ρ a0 0) 976).toInt ≤ (ai H_14 (ρ a0 0) 976).toInt) := p_14
        obtain ⟨p_14_0, p_14_1, p_14_2⟩ := p_14
        have mn_14 : (ai H (ρ a0 0) 976).toInt ≤ (ai H_14 (ρ a0 0) 976).toInt := by exact p_14_2
        refine lv_iconst (v := 1) hx hb dX12_goesOnce_138 (by decide) ?_
        exact th_zret E hr hlk hs (Or.inr rfl) hT_14 hS_14 ⟨⟨p_14_0.1, p_14_0.2.1, p_14_0.2.2.1, p_14_0.2.2.2.1, p_14_0.2.2.2.2.1, p_14_0.2.2.2.2.2⟩, (Or.inr rfl), (by have : (1 : Int32).toInt = 1 := (by decide); have : (ai H (ρ a0 0) 290).toInt = (r_1 : Int32).toInt := congrArg Int32.toInt p_1_0; omega), (by omega)⟩ dX12_goesOnce_139
      · have f_12 : ¬ r_7.toInt = x_3.toInt := r_ne rfl rfl c_12
        refine lv_iload hx hb dX12_goesOnce_75 (lv_at hl 1 rfl) ?_
        refine lv_iconst (v := 1) hx hb dX12_goesOnce_77 (by decide) ?_
        refine lv_icmp_lt (tgt := 140) hx hb dX12_goesOnce_78 (by decide) (fun c_15 => ?_) (fun c_15 => ?_)
        · have f_15 : r_7.toInt < 1 := r_lt rfl (by decide) c_15
          refine lv_iload_n hx hb dX12_goesOnce_140 rfl (lv_at hl 2 rfl) ?_
          refine lv_if_ne (tgt := 168) hx hb dX12_goesOnce_141 (by decide) (fun c_16 => ?_) (fun c_16 => ?_)
          · have f_16 : ¬ r_2.toInt = 0 := r_ne rfl (by decide) c_16
            have nz_r_2 : ¬ r_2 = 0 := c_16
            refine lv_iconst (v := 0) hx hb dX12_goesOnce_168 (by decide) ?_
            exact th_zret E hr hlk hs (Or.inl rfl) hT_10 hS_10 ⟨⟨hI.1, hI.2.1, hI.2.2.1, hI.2.2.2.1, hI.2.2.2.2.1, hI.2.2.2.2.2⟩, (Or.inl rfl), (by have : (0 : Int32).toInt = 0 := (by decide); have : (ai H (ρ a0 0) 290).toInt = (r_1 : Int32).toInt := congrArg Int32.toInt p_1_0; omega), (by omega)⟩ dX12_goesOnce_169
          · have f_16 : r_2.toInt = 0 := r_eq rfl (by decide) c_16
            refine lv_iload hx hb dX12_goesOnce_144 (lv_at hl 0 rfl) ?_
            refine lv_if_eq (tgt := 168) hx hb dX12_goesOnce_146 (by decide) (fun c_17 => ?_) (fun c_17 => absurd (by decide) c_17)
            refine lv_iconst (v := 0) hx hb dX12_goesOnce_168 (by decide) ?_
            exact th_zret E hr hlk hs (Or.inl rfl) hT_10 hS_10 ⟨⟨hI.1, hI.2.1, hI.2.2.1, hI.2.2.2.1, hI.2.2.2.2.1, hI.2.2.2.2.2⟩, (Or.inl rfl), (by have : (0 : Int32).toInt = 0 := (by decide); have : (ai H (ρ a0 0) 290).toInt = (r_1 : Int32).toInt := congrArg Int32.toInt p_1_0; omega), (by omega)⟩ dX12_goesOnce_169
        · have f_15 : 1 ≤ r_7.toInt := r_nlt rfl (by decide) c_15
          refine lv_iload hx hb dX12_goesOnce_81 (lv_at hl 1 rfl) ?_
          refine lv_iload_n hx hb dX12_goesOnce_83 rfl (lv_at hl 2 rfl) ?_
          refine lv_icmp_ne (tgt := 140) hx hb dX12_goesOnce_84 (by decide) (fun c_18 => ?_) (fun c_18 => ?_)
          · have f_18 : ¬ r_7.toInt = r_2.toInt := r_ne rfl rfl c_18
            refine lv_iload_n hx hb dX12_goesOnce_140 rfl (lv_at hl 2 rfl) ?_
            refine lv_if_ne (tgt := 168) hx hb dX12_goesOnce_141 (by decide) (fun c_19 => ?_) (fun c_19 => ?_)
            · have f_19 : ¬ r_2.toInt = 0 := r_ne rfl (by decide) c_19
              have nz_r_2 : ¬ r_2 = 0 := c_19
              refine lv_iconst (v := 0) hx hb dX12_goesOnce_168 (by decide) ?_
              exact th_zret E hr hlk hs (Or.inl rfl) hT_10 hS_10 ⟨⟨hI.1, hI.2.1, hI.2.2.1, hI.2.2.2.1, hI.2.2.2.2.1, hI.2.2.2.2.2⟩, (Or.inl rfl), (by have : (0 : Int32).toInt = 0 := (by decide); have : (ai H (ρ a0 0) 290).toInt = (r_1 : Int32).toInt := congrArg Int32.toInt p_1_0; omega), (by omega)⟩ dX12_goesOnce_169
            · have f_19 : r_2.toInt = 0 := r_eq rfl (by decide) c_19
              refine lv_iload hx hb dX12_goesOnce_144 (lv_at hl 0 rfl) ?_
              refine lv_if_eq (tgt := 168) hx hb dX12_goesOnce_146 (by decide) (fun c_20 => ?_) (fun c_20 => absurd (by decide) c_20)
              refine lv_iconst (v := 0) hx hb dX12_goesOnce_168 (by decide) ?_
              exact th_zret E hr hlk hs (Or.inl rfl) hT_10 hS_10 ⟨⟨hI.1, hI.2.1, hI.2.2.1, hI.2.2.2.1, hI.2.2.2.2.1, hI.2.2.2.2.2⟩, (Or.inl rfl), (by have : (0 : Int32).toInt = 0 := (by decide); have : (ai H (ρ a0 0) 290).toInt = (r_1 : Int32).toInt := congrArg Int32.toInt p_1_0; omega), (by omega)⟩ dX12_goesOnce_169
          · have f_18 : r_7.toInt = r_2.toInt := r_eq rfl rfl c_18
            refine lv_aload_n hx hb dX12_goesOnce_87 rfl (lv_at hl 4 rfl) ?_
            refine lv_iload_n hx hb dX12_goesOnce_88 rfl (lv_at hl 5 rfl) ?_
            refine lv_iconst (v := 1) hx hb dX12_goesOnce_89 (by decide) ?_
            refine th_Vi (As := [.int 1, .int 1]) (rest := []) E hml hl.1 (y_get_v29 l D cI cS τ ρ hW H hT_10 a0 ha0) lk_X12_99 yd_X12_get hT_10 ha0 rfl (by decide) hS_10 (fun _ h => h.elim) ⟨by decide, by decide⟩ (Nat.le_of_ble_eq_true rfl) ⟨by decide, by decide⟩ rfl dX12_goesOnce_90 (fun r_21 H_21 locs_21 p_21 hT_21 hk_21 hS_21 => ?_)
            have p_21 : H = H_21 ∧ (ai H (ρ a0 0) 289 = r_21) := p_21
            obtain ⟨rfl, p_21_0⟩ := p_21
            have b_r_21 : 0 ≤ r_21.toInt ∧ r_21.toInt ≤ N + 2 := by rw [← p_21_0]; exact hI.1 289 (by decide)
            have c_r_21 := congrArg Int32.toInt p_21_0
            refine lv_iload_n hx hb dX12_goesOnce_93 rfl (lv_at hl 3 rfl) ?_
            refine lv_icmp_eq (tgt := 102) hx hb dX12_goesOnce_94 (by decide) (fun c_22 => ?_) (fun c_22 => ?_)
            · have f_22 : r_21.toInt = r_1.toInt := r_eq rfl rfl c_22
              refine lv_aload_n hx hb dX12_goesOnce_102 rfl (lv_at hl 4 rfl) ?_
              refine lv_iload_n hx hb dX12_goesOnce_103 rfl (lv_at hl 5 rfl) ?_
              refine lv_iload hx hb dX12_goesOnce_104 (lv_at hl 1 rfl) ?_
              refine lv_iload hx hb dX12_goesOnce_106 (lv_at hl 0 rfl) ?_
              refine lv_if_eq (tgt := 134) hx hb dX12_goesOnce_108 (by decide) (fun c_23 => ?_) (fun c_23 => absurd (by decide) c_23)
              refine lv_iconst (v := 0) hx hb dX12_goesOnce_134 (by decide) ?_
              refine th_Vv (As := [.int 1, .int r_7, .int 0]) (rest := []) E hml hl.1 (y_sends_v4 l D cI cS τ ρ hW H hT_21 a0 r_7 ha0 N hN0 hN1 ⟨hI.1, hI.2.1, hI.2.2.1, hI.2.2.2.1, hI.2.2.2.2.1, hI.2.2.2.2.2⟩ (by omega) (by have : (ai H (ρ a0 0) 290).toInt = (r_1 : Int32).toInt := congrArg Int32.toInt p_1_0; have j_290 := hI.2.2.1; unfold QS at j_290; omega)) lk_X12_149 yd_X12_sends hT_21 ha0 rfl (by decide) hS_21 (fun q => (fun h => h.elim (fun h => (Or.inl h)) (fun h => (Or.inr h)))) ⟨by decide, by decide⟩ (Nat.le_of_ble_eq_true rfl) ⟨by decide, by decide⟩ rfl dX12_goesOnce_135 (fun H_24 locs_24 p_24 hT_24 hk_24 hS_24 => ?_)
              have p_24 : (IM D ρ N H_24 a0) ∧ ((ai H_24 (ρ a0 0) 290).toInt = (ai H (ρ a0 0) 290).toInt + r_7.toInt + 0) ∧ ((ai H (ρ a0 0) 976).toInt ≤ (ai H_24 (ρ a0 0) 976).toInt) := p_24
              obtain ⟨p_24_0, p_24_1, p_24_2⟩ := p_24
              have mn_24 : (ai H (ρ a0 0) 976).toInt ≤ (ai H_24 (ρ a0 0) 976).toInt := by exact p_24_2
              refine lv_iconst (v := 1) hx hb dX12_goesOnce_138 (by decide) ?_
              exact th_zret E hr hlk hs (Or.inr rfl) hT_24 hS_24 ⟨⟨p_24_0.1, p_24_0.2.1, p_24_0.2.2.1, p_24_0.2.2.2.1, p_24_0.2.2.2.2.1, p_24_0.2.2.2.2.2⟩, (Or.inr rfl), (by have : (1 : Int32).toInt = 1 := (by decide); have : (ai H (ρ a0 0) 290).toInt = (r_1 : Int32).toInt := congrArg Int32.toInt p_1_0; omega), (by omega)⟩ dX12_goesOnce_139
            · have f_22 : ¬ r_21.toInt = r_1.toInt := r_ne rfl rfl c_22
              refine lv_iload hx hb dX12_goesOnce_97 (lv_at hl 0 rfl) ?_
              refine lv_if_eq (tgt := 140) hx hb dX12_goesOnce_99 (by decide) (fun c_25 => ?_) (fun c_25 => absurd (by decide) c_25)
              refine lv_iload_n hx hb dX12_goesOnce_140 rfl (lv_at hl 2 rfl) ?_
              refine lv_if_ne (tgt := 168) hx hb dX12_goesOnce_141 (by decide) (fun c_26 => ?_) (fun c_26 => ?_)
              · have f_26 : ¬ r_2.toInt = 0 := r_ne rfl (by decide) c_26
                have nz_r_2 : ¬ r_2 = 0 := c_26
                refine lv_iconst (v := 0) hx hb dX12_goesOnce_168 (by decide) ?_
                exact th_zret E hr hlk hs (Or.inl rfl) hT_21 hS_21 ⟨⟨hI.1, hI.2.1, hI.2.2.1, hI.2.2.2.1, hI.2.2.2.2.1, hI.2.2.2.2.2⟩, (Or.inl rfl), (by have : (0 : Int32).toInt = 0 := (by decide); have : (ai H (ρ a0 0) 290).toInt = (r_1 : Int32).toInt := congrArg Int32.toInt p_1_0; omega), (by omega)⟩ dX12_goesOnce_169
              · have f_26 : r_2.toInt = 0 := r_eq rfl (by decide) c_26
                refine lv_iload hx hb dX12_goesOnce_144 (lv_at hl 0 rfl) ?_
                refine lv_if_eq (tgt := 168) hx hb dX12_goesOnce_146 (by decide) (fun c_27 => ?_) (fun c_27 => absurd (by decide) c_27)
                refine lv_iconst (v := 0) hx hb dX12_goesOnce_168 (by decide) ?_
                exact th_zret E hr hlk hs (Or.inl rfl) hT_21 hS_21 ⟨⟨hI.1, hI.2.1, hI.2.2.1, hI.2.2.2.1, hI.2.2.2.2.1, hI.2.2.2.2.2⟩, (Or.inl rfl), (by have : (0 : Int32).toInt = 0 := (by decide); have : (ai H (ρ a0 0) 290).toInt = (r_1 : Int32).toInt := congrArg Int32.toInt p_1_0; omega), (by omega)⟩ dX12_goesOnce_169
    · have f_11 : r_10.toInt = 0 := r_eq rfl (by decide) c_11
      refine lv_iconst (v := 0) hx hb dX12_goesOnce_64 (by decide) ?_
      exact th_zret E hr hlk hs (Or.inl rfl) hT_10 hS_10 ⟨⟨hI.1, hI.2.1, hI.2.2.1, hI.2.2.2.1, hI.2.2.2.2.1, hI.2.2.2.2.2⟩, (Or.inl rfl), (by have : (0 : Int32).toInt = 0 := (by decide); have : (ai H (ρ a0 0) 290).toInt = (r_1 : Int32).toInt := congrArg Int32.toInt p_1_0; omega), (by omega)⟩ dX12_goesOnce_65
  · have f_9 : r_8.toInt = 1 := r_eq rfl (by decide) c_9
    refine lv_iconst (v := 1) hx hb dX12_goesOnce_46 (by decide) ?_
    refine lv_goto (tgt := 51) hx hb dX12_goesOnce_47 (by decide) ?_
    refine lv_istore (lv' := [(5, .int 1), (4, .int r_7), (3, .int r_2), (2, .int r_1), (0, .ref a0), (1, .int 1)]) hx hb dX12_goesOnce_51 hl (by decide) rfl (fun ls hl => ?_)
    refine lv_aload_n hx hb dX12_goesOnce_53 rfl (lv_at hl 4 rfl) ?_
    refine lv_iload_n hx hb dX12_goesOnce_54 rfl (lv_at hl 5 rfl) ?_
    refine lv_iconst (v := 4) hx hb dX12_goesOnce_55 (by decide) ?_
    refine lv_bipush (v := 7) hx hb dX12_goesOnce_56 (by decide) ?_
    refine th_Vi (As := [.int 1, .int 4, .int 7]) (rest := []) E hml hl.1 (y_isIn_v2 l D cI cS τ ρ hW H hT_8 a0 ha0) lk_X12_106 yd_X12_isIn hT_8 ha0 rfl (by decide) hS_8 (fun _ h => h.elim) ⟨by decide, by decide⟩ (Nat.le_of_ble_eq_true rfl) ⟨by decide, by decide⟩ rfl dX12_goesOnce_58 (fun r_28 H_28 locs_28 p_28 hT_28 hk_28 hS_28 => ?_)
    have p_28 : H = H_28 ∧ (r_28 = 0 ∨ r_28 = 1) ∧ ((r_28.toInt = 1 ∧ ((ai H (ρ a0 0) 288).toInt = 4 ∨ (ai H (ρ a0 0) 288).toInt = 7)) ∨ (r_28.toInt = 0 ∧ ¬ (ai H (ρ a0 0) 288).toInt = 4 ∧ ¬ (ai H (ρ a0 0) 288).toInt = 7)) := p_28
    obtain ⟨rfl, p_28_0, p_28_1⟩ := p_28
    have z_28 := b_iv p_28_0
    refine lv_if_ne (tgt := 66) hx hb dX12_goesOnce_61 (by decide) (fun c_29 => ?_) (fun c_29 => ?_)
    · have f_29 : ¬ r_28.toInt = 0 := r_ne rfl (by decide) c_29
      have nz_r_28 : ¬ r_28 = 0 := c_29
      refine lv_iload hx hb dX12_goesOnce_66 (lv_at hl 1 rfl) ?_
      refine lv_aload_n hx hb dX12_goesOnce_68 rfl (lv_at hl 4 rfl) ?_
      refine gf_X12_25 E hT_28 ha0 dX12_goesOnce_69 ?_
      refine th_topi (y := x_3) ex_3.symm ?_
      refine lv_icmp_eq (tgt := 102) hx hb dX12_goesOnce_72 (by decide) (fun c_30 => ?_) (fun c_30 => ?_)
      · have f_30 : r_7.toInt = x_3.toInt := r_eq rfl rfl c_30
        refine lv_aload_n hx hb dX12_goesOnce_102 rfl (lv_at hl 4 rfl) ?_
        refine lv_iload_n hx hb dX12_goesOnce_103 rfl (lv_at hl 5 rfl) ?_
        refine lv_iload hx hb dX12_goesOnce_104 (lv_at hl 1 rfl) ?_
        refine lv_iload hx hb dX12_goesOnce_106 (lv_at hl 0 rfl) ?_
        refine lv_if_eq (tgt := 134) hx hb dX12_goesOnce_108 (by decide) (fun c_31 => absurd c_31 (by decide)) (fun c_31 => ?_)
        refine lv_iload hx hb dX12_goesOnce_111 (lv_at hl 1 rfl) ?_
        refine lv_iload_n hx hb dX12_goesOnce_113 rfl (lv_at hl 2 rfl) ?_
        refine lv_icmp_ne (tgt := 134) hx hb dX12_goesOnce_114 (by decide) (fun c_32 => ?_) (fun c_32 => ?_)
        · have f_32 : ¬ r_7.toInt = r_2.toInt := r_ne rfl rfl c_32
          refine lv_iconst (v := 0) hx hb dX12_goesOnce_134 (by decide) ?_
          refine th_Vv (As := [.int 1, .int r_7, .int 0]) (rest := []) E hml hl.1 (y_sends_v4 l D cI cS τ ρ hW H hT_28 a0 r_7 ha0 N hN0 hN1 ⟨hI.1, hI.2.1, hI.2.2.1, hI.2.2.2.1, hI.2.2.2.2.1, hI.2.2.2.2.2⟩ (by omega) (by have : (ai H (ρ a0 0) 290).toInt = (r_1 : Int32).toInt := congrArg Int32.toInt p_1_0; have j_290 := hI.2.2.1; unfold QS at j_290; omega)) lk_X12_149 yd_X12_sends hT_28 ha0 rfl (by decide) hS_28 (fun q => (fun h => h.elim (fun h => (Or.inl h)) (fun h => (Or.inr h)))) ⟨by decide, by decide⟩ (Nat.le_of_ble_eq_true rfl) ⟨by decide, by decide⟩ rfl dX12_goesOnce_135 (fun H_33 locs_33 p_33 hT_33 hk_33 hS_33 => ?_)
          have p_33 : (IM D ρ N H_33 a0) ∧ ((ai H_33 (ρ a0 0) 290).toInt = (ai H (ρ a0 0) 290).toInt + r_7.toInt + 0) ∧ ((ai H (ρ a0 0) 976).toInt ≤ (ai H_33 (ρ a0 0) 976).toInt) := p_33
          obtain ⟨p_33_0, p_33_1, p_33_2⟩ := p_33
          have mn_33 : (ai H (ρ a0 0) 976).toInt ≤ (ai H_33 (ρ a0 0) 976).toInt := by exact p_33_2
          refine lv_iconst (v := 1) hx hb dX12_goesOnce_138 (by decide) ?_
          exact th_zret E hr hlk hs (Or.inr rfl) hT_33 hS_33 ⟨⟨p_33_0.1, p_33_0.2.1, p_33_0.2.2.1, p_33_0.2.2.2.1, p_33_0.2.2.2.2.1, p_33_0.2.2.2.2.2⟩, (Or.inr rfl), (by have : (1 : Int32).toInt = 1 := (by decide); have : (ai H (ρ a0 0) 290).toInt = (r_1 : Int32).toInt := congrArg Int32.toInt p_1_0; omega), (by omega)⟩ dX12_goesOnce_139
        · have f_32 : r_7.toInt = r_2.toInt := r_eq rfl rfl c_32
          refine lv_iload_n hx hb dX12_goesOnce_117 rfl (lv_at hl 3 rfl) ?_
          refine lv_iload hx hb dX12_goesOnce_118 (lv_at hl 1 rfl) ?_
          refine lv_iadd hx hb dX12_goesOnce_120 ?_
          refine lv_topi (fun x_34 ex_34 => ?_)
          have q_34 : x_34.toInt = r_1.toInt + r_7.toInt := i_pl rfl rfl ex_34 (by omega) (by omega)
          refine lv_aload_n hx hb dX12_goesOnce_121 rfl (lv_at hl 4 rfl) ?_
          refine lv_iload_n hx hb dX12_goesOnce_122 rfl (lv_at hl 5 rfl) ?_
          refine lv_iconst (v := 3) hx hb dX12_goesOnce_123 (by decide) ?_
          refine th_Vi (As := [.int 1, .int 3]) (rest := [.int x_34, .int r_7, .int 1, .ref a0]) E hml hl.1 (y_get_v31 l D cI cS τ ρ hW H hT_28 a0 ha0) lk_X12_99 yd_X12_get hT_28 ha0 rfl (by decide) hS_28 (fun _ h => h.elim) ⟨by decide, by decide⟩ (Nat.le_of_ble_eq_true rfl) ⟨by decide, by decide⟩ rfl dX12_goesOnce_124 (fun r_35 H_35 locs_35 p_35 hT_35 hk_35 hS_35 => ?_)
          have p_35 : H = H_35 ∧ (ai H (ρ a0 0) 291 = r_35) := p_35
          obtain ⟨rfl, p_35_0⟩ := p_35
          have s_35 : r_35 = r_4 := p_35_0.symm.trans p_4_0
          refine th_topi s_35 ?_
          refine lv_icmp_ge (tgt := 134) hx hb dX12_goesOnce_127 (by decide) (fun c_36 => ?_) (fun c_36 => ?_)
          · have f_36 : r_4.toInt ≤ x_34.toInt := r_le rfl rfl c_36
            refine lv_iconst (v := 0) hx hb dX12_goesOnce_134 (by decide) ?_
            refine th_Vv (As := [.int 1, .int r_7, .int 0]) (rest := []) E hml hl.1 (y_sends_v4 l D cI cS τ ρ hW H hT_35 a0 r_7 ha0 N hN0 hN1 ⟨hI.1, hI.2.1, hI.2.2.1, hI.2.2.2.1, hI.2.2.2.2.1, hI.2.2.2.2.2⟩ (by omega) (by have : (ai H (ρ a0 0) 290).toInt = (r_1 : Int32).toInt := congrArg Int32.toInt p_1_0; have j_290 := hI.2.2.1; unfold QS at j_290; omega)) lk_X12_149 yd_X12_sends hT_35 ha0 rfl (by decide) hS_35 (fun q => (fun h => h.elim (fun h => (Or.inl h)) (fun h => (Or.inr h)))) ⟨by decide, by decide⟩ (Nat.le_of_ble_eq_true rfl) ⟨by decide, by decide⟩ rfl dX12_goesOnce_135 (fun H_37 locs_37 p_37 hT_37 hk_37 hS_37 => ?_)
            have p_37 : (IM D ρ N H_37 a0) ∧ ((ai H_37 (ρ a0 0) 290).toInt = (ai H (ρ a0 0) 290).toInt + r_7.toInt + 0) ∧ ((ai H (ρ a0 0) 976).toInt ≤ (ai H_37 (ρ a0 0) 976).toInt) := p_37
            obtain ⟨p_37_0, p_37_1, p_37_2⟩ := p_37
            have mn_37 : (ai H (ρ a0 0) 976).toInt ≤ (ai H_37 (ρ a0 0) 976).toInt := by exact p_37_2
            refine lv_iconst (v := 1) hx hb dX12_goesOnce_138 (by decide) ?_
            exact th_zret E hr hlk hs (Or.inr rfl) hT_37 hS_37 ⟨⟨p_37_0.1, p_37_0.2.1, p_37_0.2.2.1, p_37_0.2.2.2.1, p_37_0.2.2.2.2.1, p_37_0.2.2.2.2.2⟩, (Or.inr rfl), (by have : (1 : Int32).toInt = 1 := (by decide); have : (ai H (ρ a0 0) 290).toInt = (r_1 : Int32).toInt := congrArg Int32.toInt p_1_0; omega), (by omega)⟩ dX12_goesOnce_139
          · have f_36 : x_34.toInt < r_4.toInt := r_nle rfl rfl c_36
            refine lv_iconst (v := 1) hx hb dX12_goesOnce_130 (by decide) ?_
            refine lv_goto (tgt := 135) hx hb dX12_goesOnce_131 (by decide) ?_
            refine th_Vv (As := [.int 1, .int r_7, .int 1]) (rest := []) E hml hl.1 (y_sends_v5 l D cI cS τ ρ hW H hT_35 a0 r_7 ha0 N hN0 hN1 ⟨hI.1, hI.2.1, hI.2.2.1, hI.2.2.2.1, hI.2.2.2.2.1, hI.2.2.2.2.2⟩ (by omega) (by have : (ai H (ρ a0 0) 290).toInt = (r_1 : Int32).toInt := congrArg Int32.toInt p_1_0; have j_290 := hI.2.2.1; unfold QS at j_290; omega)) lk_X12_149 yd_X12_sends hT_35 ha0 rfl (by decide) hS_35 (fun q => (fun h => h.elim (fun h => (Or.inl h)) (fun h => (Or.inr h)))) ⟨by decide, by decide⟩ (Nat.le_of_ble_eq_true rfl) ⟨by decide, by decide⟩ rfl dX12_goesOnce_135 (fun H_38 locs_38 p_38 hT_38 hk_38 hS_38 => ?_)
            have p_38 : (IM D ρ N H_38 a0) ∧ ((ai H_38 (ρ a0 0) 290).toInt = (ai H (ρ a0 0) 290).toInt + r_7.toInt + 1) ∧ ((ai H (ρ a0 0) 976).toInt ≤ (ai H_38 (ρ a0 0) 976).toInt) := p_38
            obtain ⟨p_38_0, p_38_1, p_38_2⟩ := p_38
            have mn_38 : (ai H (ρ a0 0) 976).toInt ≤ (ai H_38 (ρ a0 0) 976).toInt := by exact p_38_2
            refine lv_iconst (v := 1) hx hb dX12_goesOnce_138 (by decide) ?_
            exact th_zret E hr hlk hs (Or.inr rfl) hT_38 hS_38 ⟨⟨p_38_0.1, p_38_0.2.1, p_38_0.2.2.1, p_38_0.2.2.2.1, p_38_0.2.2.2.2.1, p_38_0.2.2.2.2.2⟩, (Or.inr rfl), (by have : (1 : Int32).toInt = 1 := (by decide); have : (ai H (ρ a0 0) 290).toInt = (r_1 : Int32).toInt := congrArg Int32.toInt p_1_0; omega), (by omega)⟩ dX12_goesOnce_139
      · have f_30 : ¬ r_7.toInt = x_3.toInt := r_ne rfl rfl c_30
        refine lv_iload hx hb dX12_goesOnce_75 (lv_at hl 1 rfl) ?_
        refine lv_iconst (v := 1) hx hb dX12_goesOnce_77 (by decide) ?_
        refine lv_icmp_lt (tgt := 140) hx hb dX12_goesOnce_78 (by decide) (fun c_39 => ?_) (fun c_39 => ?_)
        · have f_39 : r_7.toInt < 1 := r_lt rfl (by decide) c_39
          refine lv_iload_n hx hb dX12_goesOnce_140 rfl (lv_at hl 2 rfl) ?_
          refine lv_if_ne (tgt := 168) hx hb dX12_goesOnce_141 (by decide) (fun c_40 => ?_) (fun c_40 => ?_)
          · have f_40 : ¬ r_2.toInt = 0 := r_ne rfl (by decide) c_40
            have nz_r_2 : ¬ r_2 = 0 := c_40
            refine lv_iconst (v := 0) hx hb dX12_goesOnce_168 (by decide) ?_
            exact th_zret E hr hlk hs (Or.inl rfl) hT_28 hS_28 ⟨⟨hI.1, hI.2.1, hI.2.2.1, hI.2.2.2.1, hI.2.2.2.2.1, hI.2.2.2.2.2⟩, (Or.inl rfl), (by have : (0 : Int32).toInt = 0 := (by decide); have : (ai H (ρ a0 0) 290).toInt = (r_1 : Int32).toInt := congrArg Int32.toInt p_1_0; omega), (by omega)⟩ dX12_goesOnce_169
          · have f_40 : r_2.toInt = 0 := r_eq rfl (by decide) c_40
            refine lv_iload hx hb dX12_goesOnce_144 (lv_at hl 0 rfl) ?_
            refine lv_if_eq (tgt := 168) hx hb dX12_goesOnce_146 (by decide) (fun c_41 => absurd c_41 (by decide)) (fun c_41 => ?_)
            refine lv_iload_n hx hb dX12_goesOnce_149 rfl (lv_at hl 3 rfl) ?_
            refine lv_aload_n hx hb dX12_goesOnce_150 rfl (lv_at hl 4 rfl) ?_
            refine lv_iload_n hx hb dX12_goesOnce_151 rfl (lv_at hl 5 rfl) ?_
            refine lv_iconst (v := 3) hx hb dX12_goesOnce_152 (by decide) ?_
            refine th_Vi (As := [.int 1, .int 3]) (rest := [.int r_1]) E hml hl.1 (y_get_v31 l D cI cS τ ρ hW H hT_28 a0 ha0) lk_X12_99 yd_X12_get hT_28 ha0 rfl (by decide) hS_28 (fun _ h => h.elim) ⟨by decide, by decide⟩ (Nat.le_of_ble_eq_true rfl) ⟨by decide, by decide⟩ rfl dX12_goesOnce_153 (fun r_42 H_42 locs_42 p_42 hT_42 hk_42 hS_42 => ?_)
            have p_42 : H = H_42 ∧ (ai H (ρ a0 0) 291 = r_42) := p_42
            obtain ⟨rfl, p_42_0⟩ := p_42
            have s_42 : r_42 = r_4 := p_42_0.symm.trans p_4_0
            refine th_topi s_42 ?_
            refine lv_icmp_ge (tgt := 168) hx hb dX12_goesOnce_156 (by decide) (fun c_43 => ?_) (fun c_43 => ?_)
            · have f_43 : r_4.toInt ≤ r_1.toInt := r_le rfl rfl c_43
              refine lv_iconst (v := 0) hx hb dX12_goesOnce_168 (by decide) ?_
              exact th_zret E hr hlk hs (Or.inl rfl) hT_42 hS_42 ⟨⟨hI.1, hI.2.1, hI.2.2.1, hI.2.2.2.1, hI.2.2.2.2.1, hI.2.2.2.2.2⟩, (Or.inl rfl), (by have : (0 : Int32).toInt = 0 := (by decide); have : (ai H (ρ a0 0) 290).toInt = (r_1 : Int32).toInt := congrArg Int32.toInt p_1_0; omega), (by omega)⟩ dX12_goesOnce_169
            · have f_43 : r_1.toInt < r_4.toInt := r_nle rfl rfl c_43
              refine lv_aload_n hx hb dX12_goesOnce_159 rfl (lv_at hl 4 rfl) ?_
              refine lv_iload_n hx hb dX12_goesOnce_160 rfl (lv_at hl 5 rfl) ?_
              refine lv_iconst (v := 0) hx hb dX12_goesOnce_161 (by decide) ?_
              refine lv_iconst (v := 1) hx hb dX12_goesOnce_162 (by decide) ?_
              refine th_Vv (As := [.int 1, .int 0, .int 1]) (rest := []) E hml hl.1 (y_sends_v6 l D cI cS τ ρ hW H hT_42 a0 ha0 N hN0 hN1 ⟨hI.1, hI.2.1, hI.2.2.1, hI.2.2.2.1, hI.2.2.2.2.1, hI.2.2.2.2.2⟩ (by omega) (by have : (ai H (ρ a0 0) 290).toInt = (r_1 : Int32).toInt := congrArg Int32.toInt p_1_0; have j_290 := hI.2.2.1; unfold QS at j_290; omega)) lk_X12_149 yd_X12_sends hT_42 ha0 rfl (by decide) hS_42 (fun q => (fun h => h.elim (fun h => (Or.inl h)) (fun h => (Or.inr h)))) ⟨by decide, by decide⟩ (Nat.le_of_ble_eq_true rfl) ⟨by decide, by decide⟩ rfl dX12_goesOnce_163 (fun H_44 locs_44 p_44 hT_44 hk_44 hS_44 => ?_)
              have p_44 : (IM D ρ N H_44 a0) ∧ ((ai H_44 (ρ a0 0) 290).toInt = (ai H (ρ a0 0) 290).toInt + 0 + 1) ∧ ((ai H (ρ a0 0) 976).toInt ≤ (ai H_44 (ρ a0 0) 976).toInt) := p_44
              obtain ⟨p_44_0, p_44_1, p_44_2⟩ := p_44
              have mn_44 : (ai H (ρ a0 0) 976).toInt ≤ (ai H_44 (ρ a0 0) 976).toInt := by exact p_44_2
              refine lv_iconst (v := 1) hx hb dX12_goesOnce_166 (by decide) ?_
              exact th_zret E hr hlk hs (Or.inr rfl) hT_44 hS_44 ⟨⟨p_44_0.1, p_44_0.2.1, p_44_0.2.2.1, p_44_0.2.2.2.1, p_44_0.2.2.2.2.1, p_44_0.2.2.2.2.2⟩, (Or.inr rfl), (by have : (1 : Int32).toInt = 1 := (by decide); have : (ai H (ρ a0 0) 290).toInt = (r_1 : Int32).toInt := congrArg Int32.toInt p_1_0; omega), (by omega)⟩ dX12_goesOnce_167
        · have f_39 : 1 ≤ r_7.toInt := r_nlt rfl (by decide) c_39
          refine lv_iload hx hb dX12_goesOnce_81 (lv_at hl 1 rfl) ?_
          refine lv_iload_n hx hb dX12_goesOnce_83 rfl (lv_at hl 2 rfl) ?_
          refine lv_icmp_ne (tgt := 140) hx hb dX12_goesOnce_84 (by decide) (fun c_45 => ?_) (fun c_45 => ?_)
          · have f_45 : ¬ r_7.toInt = r_2.toInt := r_ne rfl rfl c_45
            refine lv_iload_n hx hb dX12_goesOnce_140 rfl (lv_at hl 2 rfl) ?_
            refine lv_if_ne (tgt := 168) hx hb dX12_goesOnce_141 (by decide) (fun c_46 => ?_) (fun c_46 => ?_)
            · have f_46 : ¬ r_2.toInt = 0 := r_ne rfl (by decide) c_46
              have nz_r_2 : ¬ r_2 = 0 := c_46
              refine lv_iconst (v := 0) hx hb dX12_goesOnce_168 (by decide) ?_
              exact th_zret E hr hlk hs (Or.inl rfl) hT_28 hS_28 ⟨⟨hI.1, hI.2.1, hI.2.2.1, hI.2.2.2.1, hI.2.2.2.2.1, hI.2.2.2.2.2⟩, (Or.inl rfl), (by have : (0 : Int32).toInt = 0 := (by decide); have : (ai H (ρ a0 0) 290).toInt = (r_1 : Int32).toInt := congrArg Int32.toInt p_1_0; omega), (by omega)⟩ dX12_goesOnce_169
            · have f_46 : r_2.toInt = 0 := r_eq rfl (by decide) c_46
              refine lv_iload hx hb dX12_goesOnce_144 (lv_at hl 0 rfl) ?_
              refine lv_if_eq (tgt := 168) hx hb dX12_goesOnce_146 (by decide) (fun c_47 => absurd c_47 (by decide)) (fun c_47 => ?_)
              refine lv_iload_n hx hb dX12_goesOnce_149 rfl (lv_at hl 3 rfl) ?_
              refine lv_aload_n hx hb dX12_goesOnce_150 rfl (lv_at hl 4 rfl) ?_
              refine lv_iload_n hx hb dX12_goesOnce_151 rfl (lv_at hl 5 rfl) ?_
              refine lv_iconst (v := 3) hx hb dX12_goesOnce_152 (by decide) ?_
              refine th_Vi (As := [.int 1, .int 3]) (rest := [.int r_1]) E hml hl.1 (y_get_v31 l D cI cS τ ρ hW H hT_28 a0 ha0) lk_X12_99 yd_X12_get hT_28 ha0 rfl (by decide) hS_28 (fun _ h => h.elim) ⟨by decide, by decide⟩ (Nat.le_of_ble_eq_true rfl) ⟨by decide, by decide⟩ rfl dX12_goesOnce_153 (fun r_48 H_48 locs_48 p_48 hT_48 hk_48 hS_48 => ?_)
              have p_48 : H = H_48 ∧ (ai H (ρ a0 0) 291 = r_48) := p_48
              obtain ⟨rfl, p_48_0⟩ := p_48
              have s_48 : r_48 = r_4 := p_48_0.symm.trans p_4_0
              refine th_topi s_48 ?_
              refine lv_icmp_ge (tgt := 168) hx hb dX12_goesOnce_156 (by decide) (fun c_49 => ?_) (fun c_49 => ?_)
              · have f_49 : r_4.toInt ≤ r_1.toInt := r_le rfl rfl c_49
                refine lv_iconst (v := 0) hx hb dX12_goesOnce_168 (by decide) ?_
                exact th_zret E hr hlk hs (Or.inl rfl) hT_48 hS_48 ⟨⟨hI.1, hI.2.1, hI.2.2.1, hI.2.2.2.1, hI.2.2.2.2.1, hI.2.2.2.2.2⟩, (Or.inl rfl), (by have : (0 : Int32).toInt = 0 := (by decide); have : (ai H (ρ a0 0) 290).toInt = (r_1 : Int32).toInt := congrArg Int32.toInt p_1_0; omega), (by omega)⟩ dX12_goesOnce_169
              · have f_49 : r_1.toInt < r_4.toInt := r_nle rfl rfl c_49
                refine lv_aload_n hx hb dX12_goesOnce_159 rfl (lv_at hl 4 rfl) ?_
                refine lv_iload_n hx hb dX12_goesOnce_160 rfl (lv_at hl 5 rfl) ?_
                refine lv_iconst (v := 0) hx hb dX12_goesOnce_161 (by decide) ?_
                refine lv_iconst (v := 1) hx hb dX12_goesOnce_162 (by decide) ?_
                refine th_Vv (As := [.int 1, .int 0, .int 1]) (rest := []) E hml hl.1 (y_sends_v6 l D cI cS τ ρ hW H hT_48 a0 ha0 N hN0 hN1 ⟨hI.1, hI.2.1, hI.2.2.1, hI.2.2.2.1, hI.2.2.2.2.1, hI.2.2.2.2.2⟩ (by omega) (by have : (ai H (ρ a0 0) 290).toInt = (r_1 : Int32).toInt := congrArg Int32.toInt p_1_0; have j_290 := hI.2.2.1; unfold QS at j_290; omega)) lk_X12_149 yd_X12_sends hT_48 ha0 rfl (by decide) hS_48 (fun q => (fun h => h.elim (fun h => (Or.inl h)) (fun h => (Or.inr h)))) ⟨by decide, by decide⟩ (Nat.le_of_ble_eq_true rfl) ⟨by decide, by decide⟩ rfl dX12_goesOnce_163 (fun H_50 locs_50 p_50 hT_50 hk_50 hS_50 => ?_)
                have p_50 : (IM D ρ N H_50 a0) ∧ ((ai H_50 (ρ a0 0) 290).toInt = (ai H (ρ a0 0) 290).toInt + 0 + 1) ∧ ((ai H (ρ a0 0) 976).toInt ≤ (ai H_50 (ρ a0 0) 976).toInt) := p_50
                obtain ⟨p_50_0, p_50_1, p_50_2⟩ := p_50
                have mn_50 : (ai H (ρ a0 0) 976).toInt ≤ (ai H_50 (ρ a0 0) 976).toInt := by exact p_50_2
                refine lv_iconst (v := 1) hx hb dX12_goesOnce_166 (by decide) ?_
                exact th_zret E hr hlk hs (Or.inr rfl) hT_50 hS_50 ⟨⟨p_50_0.1, p_50_0.2.1, p_50_0.2.2.1, p_50_0.2.2.2.1, p_50_0.2.2.2.2.1, p_50_0.2.2.2.2.2⟩, (Or.inr rfl), (by have : (1 : Int32).toInt = 1 := (by decide); have : (ai H (ρ a0 0) 290).toInt = (r_1 : Int32).toInt := congrArg Int32.toInt p_1_0; omega), (by omega)⟩ dX12_goesOnce_167
          · have f_45 : r_7.toInt = r_2.toInt := r_eq rfl rfl c_45
            refine lv_aload_n hx hb dX12_goesOnce_87 rfl (lv_at hl 4 rfl) ?_
            refine lv_iload_n hx hb dX12_goesOnce_88 rfl (lv_at hl 5 rfl) ?_
            refine lv_iconst (v := 1) hx hb dX12_goesOnce_89 (by decide) ?_
            refine th_Vi (As := [.int 1, .int 1]) (rest := []) E hml hl.1 (y_get_v29 l D cI cS τ ρ hW H hT_28 a0 ha0) lk_X12_99 yd_X12_get hT_28 ha0 rfl (by decide) hS_28 (fun _ h => h.elim) ⟨by decide, by decide⟩ (Nat.le_of_ble_eq_true rfl) ⟨by decide, by decide⟩ rfl dX12_goesOnce_90 (fun r_51 H_51 locs_51 p_51 hT_51 hk_51 hS_51 => ?_)
            have p_51 : H = H_51 ∧ (ai H (ρ a0 0) 289 = r_51) := p_51
            obtain ⟨rfl, p_51_0⟩ := p_51
            have b_r_51 : 0 ≤ r_51.toInt ∧ r_51.toInt ≤ N + 2 := by rw [← p_51_0]; exact hI.1 289 (by decide)
            have c_r_51 := congrArg Int32.toInt p_51_0
            refine lv_iload_n hx hb dX12_goesOnce_93 rfl (lv_at hl 3 rfl) ?_
            refine lv_icmp_eq (tgt := 102) hx hb dX12_goesOnce_94 (by decide) (fun c_52 => ?_) (fun c_52 => ?_)
            · have f_52 : r_51.toInt = r_1.toInt := r_eq rfl rfl c_52
              refine lv_aload_n hx hb dX12_goesOnce_102 rfl (lv_at hl 4 rfl) ?_
              refine lv_iload_n hx hb dX12_goesOnce_103 rfl (lv_at hl 5 rfl) ?_
              refine lv_iload hx hb dX12_goesOnce_104 (lv_at hl 1 rfl) ?_
              refine lv_iload hx hb dX12_goesOnce_106 (lv_at hl 0 rfl) ?_
              refine lv_if_eq (tgt := 134) hx hb dX12_goesOnce_108 (by decide) (fun c_53 => absurd c_53 (by decide)) (fun c_53 => ?_)
              refine lv_iload hx hb dX12_goesOnce_111 (lv_at hl 1 rfl) ?_
              refine lv_iload_n hx hb dX12_goesOnce_113 rfl (lv_at hl 2 rfl) ?_
              refine lv_icmp_ne (tgt := 134) hx hb dX12_goesOnce_114 (by decide) (fun c_54 => ?_) (fun c_54 => ?_)
              · have f_54 : ¬ r_7.toInt = r_2.toInt := r_ne rfl rfl c_54
                refine lv_iconst (v := 0) hx hb dX12_goesOnce_134 (by decide) ?_
                refine th_Vv (As := [.int 1, .int r_7, .int 0]) (rest := []) E hml hl.1 (y_sends_v4 l D cI cS τ ρ hW H hT_51 a0 r_7 ha0 N hN0 hN1 ⟨hI.1, hI.2.1, hI.2.2.1, hI.2.2.2.1, hI.2.2.2.2.1, hI.2.2.2.2.2⟩ (by omega) (by have : (ai H (ρ a0 0) 290).toInt = (r_1 : Int32).toInt := congrArg Int32.toInt p_1_0; have j_290 := hI.2.2.1; unfold QS at j_290; omega)) lk_X12_149 yd_X12_sends hT_51 ha0 rfl (by decide) hS_51 (fun q => (fun h => h.elim (fun h => (Or.inl h)) (fun h => (Or.inr h)))) ⟨by decide, by decide⟩ (Nat.le_of_ble_eq_true rfl) ⟨by decide, by decide⟩ rfl dX12_goesOnce_135 (fun H_55 locs_55 p_55 hT_55 hk_55 hS_55 => ?_)
                have p_55 : (IM D ρ N H_55 a0) ∧ ((ai H_55 (ρ a0 0) 290).toInt = (ai H (ρ a0 0) 290).toInt + r_7.toInt + 0) ∧ ((ai H (ρ a0 0) 976).toInt ≤ (ai H_55 (ρ a0 0) 976).toInt) := p_55
                obtain ⟨p_55_0, p_55_1, p_55_2⟩ := p_55
                have mn_55 : (ai H (ρ a0 0) 976).toInt ≤ (ai H_55 (ρ a0 0) 976).toInt := by exact p_55_2
                refine lv_iconst (v := 1) hx hb dX12_goesOnce_138 (by decide) ?_
                exact th_zret E hr hlk hs (Or.inr rfl) hT_55 hS_55 ⟨⟨p_55_0.1, p_55_0.2.1, p_55_0.2.2.1, p_55_0.2.2.2.1, p_55_0.2.2.2.2.1, p_55_0.2.2.2.2.2⟩, (Or.inr rfl), (by have : (1 : Int32).toInt = 1 := (by decide); have : (ai H (ρ a0 0) 290).toInt = (r_1 : Int32).toInt := congrArg Int32.toInt p_1_0; omega), (by omega)⟩ dX12_goesOnce_139
              · have f_54 : r_7.toInt = r_2.toInt := r_eq rfl rfl c_54
                refine lv_iload_n hx hb dX12_goesOnce_117 rfl (lv_at hl 3 rfl) ?_
                refine lv_iload hx hb dX12_goesOnce_118 (lv_at hl 1 rfl) ?_
                refine lv_iadd hx hb dX12_goesOnce_120 ?_
                refine lv_topi (fun x_56 ex_56 => ?_)
                have q_56 : x_56.toInt = r_1.toInt + r_7.toInt := i_pl rfl rfl ex_56 (by omega) (by omega)
                refine lv_aload_n hx hb dX12_goesOnce_121 rfl (lv_at hl 4 rfl) ?_
                refine lv_iload_n hx hb dX12_goesOnce_122 rfl (lv_at hl 5 rfl) ?_
                refine lv_iconst (v := 3) hx hb dX12_goesOnce_123 (by decide) ?_
                refine th_Vi (As := [.int 1, .int 3]) (rest := [.int x_56, .int r_7, .int 1, .ref a0]) E hml hl.1 (y_get_v31 l D cI cS τ ρ hW H hT_51 a0 ha0) lk_X12_99 yd_X12_get hT_51 ha0 rfl (by decide) hS_51 (fun _ h => h.elim) ⟨by decide, by decide⟩ (Nat.le_of_ble_eq_true rfl) ⟨by decide, by decide⟩ rfl dX12_goesOnce_124 (fun r_57 H_57 locs_57 p_57 hT_57 hk_57 hS_57 => ?_)
                have p_57 : H = H_57 ∧ (ai H (ρ a0 0) 291 = r_57) := p_57
                obtain ⟨rfl, p_57_0⟩ := p_57
                have s_57 : r_57 = r_4 := p_57_0.symm.trans p_4_0
                refine th_topi s_57 ?_
                refine lv_icmp_ge (tgt := 134) hx hb dX12_goesOnce_127 (by decide) (fun c_58 => ?_) (fun c_58 => ?_)
                · have f_58 : r_4.toInt ≤ x_56.toInt := r_le rfl rfl c_58
                  refine lv_iconst (v := 0) hx hb dX12_goesOnce_134 (by decide) ?_
                  refine th_Vv (As := [.int 1, .int r_7, .int 0]) (rest := []) E hml hl.1 (y_sends_v4 l D cI cS τ ρ hW H hT_57 a0 r_7 ha0 N hN0 hN1 ⟨hI.1, hI.2.1, hI.2.2.1, hI.2.2.2.1, hI.2.2.2.2.1, hI.2.2.2.2.2⟩ (by omega) (by have : (ai H (ρ a0 0) 290).toInt = (r_1 : Int32).toInt := congrArg Int32.toInt p_1_0; have j_290 := hI.2.2.1; unfold QS at j_290; omega)) lk_X12_149 yd_X12_sends hT_57 ha0 rfl (by decide) hS_57 (fun q => (fun h => h.elim (fun h => (Or.inl h)) (fun h => (Or.inr h)))) ⟨by decide, by decide⟩ (Nat.le_of_ble_eq_true rfl) ⟨by decide, by decide⟩ rfl dX12_goesOnce_135 (fun H_59 locs_59 p_59 hT_59 hk_59 hS_59 => ?_)
                  have p_59 : (IM D ρ N H_59 a0) ∧ ((ai H_59 (ρ a0 0) 290).toInt = (ai H (ρ a0 0) 290).toInt + r_7.toInt + 0) ∧ ((ai H (ρ a0 0) 976).toInt ≤ (ai H_59 (ρ a0 0) 976).toInt) := p_59
                  obtain ⟨p_59_0, p_59_1, p_59_2⟩ := p_59
                  have mn_59 : (ai H (ρ a0 0) 976).toInt ≤ (ai H_59 (ρ a0 0) 976).toInt := by exact p_59_2
                  refine lv_iconst (v := 1) hx hb dX12_goesOnce_138 (by decide) ?_
                  exact th_zret E hr hlk hs (Or.inr rfl) hT_59 hS_59 ⟨⟨p_59_0.1, p_59_0.2.1, p_59_0.2.2.1, p_59_0.2.2.2.1, p_59_0.2.2.2.2.1, p_59_0.2.2.2.2.2⟩, (Or.inr rfl), (by have : (1 : Int32).toInt = 1 := (by decide); have : (ai H (ρ a0 0) 290).toInt = (r_1 : Int32).toInt := congrArg Int32.toInt p_1_0; omega), (by omega)⟩ dX12_goesOnce_139
                · have f_58 : x_56.toInt < r_4.toInt := r_nle rfl rfl c_58
                  refine lv_iconst (v := 1) hx hb dX12_goesOnce_130 (by decide) ?_
                  refine lv_goto (tgt := 135) hx hb dX12_goesOnce_131 (by decide) ?_
                  refine th_Vv (As := [.int 1, .int r_7, .int 1]) (rest := []) E hml hl.1 (y_sends_v5 l D cI cS τ ρ hW H hT_57 a0 r_7 ha0 N hN0 hN1 ⟨hI.1, hI.2.1, hI.2.2.1, hI.2.2.2.1, hI.2.2.2.2.1, hI.2.2.2.2.2⟩ (by omega) (by have : (ai H (ρ a0 0) 290).toInt = (r_1 : Int32).toInt := congrArg Int32.toInt p_1_0; have j_290 := hI.2.2.1; unfold QS at j_290; omega)) lk_X12_149 yd_X12_sends hT_57 ha0 rfl (by decide) hS_57 (fun q => (fun h => h.elim (fun h => (Or.inl h)) (fun h => (Or.inr h)))) ⟨by decide, by decide⟩ (Nat.le_of_ble_eq_true rfl) ⟨by decide, by decide⟩ rfl dX12_goesOnce_135 (fun H_60 locs_60 p_60 hT_60 hk_60 hS_60 => ?_)
                  have p_60 : (IM D ρ N H_60 a0) ∧ ((ai H_60 (ρ a0 0) 290).toInt = (ai H (ρ a0 0) 290).toInt + r_7.toInt + 1) ∧ ((ai H (ρ a0 0) 976).toInt ≤ (ai H_60 (ρ a0 0) 976).toInt) := p_60
                  obtain ⟨p_60_0, p_60_1, p_60_2⟩ := p_60
                  have mn_60 : (ai H (ρ a0 0) 976).toInt ≤ (ai H_60 (ρ a0 0) 976).toInt := by exact p_60_2
                  refine lv_iconst (v := 1) hx hb dX12_goesOnce_138 (by decide) ?_
                  exact th_zret E hr hlk hs (Or.inr rfl) hT_60 hS_60 ⟨⟨p_60_0.1, p_60_0.2.1, p_60_0.2.2.1, p_60_0.2.2.2.1, p_60_0.2.2.2.2.1, p_60_0.2.2.2.2.2⟩, (Or.inr rfl), (by have : (1 : Int32).toInt = 1 := (by decide); have : (ai H (ρ a0 0) 290).toInt = (r_1 : Int32).toInt := congrArg Int32.toInt p_1_0; omega), (by omega)⟩ dX12_goesOnce_139
            · have f_52 : ¬ r_51.toInt = r_1.toInt := r_ne rfl rfl c_52
              refine lv_iload hx hb dX12_goesOnce_97 (lv_at hl 0 rfl) ?_
              refine lv_if_eq (tgt := 140) hx hb dX12_goesOnce_99 (by decide) (fun c_61 => absurd c_61 (by decide)) (fun c_61 => ?_)
              refine lv_aload_n hx hb dX12_goesOnce_102 rfl (lv_at hl 4 rfl) ?_
              refine lv_iload_n hx hb dX12_goesOnce_103 rfl (lv_at hl 5 rfl) ?_
              refine lv_iload hx hb dX12_goesOnce_104 (lv_at hl 1 rfl) ?_
              refine lv_iload hx hb dX12_goesOnce_106 (lv_at hl 0 rfl) ?_
              refine lv_if_eq (tgt := 134) hx hb dX12_goesOnce_108 (by decide) (fun c_62 => absurd c_62 (by decide)) (fun c_62 => ?_)
              refine lv_iload hx hb dX12_goesOnce_111 (lv_at hl 1 rfl) ?_
              refine lv_iload_n hx hb dX12_goesOnce_113 rfl (lv_at hl 2 rfl) ?_
              refine lv_icmp_ne (tgt := 134) hx hb dX12_goesOnce_114 (by decide) (fun c_63 => ?_) (fun c_63 => ?_)
              · have f_63 : ¬ r_7.toInt = r_2.toInt := r_ne rfl rfl c_63
                refine lv_iconst (v := 0) hx hb dX12_goesOnce_134 (by decide) ?_
                refine th_Vv (As := [.int 1, .int r_7, .int 0]) (rest := []) E hml hl.1 (y_sends_v4 l D cI cS τ ρ hW H hT_51 a0 r_7 ha0 N hN0 hN1 ⟨hI.1, hI.2.1, hI.2.2.1, hI.2.2.2.1, hI.2.2.2.2.1, hI.2.2.2.2.2⟩ (by omega) (by have : (ai H (ρ a0 0) 290).toInt = (r_1 : Int32).toInt := congrArg Int32.toInt p_1_0; have j_290 := hI.2.2.1; unfold QS at j_290; omega)) lk_X12_149 yd_X12_sends hT_51 ha0 rfl (by decide) hS_51 (fun q => (fun h => h.elim (fun h => (Or.inl h)) (fun h => (Or.inr h)))) ⟨by decide, by decide⟩ (Nat.le_of_ble_eq_true rfl) ⟨by decide, by decide⟩ rfl dX12_goesOnce_135 (fun H_64 locs_64 p_64 hT_64 hk_64 hS_64 => ?_)
                have p_64 : (IM D ρ N H_64 a0) ∧ ((ai H_64 (ρ a0 0) 290).toInt = (ai H (ρ a0 0) 290).toInt + r_7.toInt + 0) ∧ ((ai H (ρ a0 0) 976).toInt ≤ (ai H_64 (ρ a0 0) 976).toInt) := p_64
                obtain ⟨p_64_0, p_64_1, p_64_2⟩ := p_64
                have mn_64 : (ai H (ρ a0 0) 976).toInt ≤ (ai H_64 (ρ a0 0) 976).toInt := by exact p_64_2
                refine lv_iconst (v := 1) hx hb dX12_goesOnce_138 (by decide) ?_
                exact th_zret E hr hlk hs (Or.inr rfl) hT_64 hS_64 ⟨⟨p_64_0.1, p_64_0.2.1, p_64_0.2.2.1, p_64_0.2.2.2.1, p_64_0.2.2.2.2.1, p_64_0.2.2.2.2.2⟩, (Or.inr rfl), (by have : (1 : Int32).toInt = 1 := (by decide); have : (ai H (ρ a0 0) 290).toInt = (r_1 : Int32).toInt := congrArg Int32.toInt p_1_0; omega), (by omega)⟩ dX12_goesOnce_139
              · have f_63 : r_7.toInt = r_2.toInt := r_eq rfl rfl c_63
                refine lv_iload_n hx hb dX12_goesOnce_117 rfl (lv_at hl 3 rfl) ?_
                refine lv_iload hx hb dX12_goesOnce_118 (lv_at hl 1 rfl) ?_
                refine lv_iadd hx hb dX12_goesOnce_120 ?_
                refine lv_topi (fun x_65 ex_65 => ?_)
                have q_65 : x_65.toInt = r_1.toInt + r_7.toInt := i_pl rfl rfl ex_65 (by omega) (by omega)
                refine lv_aload_n hx hb dX12_goesOnce_121 rfl (lv_at hl 4 rfl) ?_
                refine lv_iload_n hx hb dX12_goesOnce_122 rfl (lv_at hl 5 rfl) ?_
                refine lv_iconst (v := 3) hx hb dX12_goesOnce_123 (by decide) ?_
                refine th_Vi (As := [.int 1, .int 3]) (rest := [.int x_65, .int r_7, .int 1, .ref a0]) E hml hl.1 (y_get_v31 l D cI cS τ ρ hW H hT_51 a0 ha0) lk_X12_99 yd_X12_get hT_51 ha0 rfl (by decide) hS_51 (fun _ h => h.elim) ⟨by decide, by decide⟩ (Nat.le_of_ble_eq_true rfl) ⟨by decide, by decide⟩ rfl dX12_goesOnce_124 (fun r_66 H_66 locs_66 p_66 hT_66 hk_66 hS_66 => ?_)
                have p_66 : H = H_66 ∧ (ai H (ρ a0 0) 291 = r_66) := p_66
                obtain ⟨rfl, p_66_0⟩ := p_66
                have s_66 : r_66 = r_4 := p_66_0.symm.trans p_4_0
                refine th_topi s_66 ?_
                refine lv_icmp_ge (tgt := 134) hx hb dX12_goesOnce_127 (by decide) (fun c_67 => ?_) (fun c_67 => ?_)
                · have f_67 : r_4.toInt ≤ x_65.toInt := r_le rfl rfl c_67
                  refine lv_iconst (v := 0) hx hb dX12_goesOnce_134 (by decide) ?_
                  refine th_Vv (As := [.int 1, .int r_7, .int 0]) (rest := []) E hml hl.1 (y_sends_v4 l D cI cS τ ρ hW H hT_66 a0 r_7 ha0 N hN0 hN1 ⟨hI.1, hI.2.1, hI.2.2.1, hI.2.2.2.1, hI.2.2.2.2.1, hI.2.2.2.2.2⟩ (by omega) (by have : (ai H (ρ a0 0) 290).toInt = (r_1 : Int32).toInt := congrArg Int32.toInt p_1_0; have j_290 := hI.2.2.1; unfold QS at j_290; omega)) lk_X12_149 yd_X12_sends hT_66 ha0 rfl (by decide) hS_66 (fun q => (fun h => h.elim (fun h => (Or.inl h)) (fun h => (Or.inr h)))) ⟨by decide, by decide⟩ (Nat.le_of_ble_eq_true rfl) ⟨by decide, by decide⟩ rfl dX12_goesOnce_135 (fun H_68 locs_68 p_68 hT_68 hk_68 hS_68 => ?_)
                  have p_68 : (IM D ρ N H_68 a0) ∧ ((ai H_68 (ρ a0 0) 290).toInt = (ai H (ρ a0 0) 290).toInt + r_7.toInt + 0) ∧ ((ai H (ρ a0 0) 976).toInt ≤ (ai H_68 (ρ a0 0) 976).toInt) := p_68
                  obtain ⟨p_68_0, p_68_1, p_68_2⟩ := p_68
                  have mn_68 : (ai H (ρ a0 0) 976).toInt ≤ (ai H_68 (ρ a0 0) 976).toInt := by exact p_68_2
                  refine lv_iconst (v := 1) hx hb dX12_goesOnce_138 (by decide) ?_
                  exact th_zret E hr hlk hs (Or.inr rfl) hT_68 hS_68 ⟨⟨p_68_0.1, p_68_0.2.1, p_68_0.2.2.1, p_68_0.2.2.2.1, p_68_0.2.2.2.2.1, p_68_0.2.2.2.2.2⟩, (Or.inr rfl), (by have : (1 : Int32).toInt = 1 := (by decide); have : (ai H (ρ a0 0) 290).toInt = (r_1 : Int32).toInt := congrArg Int32.toInt p_1_0; omega), (by omega)⟩ dX12_goesOnce_139
                · have f_67 : x_65.toInt < r_4.toInt := r_nle rfl rfl c_67
                  refine lv_iconst (v := 1) hx hb dX12_goesOnce_130 (by decide) ?_
                  refine lv_goto (tgt := 135) hx hb dX12_goesOnce_131 (by decide) ?_
                  refine th_Vv (As := [.int 1, .int r_7, .int 1]) (rest := []) E hml hl.1 (y_sends_v5 l D cI cS τ ρ hW H hT_66 a0 r_7 ha0 N hN0 hN1 ⟨hI.1, hI.2.1, hI.2.2.1, hI.2.2.2.1, hI.2.2.2.2.1, hI.2.2.2.2.2⟩ (by omega) (by have : (ai H (ρ a0 0) 290).toInt = (r_1 : Int32).toInt := congrArg Int32.toInt p_1_0; have j_290 := hI.2.2.1; unfold QS at j_290; omega)) lk_X12_149 yd_X12_sends hT_66 ha0 rfl (by decide) hS_66 (fun q => (fun h => h.elim (fun h => (Or.inl h)) (fun h => (Or.inr h)))) ⟨by decide, by decide⟩ (Nat.le_of_ble_eq_true rfl) ⟨by decide, by decide⟩ rfl dX12_goesOnce_135 (fun H_69 locs_69 p_69 hT_69 hk_69 hS_69 => ?_)
                  have p_69 : (IM D ρ N H_69 a0) ∧ ((ai H_69 (ρ a0 0) 290).toInt = (ai H (ρ a0 0) 290).toInt + r_7.toInt + 1) ∧ ((ai H (ρ a0 0) 976).toInt ≤ (ai H_69 (ρ a0 0) 976).toInt) := p_69
                  obtain ⟨p_69_0, p_69_1, p_69_2⟩ := p_69
                  have mn_69 : (ai H (ρ a0 0) 976).toInt ≤ (ai H_69 (ρ a0 0) 976).toInt := by exact p_69_2
                  refine lv_iconst (v := 1) hx hb dX12_goesOnce_138 (by decide) ?_
                  exact th_zret E hr hlk hs (Or.inr rfl) hT_69 hS_69 ⟨⟨p_69_0.1, p_69_0.2.1, p_69_0.2.2.1, p_69_0.2.2.2.1, p_69_0.2.2.2.2.1, p_69_0.2.2.2.2.2⟩, (Or.inr rfl), (by have : (1 : Int32).toInt = 1 := (by decide); have : (ai H (ρ a0 0) 290).toInt = (r_1 : Int32).toInt := congrArg Int32.toInt p_1_0; omega), (by omega)⟩ dX12_goesOnce_139
    · have f_29 : r_28.toInt = 0 := r_eq rfl (by decide) c_29
      refine lv_iconst (v := 0) hx hb dX12_goesOnce_64 (by decide) ?_
      exact th_zret E hr hlk hs (Or.inl rfl) hT_28 hS_28 ⟨⟨hI.1, hI.2.1, hI.2.2.1, hI.2.2.2.1, hI.2.2.2.2.1, hI.2.2.2.2.2⟩, (Or.inl rfl), (by have : (0 : Int32).toInt = 0 := (by decide); have : (ai H (ρ a0 0) 290).toInt = (r_1 : Int32).toInt := congrArg Int32.toInt p_1_0; omega), (by omega)⟩ dX12_goesOnce_65
set_option maxHeartbeats 4000000 in
set_option maxRecDepth 100000 in
/-- the reference: goesOn -/
theorem y_goesOn_v2 (l : Launch) (D : va_G) (cI cS : ClassId) (τ : Nat → Option Nat) (ρ : Nat → Nat → Nat) (hW : WF τ ρ) (H : Heap) (hT : TH D cI cS τ ρ H) (a0 : Nat) (ha0 : τ a0 = some 12) (N : Int) (hN0 : 0 ≤ N) (hN1 : N ≤ 600) (hI : IM D ρ N H a0) : MV l D cI cS τ ρ yX12_goesOn cX12_goesOn 3 none 8 190 H [.ref a0, .int 1] (fun (u : Heap) => (IM D ρ N u a0) ∧ ((ai H (ρ a0 0) 976).toInt ≤ (ai u (ρ a0 0) 976).toInt)) (fun q => q = ρ a0 2 ∨ q = ρ a0 0) := by
  refine MV.of (by decide) (Nat.le_of_ble_eq_true rfl) ?_
  intro p e s m args below meth c E hml hr hlk hs ls hl
  have hx := E.1
  have hb := E.2.1
  have hown := E.2.2.1
  have hts := E.2.2.2.1
  have hS : SS (fun q => q = ρ a0 2 ∨ q = ρ a0 0) H H [] := SS.rf
  have hl : lv_has ls 3 [(0, .ref a0), (1, .int 1)] := hl
  have n01 := hI.2.2.2.2.2.1
  have n23 := hI.2.2.2.2.2.2.1
  have L_2 : ∀ (n : Nat) (H_c2 : Heap) (lc_c2 : List Loc) (ls : Array Slot) (y2_2 : Int32) (g2_0 : Int32), TH D cI cS τ ρ H_c2 → SS (fun q => q = ρ a0 2 ∨ q = ρ a0 0) H H_c2 lc_c2 → lv_has ls 3 [(0, .ref a0), (1, .int 1), (2, .int y2_2)] → y2_2 = 0 ∨ y2_2 = 1 → ai H_c2 (ρ a0 0) 290 = g2_0 → IM D ρ N H_c2 a0 → (ai H (ρ a0 0) 976).toInt ≤ (ai H_c2 (ρ a0 0) 976).toInt → (N + 2 + y2_2.toInt - g2_0.toInt).toNat < n → W p l e (rmO 8 190) s m args below meth c H_c2 lc_c2 0 0 (MQ below (va_Qv (fun (u : Heap) => (IM D ρ N u a0) ∧ ((ai H (ρ a0 0) 976).toInt ≤ (ai u (ρ a0 0) 976).toInt)) (Bt D cI cS τ ρ H) (fun q => q = ρ a0 2 ∨ q = ρ a0 0)) args s 0 0 (fun q => q = ρ a0 2 ∨ q = ρ a0 0)) (F0 m 2 ls []) := by
    intro n
    induction n with
    | zero => intro H_c2 lc_c2 ls y2_2 g2_0 hT_c2 hS_c2 hl by2_2 hg2_0 hI_c2 hmn_c2 hm; exact absurd hm (Nat.not_lt_zero _)
    | succ n ih_2 =>
      intro H_c2 lc_c2 ls y2_2 g2_0 hT_c2 hS_c2 hl by2_2 hg2_0 hI_c2 hmn_c2 hm_2
      have z_y2_2 := b_iv by2_2
      have bb_g2_0 : 0 ≤ g2_0.toInt ∧ g2_0.toInt ≤ N + 2 := by rw [← hg2_0]; exact hI_c2.1 290 (by decide)
      have cg_g2_0 := congrArg Int32.toInt hg2_0
      refine lv_iload_n hx hb dX12_goesOn_2 rfl (lv_at hl 2 rfl) ?_
      refine lv_if_eq (tgt := 15) hx hb dX12_goesOn_3 (by decide) (fun c_1 => ?_) (fun c_1 => ?_)
      · have f_1 : y2_2.toInt = 0 := r_eq rfl (by decide) c_1
        exact th_vret E hr hlk hs hT_c2 hS_c2 ⟨⟨hI_c2.1, hI_c2.2.1, hI_c2.2.2.1, hI_c2.2.2.2.1, hI_c2.2.2.2.2.1, hI_c2.2.2.2.2.2⟩, (by omega)⟩ dX12_goesOn_15
      · have f_1 : ¬ y2_2.toInt = 0 := r_ne rfl (by decide) c_1
        have nz_y2_2 : ¬ y2_2 = 0 := c_1
        refine lv_aload_n hx hb dX12_goesOn_6 rfl (lv_at hl 0 rfl) ?_
        refine lv_iload_n hx hb dX12_goesOn_7 rfl (lv_at hl 1 rfl) ?_
        refine th_Vi (As := [.int 1]) (rest := []) E hml hl.1 (y_goesOnce_v2 l D cI cS τ ρ hW H_c2 hT_c2 a0 ha0 N hN0 hN1 ⟨hI_c2.1, hI_c2.2.1, hI_c2.2.2.1, hI_c2.2.2.2.1, hI_c2.2.2.2.2.1, hI_c2.2.2.2.2.2⟩) lk_X12_153 yd_X12_goesOnce hT_c2 ha0 rfl (by decide) hS_c2 (fun q => (fun h => h.elim (fun h => (Or.inl h)) (fun h => (Or.inr h)))) ⟨by decide, by decide⟩ (Nat.le_of_ble_eq_true rfl) ⟨by decide, by decide⟩ rfl dX12_goesOn_8 (fun r_2 H_2 locs_2 p_2 hT_2 hk_2 hS_2 => ?_)
        have p_2 : (IM D ρ N H_2 a0) ∧ (r_2 = 0 ∨ r_2 = 1) ∧ (((ai H_c2 (ρ a0 0) 290).toInt ≤ (ai H_2 (ρ a0 0) 290).toInt) ∧ (r_2.toInt = 1 → (ai H_c2 (ρ a0 0) 290).toInt + 1 ≤ (ai H_2 (ρ a0 0) 290).toInt)) ∧ ((ai H_c2 (ρ a0 0) 976).toInt ≤ (ai H_2 (ρ a0 0) 976).toInt) := p_2
        obtain ⟨p_2_0, p_2_1, p_2_2, p_2_3⟩ := p_2
        have mn_2 : (ai H_c2 (ρ a0 0) 976).toInt ≤ (ai H_2 (ρ a0 0) 976).toInt := by exact p_2_3
        have z_2 := b_iv p_2_1
        refine lv_istore_n (lv' := [(2, .int r_2), (0, .ref a0), (1, .int 1)]) hx hb dX12_goesOn_11 rfl hl (by decide) rfl (fun ls hl => ?_)
        refine lv_goto (tgt := 2) hx hb dX12_goesOn_12 (by decide) ?_
        exact ih_2 H_2 locs_2 _ r_2 (ai H_2 (ρ a0 0) 290) hT_2 hS_2 (lv_sub hl [1, 2, 0] rfl) p_2_1 rfl ⟨p_2_0.1, p_2_0.2.1, p_2_0.2.2.1, p_2_0.2.2.2.1, p_2_0.2.2.2.2.1, p_2_0.2.2.2.2.2⟩ (by omega) (by omega)
  refine lv_iconst (v := 1) hx hb dX12_goesOn_0 (by decide) ?_
  refine lv_istore_n (lv' := [(2, .int 1), (0, .ref a0), (1, .int 1)]) hx hb dX12_goesOn_1 rfl hl (by decide) rfl (fun ls hl => ?_)
  exact L_2 _ H [] _ 1 (ai H (ρ a0 0) 290) hT hS (lv_sub hl [1, 2, 0] rfl) (Or.inr rfl) rfl ⟨hI.1, hI.2.1, hI.2.2.1, hI.2.2.2.1, hI.2.2.2.2.1, hI.2.2.2.2.2⟩ (by omega) (Nat.lt_succ_self _)
set_option maxHeartbeats 4000000 in
set_option maxRecDepth 100000 in
/-- the reference: drops -/
theorem y_drops (l : Launch) (D : va_G) (cI cS : ClassId) (τ : Nat → Option Nat) (ρ : Nat → Nat → Nat) (hW : WF τ ρ) (H : Heap) (hT : TH D cI cS τ ρ H) (a0 : Nat) (ha0 : τ a0 = some 12) (N : Int) (hN0 : 0 ≤ N) (hN1 : N ≤ 600) (hI : IM D ρ N H a0) : MI l D cI cS τ ρ yX12_drops cX12_drops 3 (some .int) 0 0 H [.ref a0, .int 4, .int 0] (fun (r : Int32) (u : Heap) => (IM D ρ N u a0) ∧ ((ai H (ρ a0 0) 976).toInt ≤ (ai u (ρ a0 0) 976).toInt)) (fun q => q = ρ a0 0) := by
  refine MI.of (by decide) (Nat.le_of_ble_eq_true rfl) ?_
  intro p e s m args below meth c E hml hr hlk hs ls hl
  have hx := E.1
  have hb := E.2.1
  have hown := E.2.2.1
  have hts := E.2.2.2.1
  have hS : SS (fun q => q = ρ a0 0) H H [] := SS.rf
  have hl : lv_has ls 3 [(0, .ref a0), (1, .int 4), (2, .int 0)] := hl
  have n01 := hI.2.2.2.2.2.1
  have n23 := hI.2.2.2.2.2.2.1
  have J_28 : ∀ (H_c28 : Heap) (lc_c28 : List Loc) (ls : Array Slot), TH D cI cS τ ρ H_c28 → SS (fun q => q = ρ a0 0) H H_c28 lc_c28 → lv_has ls 3 [(0, .ref a0), (1, .int 4), (2, .int 0)] → IM D ρ N H_c28 a0 → (ai H (ρ a0 0) 976).toInt ≤ (ai H_c28 (ρ a0 0) 976).toInt → W p l e (rmO 0 0) s m args below meth c H_c28 lc_c28 0 0 (MQ below (va_Qi (fun (r : Int32) (u : Heap) => (IM D ρ N u a0) ∧ ((ai H (ρ a0 0) 976).toInt ≤ (ai u (ρ a0 0) 976).toInt)) (Bt D cI cS τ ρ H) (fun q => q = ρ a0 0)) args s 0 0 (fun q => q = ρ a0 0)) (F0 m 28 ls [.int 1, .int 982, .ref (ρ a0 0)]) := by
    intro H_c28 lc_c28 ls hT_c28 hS_c28 hl hI_c28 hmn_c28
    refine th_iast E hT_c28 hS_c28 (hW _ 12 0 ha0 (by decide) (by decide) (by decide)) rfl (by decide) (vp_in_iff.mpr ⟨by decide, by decide⟩) dX12_drops_28 (fun H_1 locs_1 hT_1 hU_1 hS_1 => ?_)
    have hU_1 : AU 985 H_c28 H_1 (ρ a0 0) 982 (1) := hU_1
    have hW_1 : PW N H_1 (ρ a0 0) := PW.put hI_c28.1 hU_1 (by show (-2147483648 : Int) ≤ _; exact i_min _) (by show (1 : Int32).toInt ≤ (2 : Int); have : (1 : Int32).toInt = 1 := (by decide); omega)
    refine lv_aload_n hx hb dX12_drops_29 rfl (lv_at hl 0 rfl) ?_
    refine gf_X12_7 E hT_1 hW ha0 dX12_drops_30 (fun h_2 => ?_)
    refine lv_sipush (v := 983) hx hb dX12_drops_33 (by decide) ?_
    refine lv_iload_n hx hb dX12_drops_36 rfl (lv_at hl 1 rfl) ?_
    refine th_iast E hT_1 hS_1 h_2 rfl (by decide) (vp_in_iff.mpr ⟨by decide, by decide⟩) dX12_drops_37 (fun H_3 locs_3 hT_3 hU_3 hS_3 => ?_)
    have hU_3 : AU 985 H_1 H_3 (ρ a0 0) 983 (4) := hU_3
    have hW_3 : PW N H_3 (ρ a0 0) := PW.put hW_1 hU_3 (by show (-2147483648 : Int) ≤ _; exact i_min _) (by show _ ≤ (2147483647 : Int); exact i_max _)
    refine lv_aload_n hx hb dX12_drops_38 rfl (lv_at hl 0 rfl) ?_
    refine gf_X12_7 E hT_3 hW ha0 dX12_drops_39 (fun h_4 => ?_)
    refine lv_sipush (v := 984) hx hb dX12_drops_42 (by decide) ?_
    refine lv_iload_n hx hb dX12_drops_45 rfl (lv_at hl 2 rfl) ?_
    refine th_iast E hT_3 hS_3 h_4 rfl (by decide) (vp_in_iff.mpr ⟨by decide, by decide⟩) dX12_drops_46 (fun H_5 locs_5 hT_5 hU_5 hS_5 => ?_)
    have hU_5 : AU 985 H_3 H_5 (ρ a0 0) 984 (0) := hU_5
    have hW_5 : PW N H_5 (ρ a0 0) := PW.put hW_3 hU_5 (by show (-2147483648 : Int) ≤ _; exact i_min _) (by show _ ≤ (2147483647 : Int); exact i_max _)
    refine lv_iconst (v := 0) hx hb dX12_drops_47 (by decide) ?_
    exact th_iret E hr hlk hs hT_5 hS_5 ⟨⟨hW_5, (QS.same (Eq.trans (AU.o hU_5 (by decide) (by decide)) (Eq.trans (AU.o hU_3 (by decide) (by decide)) (AU.o hU_1 (by decide) (by decide)))) (Eq.trans (AU.o hU_5 (by decide) (by decide)) (Eq.trans (AU.o hU_3 (by decide) (by decide)) (AU.o hU_1 (by decide) (by decide)))) hI_c28.2.1), (QS.same (Eq.trans (AU.o hU_5 (by decide) (by decide)) (Eq.trans (AU.o hU_3 (by decide) (by decide)) (AU.o hU_1 (by decide) (by decide)))) (Eq.trans (AU.o hU_5 (by decide) (by decide)) (Eq.trans (AU.o hU_3 (by decide) (by decide)) (AU.o hU_1 (by decide) (by decide)))) hI_c28.2.2.1), (PL.q (hU_5.2 _ (th_ne (hW _ 12 2 ha0 (by decide) (by decide) (by decide)) (hW _ 12 0 ha0 (by decide) (by decide) (by decide)) (by decide))) (PL.q (hU_3.2 _ (th_ne (hW _ 12 2 ha0 (by decide) (by decide) (by decide)) (hW _ 12 0 ha0 (by decide) (by decide) (by decide)) (by decide))) (PL.q (hU_1.2 _ (th_ne (hW _ 12 2 ha0 (by decide) (by decide) (by decide)) (hW _ 12 0 ha0 (by decide) (by decide) (by decide)) (by decide))) hI_c28.2.2.2.1))), (PL.q (hU_5.2 _ (th_ne (hW _ 12 3 ha0 (by decide) (by decide) (by decide)) (hW _ 12 0 ha0 (by decide) (by decide) (by decide)) (by decide))) (PL.q (hU_3.2 _ (th_ne (hW _ 12 3 ha0 (by decide) (by decide) (by decide)) (hW _ 12 0 ha0 (by decide) (by decide) (by decide)) (by decide))) (PL.q (hU_1.2 _ (th_ne (hW _ 12 3 ha0 (by decide) (by decide) (by decide)) (hW _ 12 0 ha0 (by decide) (by decide) (by decide)) (by decide))) hI_c28.2.2.2.2.1))), (IF.q (hU_5.2 _ (th_ne ha0 (hW _ 12 0 ha0 (by decide) (by decide) (by decide)) (by decide))) (IF.q (hU_3.2 _ (th_ne ha0 (hW _ 12 0 ha0 (by decide) (by decide) (by decide)) (by decide))) (IF.q (hU_1.2 _ (th_ne ha0 (hW _ 12 0 ha0 (by decide) (by decide) (by decide)) (by decide))) hI_c28.2.2.2.2.2)))⟩, (by rw [(Eq.trans (AU.o hU_5 (by decide) (by decide)) (Eq.trans (AU.o hU_3 (by decide) (by decide)) (AU.o hU_1 (by decide) (by decide))))]; omega)⟩ dX12_drops_48
  refine lv_aload_n hx hb dX12_drops_0 rfl (lv_at hl 0 rfl) ?_
  refine gf_X12_7 E hT hW ha0 dX12_drops_1 (fun h_6 => ?_)
  refine lv_sipush (v := 981) hx hb dX12_drops_4 (by decide) ?_
  refine lv_dup2_11 hx hb dX12_drops_7 rfl rfl ?_
  refine th_iald E hT h_6 (by decide) (vp_in_iff.mpr ⟨by decide, by decide⟩) dX12_drops_8 ?_
  refine th_topi (y := ai H (ρ a0 0) 981) rfl ?_
  refine lv_topi (fun x_7 ex_7 => ?_)
  have c_x_7 := congrArg Int32.toInt ex_7.symm
  refine lv_iconst (v := 1) hx hb dX12_drops_9 (by decide) ?_
  refine lv_iadd hx hb dX12_drops_10 ?_
  refine lv_topi (fun x_8 ex_8 => ?_)
  refine th_iast E hT hS h_6 rfl (by decide) (vp_in_iff.mpr ⟨by decide, by decide⟩) dX12_drops_11 (fun H_9 locs_9 hT_9 hU_9 hS_9 => ?_)
  have hU_9 : AU 985 H H_9 (ρ a0 0) 981 x_8 := hU_9
  have hW_9 : PW N H_9 (ρ a0 0) := PW.put hI.1 hU_9 (by show (-2147483648 : Int) ≤ _; exact i_min _) (by show _ ≤ (2147483647 : Int); exact i_max _)
  refine lv_aload_n hx hb dX12_drops_12 rfl (lv_at hl 0 rfl) ?_
  refine gf_X12_7 E hT_9 hW ha0 dX12_drops_13 (fun h_10 => ?_)
  refine lv_sipush (v := 982) hx hb dX12_drops_16 (by decide) ?_
  refine lv_iload_n hx hb dX12_drops_19 rfl (lv_at hl 2 rfl) ?_
  refine lv_if_le (tgt := 27) hx hb dX12_drops_20 (by decide) (fun c_11 => ?_) (fun c_11 => absurd (by decide) c_11)
  refine lv_iconst (v := 1) hx hb dX12_drops_27 (by decide) ?_
  exact J_28 H_9 locs_9 _ hT_9 hS_9 hl ⟨hW_9, (QS.same (AU.o hU_9 (by decide) (by decide)) (AU.o hU_9 (by decide) (by decide)) hI.2.1), (QS.same (AU.o hU_9 (by decide) (by decide)) (AU.o hU_9 (by decide) (by decide)) hI.2.2.1), (PL.q (hU_9.2 _ (th_ne (hW _ 12 2 ha0 (by decide) (by decide) (by decide)) (hW _ 12 0 ha0 (by decide) (by decide) (by decide)) (by decide))) hI.2.2.2.1), (PL.q (hU_9.2 _ (th_ne (hW _ 12 3 ha0 (by decide) (by decide) (by decide)) (hW _ 12 0 ha0 (by decide) (by decide) (by decide)) (by decide))) hI.2.2.2.2.1), (IF.q (hU_9.2 _ (th_ne ha0 (hW _ 12 0 ha0 (by decide) (by decide) (by decide)) (by decide))) hI.2.2.2.2.2)⟩ (by rw [(AU.o hU_9 (by decide) (by decide))]; omega)
set_option maxHeartbeats 4000000 in
set_option maxRecDepth 100000 in
/-- the reference: set -/
theorem y_set_v53 (l : Launch) (D : va_G) (cI cS : ClassId) (τ : Nat → Option Nat) (ρ : Nat → Nat → Nat) (hW : WF τ ρ) (H : Heap) (hT : TH D cI cS τ ρ H) (a0 : Nat) (ha0 : τ a0 = some 12) : MV l D cI cS τ ρ yX12_set cX12_set 4 none 0 0 H [.ref a0, .int 1, .int 0, .int 0] (fun (u : Heap) => (AU 985 H u (ρ a0 0) 288 (0))) (fun q => q = ρ a0 0) := by
  refine MV.of (by decide) (Nat.le_of_ble_eq_true rfl) ?_
  intro p e s m args below meth c E hml hr hlk hs ls hl
  have hx := E.1
  have hb := E.2.1
  have hown := E.2.2.1
  have hts := E.2.2.2.1
  have hS : SS (fun q => q = ρ a0 0) H H [] := SS.rf
  have hl : lv_has ls 4 [(0, .ref a0), (1, .int 1), (2, .int 0), (3, .int 0)] := hl
  refine lv_aload_n hx hb dX12_set_0 rfl (lv_at hl 0 rfl) ?_
  refine gf_X12_7 E hT hW ha0 dX12_set_1 (fun h_1 => ?_)
  refine lv_sipush (v := 288) hx hb dX12_set_4 (by decide) ?_
  refine lv_iload_n hx hb dX12_set_7 rfl (lv_at hl 1 rfl) ?_
  refine lv_imul hx hb dX12_set_8 ?_
  refine th_topi (y := 288) (by decide) ?_
  refine lv_iload_n hx hb dX12_set_9 rfl (lv_at hl 2 rfl) ?_
  refine lv_iadd hx hb dX12_set_10 ?_
  refine th_topi (y := 288) (by decide) ?_
  refine lv_iload_n hx hb dX12_set_11 rfl (lv_at hl 3 rfl) ?_
  refine th_iast E hT hS h_1 rfl (by decide) (vp_in_iff.mpr ⟨by decide, by decide⟩) dX12_set_12 (fun H_2 locs_2 hT_2 hU_2 hS_2 => ?_)
  have hU_2 : AU 985 H H_2 (ρ a0 0) 288 (0) := hU_2
  exact th_vret E hr hlk hs hT_2 hS_2 hU_2 dX12_set_13
set_option maxHeartbeats 4000000 in
set_option maxRecDepth 100000 in
/-- the reference: set -/
theorem y_set_v54 (l : Launch) (D : va_G) (cI cS : ClassId) (τ : Nat → Option Nat) (ρ : Nat → Nat → Nat) (hW : WF τ ρ) (H : Heap) (hT : TH D cI cS τ ρ H) (a0 : Nat) (ha0 : τ a0 = some 12) : MV l D cI cS τ ρ yX12_set cX12_set 4 none 0 0 H [.ref a0, .int 1, .int 12, .int 0] (fun (u : Heap) => (AU 985 H u (ρ a0 0) 300 (0))) (fun q => q = ρ a0 0) := by
  refine MV.of (by decide) (Nat.le_of_ble_eq_true rfl) ?_
  intro p e s m args below meth c E hml hr hlk hs ls hl
  have hx := E.1
  have hb := E.2.1
  have hown := E.2.2.1
  have hts := E.2.2.2.1
  have hS : SS (fun q => q = ρ a0 0) H H [] := SS.rf
  have hl : lv_has ls 4 [(0, .ref a0), (1, .int 1), (2, .int 12), (3, .int 0)] := hl
  refine lv_aload_n hx hb dX12_set_0 rfl (lv_at hl 0 rfl) ?_
  refine gf_X12_7 E hT hW ha0 dX12_set_1 (fun h_1 => ?_)
  refine lv_sipush (v := 288) hx hb dX12_set_4 (by decide) ?_
  refine lv_iload_n hx hb dX12_set_7 rfl (lv_at hl 1 rfl) ?_
  refine lv_imul hx hb dX12_set_8 ?_
  refine th_topi (y := 288) (by decide) ?_
  refine lv_iload_n hx hb dX12_set_9 rfl (lv_at hl 2 rfl) ?_
  refine lv_iadd hx hb dX12_set_10 ?_
  refine th_topi (y := 300) (by decide) ?_
  refine lv_iload_n hx hb dX12_set_11 rfl (lv_at hl 3 rfl) ?_
  refine th_iast E hT hS h_1 rfl (by decide) (vp_in_iff.mpr ⟨by decide, by decide⟩) dX12_set_12 (fun H_2 locs_2 hT_2 hU_2 hS_2 => ?_)
  have hU_2 : AU 985 H H_2 (ρ a0 0) 300 (0) := hU_2
  exact th_vret E hr hlk hs hT_2 hS_2 hU_2 dX12_set_13
set_option maxHeartbeats 4000000 in
set_option maxRecDepth 100000 in
/-- the reference: shuts -/
theorem y_shuts_v2 (l : Launch) (D : va_G) (cI cS : ClassId) (τ : Nat → Option Nat) (ρ : Nat → Nat → Nat) (hW : WF τ ρ) (H : Heap) (hT : TH D cI cS τ ρ H) (a0 : Nat) (ha0 : τ a0 = some 12) (N : Int) (hN0 : 0 ≤ N) (hN1 : N ≤ 600) (hI : IM D ρ N H a0) : MV l D cI cS τ ρ yX12_shuts cX12_shuts 2 none 1 23 H [.ref a0, .int 1] (fun (u : Heap) => (IM D ρ N u a0) ∧ ((ai H (ρ a0 0) 976).toInt ≤ (ai u (ρ a0 0) 976).toInt)) (fun q => q = ρ a0 0) := by
  refine MV.of (by decide) (Nat.le_of_ble_eq_true rfl) ?_
  intro p e s m args below meth c E hml hr hlk hs ls hl
  have hx := E.1
  have hb := E.2.1
  have hown := E.2.2.1
  have hts := E.2.2.2.1
  have hS : SS (fun q => q = ρ a0 0) H H [] := SS.rf
  have hl : lv_has ls 2 [(0, .ref a0), (1, .int 1)] := hl
  have n01 := hI.2.2.2.2.2.1
  have n23 := hI.2.2.2.2.2.2.1
  refine lv_aload_n hx hb dX12_shuts_0 rfl (lv_at hl 0 rfl) ?_
  refine lv_iload_n hx hb dX12_shuts_1 rfl (lv_at hl 1 rfl) ?_
  refine lv_iconst (v := 0) hx hb dX12_shuts_2 (by decide) ?_
  refine lv_iconst (v := 0) hx hb dX12_shuts_3 (by decide) ?_
  refine th_Vv (As := [.int 1, .int 0, .int 0]) (rest := []) E hml hl.1 (y_set_v53 l D cI cS τ ρ hW H hT a0 ha0) lk_X12_95 yd_X12_set hT ha0 rfl (by decide) hS (fun q h => h) ⟨by decide, by decide⟩ (Nat.le_of_ble_eq_true rfl) ⟨by decide, by decide⟩ rfl dX12_shuts_4 (fun H_1 locs_1 p_1 hT_1 hk_1 hS_1 => ?_)
  have p_1 : (AU 985 H H_1 (ρ a0 0) 288 (0)) := p_1
  have hW_1 : PW N H_1 (ρ a0 0) := PW.put hI.1 p_1 (by show (-2147483648 : Int) ≤ _; exact i_min _) (by show _ ≤ (2147483647 : Int); exact i_max _)
  refine lv_aload_n hx hb dX12_shuts_7 rfl (lv_at hl 0 rfl) ?_
  refine lv_iload_n hx hb dX12_shuts_8 rfl (lv_at hl 1 rfl) ?_
  refine lv_bipush (v := 11) hx hb dX12_shuts_9 (by decide) ?_
  refine lv_iconst (v := 0) hx hb dX12_shuts_11 (by decide) ?_
  refine th_Vv (As := [.int 1, .int 11, .int 0]) (rest := []) E hml hl.1 (y_set_v45 l D cI cS τ ρ hW H_1 hT_1 a0 ha0) lk_X12_95 yd_X12_set hT_1 ha0 rfl (by decide) hS_1 (fun q h => h) ⟨by decide, by decide⟩ (Nat.le_of_ble_eq_true rfl) ⟨by decide, by decide⟩ rfl dX12_shuts_12 (fun H_2 locs_2 p_2 hT_2 hk_2 hS_2 => ?_)
  have p_2 : (AU 985 H_1 H_2 (ρ a0 0) 299 (0)) := p_2
  have hW_2 : PW N H_2 (ρ a0 0) := PW.put hW_1 p_2 (by show (-2147483648 : Int) ≤ _; exact i_min _) (by show _ ≤ (2147483647 : Int); exact i_max _)
  refine lv_aload_n hx hb dX12_shuts_15 rfl (lv_at hl 0 rfl) ?_
  refine lv_iload_n hx hb dX12_shuts_16 rfl (lv_at hl 1 rfl) ?_
  refine lv_bipush (v := 12) hx hb dX12_shuts_17 (by decide) ?_
  refine lv_iconst (v := 0) hx hb dX12_shuts_19 (by decide) ?_
  refine th_Vv (As := [.int 1, .int 12, .int 0]) (rest := []) E hml hl.1 (y_set_v54 l D cI cS τ ρ hW H_2 hT_2 a0 ha0) lk_X12_95 yd_X12_set hT_2 ha0 rfl (by decide) hS_2 (fun q h => h) ⟨by decide, by decide⟩ (Nat.le_of_ble_eq_true rfl) ⟨by decide, by decide⟩ rfl dX12_shuts_20 (fun H_3 locs_3 p_3 hT_3 hk_3 hS_3 => ?_)
  have p_3 : (AU 985 H_2 H_3 (ρ a0 0) 300 (0)) := p_3
  have hW_3 : PW N H_3 (ρ a0 0) := PW.put hW_2 p_3 (by show (-2147483648 : Int) ≤ _; exact i_min _) (by show _ ≤ (2147483647 : Int); exact i_max _)
  exact th_vret E hr hlk hs hT_3 hS_3 ⟨⟨hW_3, (QS.same (Eq.trans (AU.o p_3 (by decide) (by decide)) (Eq.trans (AU.o p_2 (by decide) (by decide)) (AU.o p_1 (by decide) (by decide)))) (Eq.trans (AU.o p_3 (by decide) (by decide)) (Eq.trans (AU.o p_2 (by decide) (by decide)) (AU.o p_1 (by decide) (by decide)))) hI.2.1), (QS.of (s := (0 : Int32)) (t := (ai H (ρ a0 0) 290 : Int32)) (Eq.trans (AU.o p_3 (by decide) (by decide)) (Eq.trans (AU.o p_2 (by decide) (by decide)) (AU.s p_1 (by decide)))) (Eq.trans (AU.o p_3 (by decide) (by decide)) (Eq.trans (AU.o p_2 (by decide) (by decide)) (AU.o p_1 (by decide) (by decide)))) (by have j := hI.2.2.1; unfold QS at j; have : (0 : Int32).toInt = 0 := (by decide); omega)), (PL.q (p_3.2 _ (th_ne (hW _ 12 2 ha0 (by decide) (by decide) (by decide)) (hW _ 12 0 ha0 (by decide) (by decide) (by decide)) (by decide))) (PL.q (p_2.2 _ (th_ne (hW _ 12 2 ha0 (by decide) (by decide) (by decide)) (hW _ 12 0 ha0 (by decide) (by decide) (by decide)) (by decide))) (PL.q (p_1.2 _ (th_ne (hW _ 12 2 ha0 (by decide) (by decide) (by decide)) (hW _ 12 0 ha0 (by decide) (by decide) (by decide)) (by decide))) hI.2.2.2.1))), (PL.q (p_3.2 _ (th_ne (hW _ 12 3 ha0 (by decide) (by decide) (by decide)) (hW _ 12 0 ha0 (by decide) (by decide) (by decide)) (by decide))) (PL.q (p_2.2 _ (th_ne (hW _ 12 3 ha0 (by decide) (by decide) (by decide)) (hW _ 12 0 ha0 (by decide) (by decide) (by decide)) (by decide))) (PL.q (p_1.2 _ (th_ne (hW _ 12 3 ha0 (by decide) (by decide) (by decide)) (hW _ 12 0 ha0 (by decide) (by decide) (by decide)) (by decide))) hI.2.2.2.2.1))), (IF.q (p_3.2 _ (th_ne ha0 (hW _ 12 0 ha0 (by decide) (by decide) (by decide)) (by decide))) (IF.q (p_2.2 _ (th_ne ha0 (hW _ 12 0 ha0 (by decide) (by decide) (by decide)) (by decide))) (IF.q (p_1.2 _ (th_ne ha0 (hW _ 12 0 ha0 (by decide) (by decide) (by decide)) (by decide))) hI.2.2.2.2.2)))⟩, (by rw [(Eq.trans (AU.o p_3 (by decide) (by decide)) (Eq.trans (AU.o p_2 (by decide) (by decide)) (AU.o p_1 (by decide) (by decide))))]; omega)⟩ dX12_shuts_23
set_option maxHeartbeats 4000000 in
set_option maxRecDepth 100000 in
/-- the reference: drops -/
theorem y_drops_v2 (l : Launch) (D : va_G) (cI cS : ClassId) (τ : Nat → Option Nat) (ρ : Nat → Nat → Nat) (hW : WF τ ρ) (H : Heap) (hT : TH D cI cS τ ρ H) (a0 : Nat) (ha0 : τ a0 = some 12) (N : Int) (hN0 : 0 ≤ N) (hN1 : N ≤ 600) (hI : IM D ρ N H a0) : MI l D cI cS τ ρ yX12_drops cX12_drops 3 (some .int) 0 0 H [.ref a0, .int 2, .int 0] (fun (r : Int32) (u : Heap) => (IM D ρ N u a0) ∧ ((ai H (ρ a0 0) 976).toInt ≤ (ai u (ρ a0 0) 976).toInt)) (fun q => q = ρ a0 0) := by
  refine MI.of (by decide) (Nat.le_of_ble_eq_true rfl) ?_
  intro p e s m args below meth c E hml hr hlk hs ls hl
  have hx := E.1
  have hb := E.2.1
  have hown := E.2.2.1
  have hts := E.2.2.2.1
  have hS : SS (fun q => q = ρ a0 0) H H [] := SS.rf
  have hl : lv_has ls 3 [(0, .ref a0), (1, .int 2), (2, .int 0)] := hl
  have n01 := hI.2.2.2.2.2.1
  have n23 := hI.2.2.2.2.2.2.1
  have J_28 : ∀ (H_c28 : Heap) (lc_c28 : List Loc) (ls : Array Slot), TH D cI cS τ ρ H_c28 → SS (fun q => q = ρ a0 0) H H_c28 lc_c28 → lv_has ls 3 [(0, .ref a0), (1, .int 2), (2, .int 0)] → IM D ρ N H_c28 a0 → (ai H (ρ a0 0) 976).toInt ≤ (ai H_c28 (ρ a0 0) 976).toInt → W p l e (rmO 0 0) s m args below meth c H_c28 lc_c28 0 0 (MQ below (va_Qi (fun (r : Int32) (u : Heap) => (IM D ρ N u a0) ∧ ((ai H (ρ a0 0) 976).toInt ≤ (ai u (ρ a0 0) 976).toInt)) (Bt D cI cS τ ρ H) (fun q => q = ρ a0 0)) args s 0 0 (fun q => q = ρ a0 0)) (F0 m 28 ls [.int 1, .int 982, .ref (ρ a0 0)]) := by
    intro H_c28 lc_c28 ls hT_c28 hS_c28 hl hI_c28 hmn_c28
    refine th_iast E hT_c28 hS_c28 (hW _ 12 0 ha0 (by decide) (by decide) (by decide)) rfl (by decide) (vp_in_iff.mpr ⟨by decide, by decide⟩) dX12_drops_28 (fun H_1 locs_1 hT_1 hU_1 hS_1 => ?_)
    have hU_1 : AU 985 H_c28 H_1 (ρ a0 0) 982 (1) := hU_1
    have hW_1 : PW N H_1 (ρ a0 0) := PW.put hI_c28.1 hU_1 (by show (-2147483648 : Int) ≤ _; exact i_min _) (by show (1 : Int32).toInt ≤ (2 : Int); have : (1 : Int32).toInt = 1 := (by decide); omega)
    refine lv_aload_n hx hb dX12_drops_29 rfl (lv_at hl 0 rfl) ?_
    refine gf_X12_7 E hT_1 hW ha0 dX12_drops_30 (fun h_2 => ?_)
    refine lv_sipush (v := 983) hx hb dX12_drops_33 (by decide) ?_
    refine lv_iload_n hx hb dX12_drops_36 rfl (lv_at hl 1 rfl) ?_
    refine th_iast E hT_1 hS_1 h_2 rfl (by decide) (vp_in_iff.mpr ⟨by decide, by decide⟩) dX12_drops_37 (fun H_3 locs_3 hT_3 hU_3 hS_3 => ?_)
    have hU_3 : AU 985 H_1 H_3 (ρ a0 0) 983 (2) := hU_3
    have hW_3 : PW N H_3 (ρ a0 0) := PW.put hW_1 hU_3 (by show (-2147483648 : Int) ≤ _; exact i_min _) (by show _ ≤ (2147483647 : Int); exact i_max _)
    refine lv_aload_n hx hb dX12_drops_38 rfl (lv_at hl 0 rfl) ?_
    refine gf_X12_7 E hT_3 hW ha0 dX12_drops_39 (fun h_4 => ?_)
    refine lv_sipush (v := 984) hx hb dX12_drops_42 (by decide) ?_
    refine lv_iload_n hx hb dX12_drops_45 rfl (lv_at hl 2 rfl) ?_
    refine th_iast E hT_3 hS_3 h_4 rfl (by decide) (vp_in_iff.mpr ⟨by decide, by decide⟩) dX12_drops_46 (fun H_5 locs_5 hT_5 hU_5 hS_5 => ?_)
    have hU_5 : AU 985 H_3 H_5 (ρ a0 0) 984 (0) := hU_5
    have hW_5 : PW N H_5 (ρ a0 0) := PW.put hW_3 hU_5 (by show (-2147483648 : Int) ≤ _; exact i_min _) (by show _ ≤ (2147483647 : Int); exact i_max _)
    refine lv_iconst (v := 0) hx hb dX12_drops_47 (by decide) ?_
    exact th_iret E hr hlk hs hT_5 hS_5 ⟨⟨hW_5, (QS.same (Eq.trans (AU.o hU_5 (by decide) (by decide)) (Eq.trans (AU.o hU_3 (by decide) (by decide)) (AU.o hU_1 (by decide) (by decide)))) (Eq.trans (AU.o hU_5 (by decide) (by decide)) (Eq.trans (AU.o hU_3 (by decide) (by decide)) (AU.o hU_1 (by decide) (by decide)))) hI_c28.2.1), (QS.same (Eq.trans (AU.o hU_5 (by decide) (by decide)) (Eq.trans (AU.o hU_3 (by decide) (by decide)) (AU.o hU_1 (by decide) (by decide)))) (Eq.trans (AU.o hU_5 (by decide) (by decide)) (Eq.trans (AU.o hU_3 (by decide) (by decide)) (AU.o hU_1 (by decide) (by decide)))) hI_c28.2.2.1), (PL.q (hU_5.2 _ (th_ne (hW _ 12 2 ha0 (by decide) (by decide) (by decide)) (hW _ 12 0 ha0 (by decide) (by decide) (by decide)) (by decide))) (PL.q (hU_3.2 _ (th_ne (hW _ 12 2 ha0 (by decide) (by decide) (by decide)) (hW _ 12 0 ha0 (by decide) (by decide) (by decide)) (by decide))) (PL.q (hU_1.2 _ (th_ne (hW _ 12 2 ha0 (by decide) (by decide) (by decide)) (hW _ 12 0 ha0 (by decide) (by decide) (by decide)) (by decide))) hI_c28.2.2.2.1))), (PL.q (hU_5.2 _ (th_ne (hW _ 12 3 ha0 (by decide) (by decide) (by decide)) (hW _ 12 0 ha0 (by decide) (by decide) (by decide)) (by decide))) (PL.q (hU_3.2 _ (th_ne (hW _ 12 3 ha0 (by decide) (by decide) (by decide)) (hW _ 12 0 ha0 (by decide) (by decide) (by decide)) (by decide))) (PL.q (hU_1.2 _ (th_ne (hW _ 12 3 ha0 (by decide) (by decide) (by decide)) (hW _ 12 0 ha0 (by decide) (by decide) (by decide)) (by decide))) hI_c28.2.2.2.2.1))), (IF.q (hU_5.2 _ (th_ne ha0 (hW _ 12 0 ha0 (by decide) (by decide) (by decide)) (by decide))) (IF.q (hU_3.2 _ (th_ne ha0 (hW _ 12 0 ha0 (by decide) (by decide) (by decide)) (by decide))) (IF.q (hU_1.2 _ (th_ne ha0 (hW _ 12 0 ha0 (by decide) (by decide) (by decide)) (by decide))) hI_c28.2.2.2.2.2)))⟩, (by rw [(Eq.trans (AU.o hU_5 (by decide) (by decide)) (Eq.trans (AU.o hU_3 (by decide) (by decide)) (AU.o hU_1 (by decide) (by decide))))]; omega)⟩ dX12_drops_48
  refine lv_aload_n hx hb dX12_drops_0 rfl (lv_at hl 0 rfl) ?_
  refine gf_X12_7 E hT hW ha0 dX12_drops_1 (fun h_6 => ?_)
  refine lv_sipush (v := 981) hx hb dX12_drops_4 (by decide) ?_
  refine lv_dup2_11 hx hb dX12_drops_7 rfl rfl ?_
  refine th_iald E hT h_6 (by decide) (vp_in_iff.mpr ⟨by decide, by decide⟩) dX12_drops_8 ?_
  refine th_topi (y := ai H (ρ a0 0) 981) rfl ?_
  refine lv_topi (fun x_7 ex_7 => ?_)
  have c_x_7 := congrArg Int32.toInt ex_7.symm
  refine lv_iconst (v := 1) hx hb dX12_drops_9 (by decide) ?_
  refine lv_iadd hx hb dX12_drops_10 ?_
  refine lv_topi (fun x_8 ex_8 => ?_)
  refine th_iast E hT hS h_6 rfl (by decide) (vp_in_iff.mpr ⟨by decide, by decide⟩) dX12_drops_11 (fun H_9 locs_9 hT_9 hU_9 hS_9 => ?_)
  have hU_9 : AU 985 H H_9 (ρ a0 0) 981 x_8 := hU_9
  have hW_9 : PW N H_9 (ρ a0 0) := PW.put hI.1 hU_9 (by show (-2147483648 : Int) ≤ _; exact i_min _) (by show _ ≤ (2147483647 : Int); exact i_max _)
  refine lv_aload_n hx hb dX12_drops_12 rfl (lv_at hl 0 rfl) ?_
  refine gf_X12_7 E hT_9 hW ha0 dX12_drops_13 (fun h_10 => ?_)
  refine lv_sipush (v := 982) hx hb dX12_drops_16 (by decide) ?_
  refine lv_iload_n hx hb dX12_drops_19 rfl (lv_at hl 2 rfl) ?_
  refine lv_if_le (tgt := 27) hx hb dX12_drops_20 (by decide) (fun c_11 => ?_) (fun c_11 => absurd (by decide) c_11)
  refine lv_iconst (v := 1) hx hb dX12_drops_27 (by decide) ?_
  exact J_28 H_9 locs_9 _ hT_9 hS_9 hl ⟨hW_9, (QS.same (AU.o hU_9 (by decide) (by decide)) (AU.o hU_9 (by decide) (by decide)) hI.2.1), (QS.same (AU.o hU_9 (by decide) (by decide)) (AU.o hU_9 (by decide) (by decide)) hI.2.2.1), (PL.q (hU_9.2 _ (th_ne (hW _ 12 2 ha0 (by decide) (by decide) (by decide)) (hW _ 12 0 ha0 (by decide) (by decide) (by decide)) (by decide))) hI.2.2.2.1), (PL.q (hU_9.2 _ (th_ne (hW _ 12 3 ha0 (by decide) (by decide) (by decide)) (hW _ 12 0 ha0 (by decide) (by decide) (by decide)) (by decide))) hI.2.2.2.2.1), (IF.q (hU_9.2 _ (th_ne ha0 (hW _ 12 0 ha0 (by decide) (by decide) (by decide)) (by decide))) hI.2.2.2.2.2)⟩ (by rw [(AU.o hU_9 (by decide) (by decide))]; omega)
set_option maxHeartbeats 4000000 in
set_option maxRecDepth 100000 in
/-- the reference: makes -/
theorem y_makes_v7 (l : Launch) (D : va_G) (cI cS : ClassId) (τ : Nat → Option Nat) (ρ : Nat → Nat → Nat) (hW : WF τ ρ) (H : Heap) (hT : TH D cI cS τ ρ H) (a0 : Nat) (ha0 : τ a0 = some 12) (N : Int) (hN0 : 0 ≤ N) (hN1 : N ≤ 600) (hI : IM D ρ N H a0) : MV l D cI cS τ ρ yX12_makes cX12_makes 5 none 0 0 H [.ref a0, .int 1, .int 12, .int 0] (fun (u : Heap) => (IM D ρ N u a0) ∧ ((ai H (ρ a0 0) 976).toInt ≤ (ai u (ρ a0 0) 976).toInt)) (fun q => q = ρ a0 2) := by
  refine MV.of (by decide) (Nat.le_of_ble_eq_true rfl) ?_
  intro p e s m args below meth c E hml hr hlk hs ls hl
  have hx := E.1
  have hb := E.2.1
  have hown := E.2.2.1
  have hts := E.2.2.2.1
  have hS : SS (fun q => q = ρ a0 2) H H [] := SS.rf
  have hl : lv_has ls 5 [(0, .ref a0), (1, .int 1), (2, .int 12), (3, .int 0)] := hl
  have n01 := hI.2.2.2.2.2.1
  have n23 := hI.2.2.2.2.2.2.1
  have L_3 : ∀ (n : Nat) (H_c3 : Heap) (lc_c3 : List Loc) (ls : Array Slot) (y3_4 : Int32), TH D cI cS τ ρ H_c3 → SS (fun q => q = ρ a0 2) H H_c3 lc_c3 → lv_has ls 5 [(0, .ref a0), (1, .int 1), (2, .int 12), (3, .int 0), (4, .int y3_4)] → 0 ≤ y3_4.toInt → IM D ρ N H_c3 a0 → (ai H (ρ a0 0) 976).toInt ≤ (ai H_c3 (ρ a0 0) 976).toInt → (20 - y3_4.toInt).toNat < n → W p l e (rmO 0 0) s m args below meth c H_c3 lc_c3 0 0 (MQ below (va_Qv (fun (u : Heap) => (IM D ρ N u a0) ∧ ((ai H (ρ a0 0) 976).toInt ≤ (ai u (ρ a0 0) 976).toInt)) (Bt D cI cS τ ρ H) (fun q => q = ρ a0 2)) args s 0 0 (fun q => q = ρ a0 2)) (F0 m 3 ls []) := by
    intro n
    induction n with
    | zero => intro H_c3 lc_c3 ls y3_4 hT_c3 hS_c3 hl ly3_4 hI_c3 hmn_c3 hm; exact absurd hm (Nat.not_lt_zero _)
    | succ n ih_3 =>
      intro H_c3 lc_c3 ls y3_4 hT_c3 hS_c3 hl ly3_4 hI_c3 hmn_c3 hm_3
      refine lv_iload hx hb dX12_makes_3 (lv_at hl 4 rfl) ?_
      refine lv_bipush (v := 20) hx hb dX12_makes_5 (by decide) ?_
      refine lv_icmp_ge (tgt := 55) hx hb dX12_makes_7 (by decide) (fun c_1 => ?_) (fun c_1 => ?_)
      · have f_1 : 20 ≤ y3_4.toInt := r_le (by decide) rfl c_1
        refine lv_aload_n hx hb dX12_makes_55 rfl (lv_at hl 0 rfl) ?_
        refine gf_X12_16 E hT_c3 hW ha0 dX12_makes_56 (fun h_2 => ?_)
        refine lv_iconst (v := 0) hx hb dX12_makes_59 (by decide) ?_
        refine lv_iload_n hx hb dX12_makes_60 rfl (lv_at hl 1 rfl) ?_
        refine th_iast E hT_c3 hS_c3 h_2 rfl (by decide) (vp_in_iff.mpr ⟨by decide, by decide⟩) dX12_makes_61 (fun H_3 locs_3 hT_3 hU_3 hS_3 => ?_)
        have hU_3 : AU 20 H_c3 H_3 (ρ a0 2) 0 (1) := hU_3
        have hL_3 : PL H_3 (ρ a0 2) := PL.put hI_c3.2.2.2.1 hU_3 (by show (0 : Int) ≤ (1 : Int32).toInt; have : (1 : Int32).toInt = 1 := (by decide); omega) (by show (1 : Int32).toInt ≤ (1 : Int); have : (1 : Int32).toInt = 1 := (by decide); omega)
        refine lv_aload_n hx hb dX12_makes_62 rfl (lv_at hl 0 rfl) ?_
        refine gf_X12_16 E hT_3 hW ha0 dX12_makes_63 (fun h_4 => ?_)
        refine lv_iconst (v := 1) hx hb dX12_makes_66 (by decide) ?_
        refine lv_iload_n hx hb dX12_makes_67 rfl (lv_at hl 2 rfl) ?_
        refine th_iast E hT_3 hS_3 h_4 rfl (by decide) (vp_in_iff.mpr ⟨by decide, by decide⟩) dX12_makes_68 (fun H_5 locs_5 hT_5 hU_5 hS_5 => ?_)
        have hU_5 : AU 20 H_3 H_5 (ρ a0 2) 1 (12) := hU_5
        have hL_5 : PL H_5 (ρ a0 2) := PL.put hL_3 hU_5 (by show (-2147483648 : Int) ≤ _; exact i_min _) (by show _ ≤ (2147483647 : Int); exact i_max _)
        refine lv_aload_n hx hb dX12_makes_69 rfl (lv_at hl 0 rfl) ?_
        refine gf_X12_16 E hT_5 hW ha0 dX12_makes_70 (fun h_6 => ?_)
        refine lv_iconst (v := 2) hx hb dX12_makes_73 (by decide) ?_
        refine lv_iload_n hx hb dX12_makes_74 rfl (lv_at hl 3 rfl) ?_
        refine th_iast E hT_5 hS_5 h_6 rfl (by decide) (vp_in_iff.mpr ⟨by decide, by decide⟩) dX12_makes_75 (fun H_7 locs_7 hT_7 hU_7 hS_7 => ?_)
        have hU_7 : AU 20 H_5 H_7 (ρ a0 2) 2 (0) := hU_7
        have hL_7 : PL H_7 (ρ a0 2) := PL.put hL_5 hU_7 (by show (-2147483648 : Int) ≤ _; exact i_min _) (by show _ ≤ (2147483647 : Int); exact i_max _)
        refine lv_iload_n hx hb dX12_makes_76 rfl (lv_at hl 2 rfl) ?_
        refine lv_iconst (v := 4) hx hb dX12_makes_77 (by decide) ?_
        refine lv_iand hx hb dX12_makes_78 ?_
        refine th_topi (y := 4) (by decide) ?_
        refine lv_if_le (tgt := 133) hx hb dX12_makes_79 (by decide) (fun c_8 => absurd c_8 (by decide)) (fun c_8 => ?_)
        refine lv_iload_n hx hb dX12_makes_82 rfl (lv_at hl 2 rfl) ?_
        refine lv_bipush (v := 8) hx hb dX12_makes_83 (by decide) ?_
        refine lv_iand hx hb dX12_makes_85 ?_
        refine th_topi (y := 8) (by decide) ?_
        refine lv_if_ne (tgt := 133) hx hb dX12_makes_86 (by decide) (fun c_9 => ?_) (fun c_9 => absurd c_9 (by decide))
        exact th_vret E hr hlk hs hT_7 hS_7 ⟨⟨(PW.q (hU_7.2 _ (th_ne (hW _ 12 0 ha0 (by decide) (by decide) (by decide)) (hW _ 12 2 ha0 (by decide) (by decide) (by decide)) (by decide))) (PW.q (hU_5.2 _ (th_ne (hW _ 12 0 ha0 (by decide) (by decide) (by decide)) (hW _ 12 2 ha0 (by decide) (by decide) (by decide)) (by decide))) (PW.q (hU_3.2 _ (th_ne (hW _ 12 0 ha0 (by decide) (by decide) (by decide)) (hW _ 12 2 ha0 (by decide) (by decide) (by decide)) (by decide))) hI_c3.1))), (QS.same (Eq.trans (ai_q (hU_7.2 _ (th_ne (hW _ 12 0 ha0 (by decide) (by decide) (by decide)) (hW _ 12 2 ha0 (by decide) (by decide) (by decide)) (by decide)))) (Eq.trans (ai_q (hU_5.2 _ (th_ne (hW _ 12 0 ha0 (by decide) (by decide) (by decide)) (hW _ 12 2 ha0 (by decide) (by decide) (by decide)) (by decide)))) (ai_q (hU_3.2 _ (th_ne (hW _ 12 0 ha0 (by decide) (by decide) (by decide)) (hW _ 12 2 ha0 (by decide) (by decide) (by decide)) (by decide)))))) (Eq.trans (ai_q (hU_7.2 _ (th_ne (hW _ 12 0 ha0 (by decide) (by decide) (by decide)) (hW _ 12 2 ha0 (by decide) (by decide) (by decide)) (by decide)))) (Eq.trans (ai_q (hU_5.2 _ (th_ne (hW _ 12 0 ha0 (by decide) (by decide) (by decide)) (hW _ 12 2 ha0 (by decide) (by decide) (by decide)) (by decide)))) (ai_q (hU_3.2 _ (th_ne (hW _ 12 0 ha0 (by decide) (by decide) (by decide)) (hW _ 12 2 ha0 (by decide) (by decide) (by decide)) (by decide)))))) hI_c3.2.1), (QS.same (Eq.trans (ai_q (hU_7.2 _ (th_ne (hW _ 12 0 ha0 (by decide) (by decide) (by decide)) (hW _ 12 2 ha0 (by decide) (by decide) (by decide)) (by decide)))) (Eq.trans (ai_q (hU_5.2 _ (th_ne (hW _ 12 0 ha0 (by decide) (by decide) (by decide)) (hW _ 12 2 ha0 (by decide) (by decide) (by decide)) (by decide)))) (ai_q (hU_3.2 _ (th_ne (hW _ 12 0 ha0 (by decide) (by decide) (by decide)) (hW _ 12 2 ha0 (by decide) (by decide) (by decide)) (by decide)))))) (Eq.trans (ai_q (hU_7.2 _ (th_ne (hW _ 12 0 ha0 (by decide) (by decide) (by decide)) (hW _ 12 2 ha0 (by decide) (by decide) (by decide)) (by decide)))) (Eq.trans (ai_q (hU_5.2 _ (th_ne (hW _ 12 0 ha0 (by decide) (by decide) (by decide)) (hW _ 12 2 ha0 (by decide) (by decide) (by decide)) (by decide)))) (ai_q (hU_3.2 _ (th_ne (hW _ 12 0 ha0 (by decide) (by decide) (by decide)) (hW _ 12 2 ha0 (by decide) (by decide) (by decide)) (by decide)))))) hI_c3.2.2.1), hL_7, (PL.q (hU_7.2 _ (Ne.symm n23)) (PL.q (hU_5.2 _ (Ne.symm n23)) (PL.q (hU_3.2 _ (Ne.symm n23)) hI_c3.2.2.2.2.1))), (IF.q (hU_7.2 _ (th_ne ha0 (hW _ 12 2 ha0 (by decide) (by decide) (by decide)) (by decide))) (IF.q (hU_5.2 _ (th_ne ha0 (hW _ 12 2 ha0 (by decide) (by decide) (by decide)) (by decide))) (IF.q (hU_3.2 _ (th_ne ha0 (hW _ 12 2 ha0 (by decide) (by decide) (by decide)) (by decide))) hI_c3.2.2.2.2.2)))⟩, (by rw [(Eq.trans (ai_q (hU_7.2 _ (th_ne (hW _ 12 0 ha0 (by decide) (by decide) (by decide)) (hW _ 12 2 ha0 (by decide) (by decide) (by decide)) (by decide)))) (Eq.trans (ai_q (hU_5.2 _ (th_ne (hW _ 12 0 ha0 (by decide) (by decide) (by decide)) (hW _ 12 2 ha0 (by decide) (by decide) (by decide)) (by decide)))) (ai_q (hU_3.2 _ (th_ne (hW _ 12 0 ha0 (by decide) (by decide) (by decide)) (hW _ 12 2 ha0 (by decide) (by decide) (by decide)) (by decide))))))]; omega)⟩ dX12_makes_133
      · have f_1 : y3_4.toInt < 20 := r_nle (by decide) rfl c_1
        refine lv_aload_n hx hb dX12_makes_10 rfl (lv_at hl 0 rfl) ?_
        refine gf_X12_16 E hT_c3 hW ha0 dX12_makes_11 (fun h_10 => ?_)
        refine lv_iload hx hb dX12_makes_14 (lv_at hl 4 rfl) ?_
        refine lv_iload hx hb dX12_makes_16 (lv_at hl 4 rfl) ?_
        refine lv_iconst (v := 3) hx hb dX12_makes_18 (by decide) ?_
        refine lv_icmp_lt (tgt := 42) hx hb dX12_makes_19 (by decide) (fun c_11 => ?_) (fun c_11 => ?_)
        · have f_11 : y3_4.toInt < 3 := r_lt rfl (by decide) c_11
          refine lv_iconst (v := 0) hx hb dX12_makes_42 (by decide) ?_
          refine lv_goto (tgt := 48) hx hb dX12_makes_43 (by decide) ?_
          refine th_iast E hT_c3 hS_c3 h_10 rfl (by decide) (vp_in_iff.mpr ⟨by omega, by omega⟩) dX12_makes_48 (fun H_12 locs_12 hT_12 hU_12 hS_12 => ?_)
          have hU_12 : AU 20 H_c3 H_12 (ρ a0 2) y3_4.toInt.toNat (0) := hU_12
          have hL_12 : PL H_12 (ρ a0 2) := PL.zero hI_c3.2.2.2.1 hU_12
          obtain ⟨x_13, ex_13⟩ : ∃ y : Int32, y3_4 + 1 = y := ⟨_, rfl⟩
          have q_x_13 : x_13.toInt = y3_4.toInt + 1 := i_add (k := 1) (by decide) ex_13 (by have := i_min y3_4; omega) (by have := i_max y3_4; omega)
          refine lv_iinc (v := x_13) (lv' := [(4, .int x_13), (0, .ref a0), (1, .int 1), (2, .int 12), (3, .int 0)]) hx hb dX12_makes_49 hl (k := 4) rfl (by rw [← ex_13]; rfl) (by decide) rfl (fun ls hl => ?_)
          refine lv_goto (tgt := 3) hx hb dX12_makes_52 (by decide) ?_
          exact ih_3 H_12 locs_12 _ x_13 hT_12 hS_12 (lv_sub hl [1, 2, 3, 4, 0] rfl) (by omega) ⟨(PW.q (hU_12.2 _ (th_ne (hW _ 12 0 ha0 (by decide) (by decide) (by decide)) (hW _ 12 2 ha0 (by decide) (by decide) (by decide)) (by decide))) hI_c3.1), (QS.same (ai_q (hU_12.2 _ (th_ne (hW _ 12 0 ha0 (by decide) (by decide) (by decide)) (hW _ 12 2 ha0 (by decide) (by decide) (by decide)) (by decide)))) (ai_q (hU_12.2 _ (th_ne (hW _ 12 0 ha0 (by decide) (by decide) (by decide)) (hW _ 12 2 ha0 (by decide) (by decide) (by decide)) (by decide)))) hI_c3.2.1), (QS.same (ai_q (hU_12.2 _ (th_ne (hW _ 12 0 ha0 (by decide) (by decide) (by decide)) (hW _ 12 2 ha0 (by decide) (by decide) (by decide)) (by decide)))) (ai_q (hU_12.2 _ (th_ne (hW _ 12 0 ha0 (by decide) (by decide) (by decide)) (hW _ 12 2 ha0 (by decide) (by decide) (by decide)) (by decide)))) hI_c3.2.2.1), hL_12, (PL.q (hU_12.2 _ (Ne.symm n23)) hI_c3.2.2.2.2.1), (IF.q (hU_12.2 _ (th_ne ha0 (hW _ 12 2 ha0 (by decide) (by decide) (by decide)) (by decide))) hI_c3.2.2.2.2.2)⟩ (by rw [(ai_q (hU_12.2 _ (th_ne (hW _ 12 0 ha0 (by decide) (by decide) (by decide)) (hW _ 12 2 ha0 (by decide) (by decide) (by decide)) (by decide))))]; omega) (by omega)
        · have f_11 : 3 ≤ y3_4.toInt := r_nlt rfl (by decide) c_11
          refine lv_iload hx hb dX12_makes_22 (lv_at hl 4 rfl) ?_
          refine lv_iconst (v := 5) hx hb dX12_makes_24 (by decide) ?_
          refine lv_icmp_eq (tgt := 42) hx hb dX12_makes_25 (by decide) (fun c_14 => ?_) (fun c_14 => ?_)
          · have f_14 : y3_4.toInt = 5 := r_eq rfl (by decide) c_14
            refine lv_iconst (v := 0) hx hb dX12_makes_42 (by decide) ?_
            refine lv_goto (tgt := 48) hx hb dX12_makes_43 (by decide) ?_
            refine th_iast E hT_c3 hS_c3 h_10 rfl (by decide) (vp_in_iff.mpr ⟨by omega, by omega⟩) dX12_makes_48 (fun H_15 locs_15 hT_15 hU_15 hS_15 => ?_)
            have hU_15 : AU 20 H_c3 H_15 (ρ a0 2) y3_4.toInt.toNat (0) := hU_15
            have hL_15 : PL H_15 (ρ a0 2) := PL.zero hI_c3.2.2.2.1 hU_15
            obtain ⟨x_16, ex_16⟩ : ∃ y : Int32, y3_4 + 1 = y := ⟨_, rfl⟩
            have q_x_16 : x_16.toInt = y3_4.toInt + 1 := i_add (k := 1) (by decide) ex_16 (by have := i_min y3_4; omega) (by have := i_max y3_4; omega)
            refine lv_iinc (v := x_16) (lv' := [(4, .int x_16), (0, .ref a0), (1, .int 1), (2, .int 12), (3, .int 0)]) hx hb dX12_makes_49 hl (k := 4) rfl (by rw [← ex_16]; rfl) (by decide) rfl (fun ls hl => ?_)
            refine lv_goto (tgt := 3) hx hb dX12_makes_52 (by decide) ?_
            exact ih_3 H_15 locs_15 _ x_16 hT_15 hS_15 (lv_sub hl [1, 2, 3, 4, 0] rfl) (by omega) ⟨(PW.q (hU_15.2 _ (th_ne (hW _ 12 0 ha0 (by decide) (by decide) (by decide)) (hW _ 12 2 ha0 (by decide) (by decide) (by decide)) (by decide))) hI_c3.1), (QS.same (ai_q (hU_15.2 _ (th_ne (hW _ 12 0 ha0 (by decide) (by decide) (by decide)) (hW _ 12 2 ha0 (by decide) (by decide) (by decide)) (by decide)))) (ai_q (hU_15.2 _ (th_ne (hW _ 12 0 ha0 (by decide) (by decide) (by decide)) (hW _ 12 2 ha0 (by decide) (by decide) (by decide)) (by decide)))) hI_c3.2.1), (QS.same (ai_q (hU_15.2 _ (th_ne (hW _ 12 0 ha0 (by decide) (by decide) (by decide)) (hW _ 12 2 ha0 (by decide) (by decide) (by decide)) (by decide)))) (ai_q (hU_15.2 _ (th_ne (hW _ 12 0 ha0 (by decide) (by decide) (by decide)) (hW _ 12 2 ha0 (by decide) (by decide) (by decide)) (by decide)))) hI_c3.2.2.1), hL_15, (PL.q (hU_15.2 _ (Ne.symm n23)) hI_c3.2.2.2.2.1), (IF.q (hU_15.2 _ (th_ne ha0 (hW _ 12 2 ha0 (by decide) (by decide) (by decide)) (by decide))) hI_c3.2.2.2.2.2)⟩ (by rw [(ai_q (hU_15.2 _ (th_ne (hW _ 12 0 ha0 (by decide) (by decide) (by decide)) (hW _ 12 2 ha0 (by decide) (by decide) (by decide)) (by decide))))]; omega) (by omega)
          · have f_14 : ¬ y3_4.toInt = 5 := r_ne rfl (by decide) c_14
            refine lv_iload hx hb dX12_makes_28 (lv_at hl 4 rfl) ?_
            refine lv_bipush (v := 6) hx hb dX12_makes_30 (by decide) ?_
            refine lv_icmp_eq (tgt := 42) hx hb dX12_makes_32 (by decide) (fun c_17 => ?_) (fun c_17 => ?_)
            · have f_17 : y3_4.toInt = 6 := r_eq rfl (by decide) c_17
              refine lv_iconst (v := 0) hx hb dX12_makes_42 (by decide) ?_
              refine lv_goto (tgt := 48) hx hb dX12_makes_43 (by decide) ?_
              refine th_iast E hT_c3 hS_c3 h_10 rfl (by decide) (vp_in_iff.mpr ⟨by omega, by omega⟩) dX12_makes_48 (fun H_18 locs_18 hT_18 hU_18 hS_18 => ?_)
              have hU_18 : AU 20 H_c3 H_18 (ρ a0 2) y3_4.toInt.toNat (0) := hU_18
              have hL_18 : PL H_18 (ρ a0 2) := PL.zero hI_c3.2.2.2.1 hU_18
              obtain ⟨x_19, ex_19⟩ : ∃ y : Int32, y3_4 + 1 = y := ⟨_, rfl⟩
              have q_x_19 : x_19.toInt = y3_4.toInt + 1 := i_add (k := 1) (by decide) ex_19 (by have := i_min y3_4; omega) (by have := i_max y3_4; omega)
              refine lv_iinc (v := x_19) (lv' := [(4, .int x_19), (0, .ref a0), (1, .int 1), (2, .int 12), (3, .int 0)]) hx hb dX12_makes_49 hl (k := 4) rfl (by rw [← ex_19]; rfl) (by decide) rfl (fun ls hl => ?_)
              refine lv_goto (tgt := 3) hx hb dX12_makes_52 (by decide) ?_
              exact ih_3 H_18 locs_18 _ x_19 hT_18 hS_18 (lv_sub hl [1, 2, 3, 4, 0] rfl) (by omega) ⟨(PW.q (hU_18.2 _ (th_ne (hW _ 12 0 ha0 (by decide) (by decide) (by decide)) (hW _ 12 2 ha0 (by decide) (by decide) (by decide)) (by decide))) hI_c3.1), (QS.same (ai_q (hU_18.2 _ (th_ne (hW _ 12 0 ha0 (by decide) (by decide) (by decide)) (hW _ 12 2 ha0 (by decide) (by decide) (by decide)) (by decide)))) (ai_q (hU_18.2 _ (th_ne (hW _ 12 0 ha0 (by decide) (by decide) (by decide)) (hW _ 12 2 ha0 (by decide) (by decide) (by decide)) (by decide)))) hI_c3.2.1), (QS.same (ai_q (hU_18.2 _ (th_ne (hW _ 12 0 ha0 (by decide) (by decide) (by decide)) (hW _ 12 2 ha0 (by decide) (by decide) (by decide)) (by decide)))) (ai_q (hU_18.2 _ (th_ne (hW _ 12 0 ha0 (by decide) (by decide) (by decide)) (hW _ 12 2 ha0 (by decide) (by decide) (by decide)) (by decide)))) hI_c3.2.2.1), hL_18, (PL.q (hU_18.2 _ (Ne.symm n23)) hI_c3.2.2.2.2.1), (IF.q (hU_18.2 _ (th_ne ha0 (hW _ 12 2 ha0 (by decide) (by decide) (by decide)) (by decide))) hI_c3.2.2.2.2.2)⟩ (by rw [(ai_q (hU_18.2 _ (th_ne (hW _ 12 0 ha0 (by decide) (by decide) (by decide)) (hW _ 12 2 ha0 (by decide) (by decide) (by decide)) (by decide))))]; omega) (by omega)
            · have f_17 : ¬ y3_4.toInt = 6 := r_ne rfl (by decide) c_17
              refine lv_iload hx hb dX12_makes_35 (lv_at hl 4 rfl) ?_
              refine lv_bipush (v := 12) hx hb dX12_makes_37 (by decide) ?_
              refine lv_icmp_lt (tgt := 46) hx hb dX12_makes_39 (by decide) (fun c_20 => ?_) (fun c_20 => ?_)
              · have f_20 : y3_4.toInt < 12 := r_lt rfl (by decide) c_20
                refine lv_bipush (v := (-4)) hx hb dX12_makes_46 (by decide) ?_
                refine th_iast E hT_c3 hS_c3 h_10 rfl (by decide) (vp_in_iff.mpr ⟨by omega, by omega⟩) dX12_makes_48 (fun H_21 locs_21 hT_21 hU_21 hS_21 => ?_)
                have hU_21 : AU 20 H_c3 H_21 (ρ a0 2) y3_4.toInt.toNat ((-4)) := hU_21
                have hL_21 : PL H_21 (ρ a0 2) := PL.free hI_c3.2.2.2.1 hU_21 (by omega)
                obtain ⟨x_22, ex_22⟩ : ∃ y : Int32, y3_4 + 1 = y := ⟨_, rfl⟩
                have q_x_22 : x_22.toInt = y3_4.toInt + 1 := i_add (k := 1) (by decide) ex_22 (by have := i_min y3_4; omega) (by have := i_max y3_4; omega)
                refine lv_iinc (v := x_22) (lv' := [(4, .int x_22), (0, .ref a0), (1, .int 1), (2, .int 12), (3, .int 0)]) hx hb dX12_makes_49 hl (k := 4) rfl (by rw [← ex_22]; rfl) (by decide) rfl (fun ls hl => ?_)
                refine lv_goto (tgt := 3) hx hb dX12_makes_52 (by decide) ?_
                exact ih_3 H_21 locs_21 _ x_22 hT_21 hS_21 (lv_sub hl [1, 2, 3, 4, 0] rfl) (by omega) ⟨(PW.q (hU_21.2 _ (th_ne (hW _ 12 0 ha0 (by decide) (by decide) (by decide)) (hW _ 12 2 ha0 (by decide) (by decide) (by decide)) (by decide))) hI_c3.1), (QS.same (ai_q (hU_21.2 _ (th_ne (hW _ 12 0 ha0 (by decide) (by decide) (by decide)) (hW _ 12 2 ha0 (by decide) (by decide) (by decide)) (by decide)))) (ai_q (hU_21.2 _ (th_ne (hW _ 12 0 ha0 (by decide) (by decide) (by decide)) (hW _ 12 2 ha0 (by decide) (by decide) (by decide)) (by decide)))) hI_c3.2.1), (QS.same (ai_q (hU_21.2 _ (th_ne (hW _ 12 0 ha0 (by decide) (by decide) (by decide)) (hW _ 12 2 ha0 (by decide) (by decide) (by decide)) (by decide)))) (ai_q (hU_21.2 _ (th_ne (hW _ 12 0 ha0 (by decide) (by decide) (by decide)) (hW _ 12 2 ha0 (by decide) (by decide) (by decide)) (by decide)))) hI_c3.2.2.1), hL_21, (PL.q (hU_21.2 _ (Ne.symm n23)) hI_c3.2.2.2.2.1), (IF.q (hU_21.2 _ (th_ne ha0 (hW _ 12 2 ha0 (by decide) (by decide) (by decide)) (by decide))) hI_c3.2.2.2.2.2)⟩ (by rw [(ai_q (hU_21.2 _ (th_ne (hW _ 12 0 ha0 (by decide) (by decide) (by decide)) (hW _ 12 2 ha0 (by decide) (by decide) (by decide)) (by decide))))]; omega) (by omega)
              · have f_20 : 12 ≤ y3_4.toInt := r_nlt rfl (by decide) c_20
                refine lv_iconst (v := 0) hx hb dX12_makes_42 (by decide) ?_
                refine lv_goto (tgt := 48) hx hb dX12_makes_43 (by decide) ?_
                refine th_iast E hT_c3 hS_c3 h_10 rfl (by decide) (vp_in_iff.mpr ⟨by omega, by omega⟩) dX12_makes_48 (fun H_23 locs_23 hT_23 hU_23 hS_23 => ?_)
                have hU_23 : AU 20 H_c3 H_23 (ρ a0 2) y3_4.toInt.toNat (0) := hU_23
                have hL_23 : PL H_23 (ρ a0 2) := PL.zero hI_c3.2.2.2.1 hU_23
                obtain ⟨x_24, ex_24⟩ : ∃ y : Int32, y3_4 + 1 = y := ⟨_, rfl⟩
                have q_x_24 : x_24.toInt = y3_4.toInt + 1 := i_add (k := 1) (by decide) ex_24 (by have := i_min y3_4; omega) (by have := i_max y3_4; omega)
                refine lv_iinc (v := x_24) (lv' := [(4, .int x_24), (0, .ref a0), (1, .int 1), (2, .int 12), (3, .int 0)]) hx hb dX12_makes_49 hl (k := 4) rfl (by rw [← ex_24]; rfl) (by decide) rfl (fun ls hl => ?_)
                refine lv_goto (tgt := 3) hx hb dX12_makes_52 (by decide) ?_
                exact ih_3 H_23 locs_23 _ x_24 hT_23 hS_23 (lv_sub hl [1, 2, 3, 4, 0] rfl) (by omega) ⟨(PW.q (hU_23.2 _ (th_ne (hW _ 12 0 ha0 (by decide) (by decide) (by decide)) (hW _ 12 2 ha0 (by decide) (by decide) (by decide)) (by decide))) hI_c3.1), (QS.same (ai_q (hU_23.2 _ (th_ne (hW _ 12 0 ha0 (by decide) (by decide) (by decide)) (hW _ 12 2 ha0 (by decide) (by decide) (by decide)) (by decide)))) (ai_q (hU_23.2 _ (th_ne (hW _ 12 0 ha0 (by decide) (by decide) (by decide)) (hW _ 12 2 ha0 (by decide) (by decide) (by decide)) (by decide)))) hI_c3.2.1), (QS.same (ai_q (hU_23.2 _ (th_ne (hW _ 12 0 ha0 (by decide) (by decide) (by decide)) (hW _ 12 2 ha0 (by decide) (by decide) (by decide)) (by decide)))) (ai_q (hU_23.2 _ (th_ne (hW _ 12 0 ha0 (by decide) (by decide) (by decide)) (hW _ 12 2 ha0 (by decide) (by decide) (by decide)) (by decide)))) hI_c3.2.2.1), hL_23, (PL.q (hU_23.2 _ (Ne.symm n23)) hI_c3.2.2.2.2.1), (IF.q (hU_23.2 _ (th_ne ha0 (hW _ 12 2 ha0 (by decide) (by decide) (by decide)) (by decide))) hI_c3.2.2.2.2.2)⟩ (by rw [(ai_q (hU_23.2 _ (th_ne (hW _ 12 0 ha0 (by decide) (by decide) (by decide)) (hW _ 12 2 ha0 (by decide) (by decide) (by decide)) (by decide))))]; omega) (by omega)
  refine lv_iconst (v := 0) hx hb dX12_makes_0 (by decide) ?_
  refine lv_istore (lv' := [(4, .int 0), (0, .ref a0), (1, .int 1), (2, .int 12), (3, .int 0)]) hx hb dX12_makes_1 hl (by decide) rfl (fun ls hl => ?_)
  exact L_3 _ H [] _ 0 hT hS (lv_sub hl [1, 2, 3, 4, 0] rfl) (by decide) ⟨hI.1, hI.2.1, hI.2.2.1, hI.2.2.2.1, hI.2.2.2.2.1, hI.2.2.2.2.2⟩ (by omega) (Nat.lt_succ_self _)
set_option maxHeartbeats 4000000 in
set_option maxRecDepth 100000 in
/-- the reference: makes -/
theorem y_makes_v8 (l : Launch) (D : va_G) (cI cS : ClassId) (τ : Nat → Option Nat) (ρ : Nat → Nat → Nat) (hW : WF τ ρ) (H : Heap) (hT : TH D cI cS τ ρ H) (a0 : Nat) (x2 : Int32) (ha0 : τ a0 = some 12) (N : Int) (hN0 : 0 ≤ N) (hN1 : N ≤ 600) (hI : IM D ρ N H a0) : MV l D cI cS τ ρ yX12_makes cX12_makes 5 none 0 0 H [.ref a0, .int 1, .int 8, .int x2] (fun (u : Heap) => (IM D ρ N u a0) ∧ ((ai H (ρ a0 0) 976).toInt ≤ (ai u (ρ a0 0) 976).toInt)) (fun q => q = ρ a0 2) := by
  refine MV.of (by decide) (Nat.le_of_ble_eq_true rfl) ?_
  intro p e s m args below meth c E hml hr hlk hs ls hl
  have hx := E.1
  have hb := E.2.1
  have hown := E.2.2.1
  have hts := E.2.2.2.1
  have hS : SS (fun q => q = ρ a0 2) H H [] := SS.rf
  have hl : lv_has ls 5 [(0, .ref a0), (1, .int 1), (2, .int 8), (3, .int x2)] := hl
  have n01 := hI.2.2.2.2.2.1
  have n23 := hI.2.2.2.2.2.2.1
  have L_3 : ∀ (n : Nat) (H_c3 : Heap) (lc_c3 : List Loc) (ls : Array Slot) (y3_4 : Int32), TH D cI cS τ ρ H_c3 → SS (fun q => q = ρ a0 2) H H_c3 lc_c3 → lv_has ls 5 [(0, .ref a0), (1, .int 1), (2, .int 8), (3, .int x2), (4, .int y3_4)] → 0 ≤ y3_4.toInt → IM D ρ N H_c3 a0 → (ai H (ρ a0 0) 976).toInt ≤ (ai H_c3 (ρ a0 0) 976).toInt → (20 - y3_4.toInt).toNat < n → W p l e (rmO 0 0) s m args below meth c H_c3 lc_c3 0 0 (MQ below (va_Qv (fun (u : Heap) => (IM D ρ N u a0) ∧ ((ai H (ρ a0 0) 976).toInt ≤ (ai u (ρ a0 0) 976).toInt)) (Bt D cI cS τ ρ H) (fun q => q = ρ a0 2)) args s 0 0 (fun q => q = ρ a0 2)) (F0 m 3 ls []) := by
    intro n
    induction n with
    | zero => intro H_c3 lc_c3 ls y3_4 hT_c3 hS_c3 hl ly3_4 hI_c3 hmn_c3 hm; exact absurd hm (Nat.not_lt_zero _)
    | succ n ih_3 =>
      intro H_c3 lc_c3 ls y3_4 hT_c3 hS_c3 hl ly3_4 hI_c3 hmn_c3 hm_3
      refine lv_iload hx hb dX12_makes_3 (lv_at hl 4 rfl) ?_
      refine lv_bipush (v := 20) hx hb dX12_makes_5 (by decide) ?_
      refine lv_icmp_ge (tgt := 55) hx hb dX12_makes_7 (by decide) (fun c_1 => ?_) (fun c_1 => ?_)
      · have f_1 : 20 ≤ y3_4.toInt := r_le (by decide) rfl c_1
        refine lv_aload_n hx hb dX12_makes_55 rfl (lv_at hl 0 rfl) ?_
        refine gf_X12_16 E hT_c3 hW ha0 dX12_makes_56 (fun h_2 => ?_)
        refine lv_iconst (v := 0) hx hb dX12_makes_59 (by decide) ?_
        refine lv_iload_n hx hb dX12_makes_60 rfl (lv_at hl 1 rfl) ?_
        refine th_iast E hT_c3 hS_c3 h_2 rfl (by decide) (vp_in_iff.mpr ⟨by decide, by decide⟩) dX12_makes_61 (fun H_3 locs_3 hT_3 hU_3 hS_3 => ?_)
        have hU_3 : AU 20 H_c3 H_3 (ρ a0 2) 0 (1) := hU_3
        have hL_3 : PL H_3 (ρ a0 2) := PL.put hI_c3.2.2.2.1 hU_3 (by show (0 : Int) ≤ (1 : Int32).toInt; have : (1 : Int32).toInt = 1 := (by decide); omega) (by show (1 : Int32).toInt ≤ (1 : Int); have : (1 : Int32).toInt = 1 := (by decide); omega)
        refine lv_aload_n hx hb dX12_makes_62 rfl (lv_at hl 0 rfl) ?_
        refine gf_X12_16 E hT_3 hW ha0 dX12_makes_63 (fun h_4 => ?_)
        refine lv_iconst (v := 1) hx hb dX12_makes_66 (by decide) ?_
        refine lv_iload_n hx hb dX12_makes_67 rfl (lv_at hl 2 rfl) ?_
        refine th_iast E hT_3 hS_3 h_4 rfl (by decide) (vp_in_iff.mpr ⟨by decide, by decide⟩) dX12_makes_68 (fun H_5 locs_5 hT_5 hU_5 hS_5 => ?_)
        have hU_5 : AU 20 H_3 H_5 (ρ a0 2) 1 (8) := hU_5
        have hL_5 : PL H_5 (ρ a0 2) := PL.put hL_3 hU_5 (by show (-2147483648 : Int) ≤ _; exact i_min _) (by show _ ≤ (2147483647 : Int); exact i_max _)
        refine lv_aload_n hx hb dX12_makes_69 rfl (lv_at hl 0 rfl) ?_
        refine gf_X12_16 E hT_5 hW ha0 dX12_makes_70 (fun h_6 => ?_)
        refine lv_iconst (v := 2) hx hb dX12_makes_73 (by decide) ?_
        refine lv_iload_n hx hb dX12_makes_74 rfl (lv_at hl 3 rfl) ?_
        refine th_iast E hT_5 hS_5 h_6 rfl (by decide) (vp_in_iff.mpr ⟨by decide, by decide⟩) dX12_makes_75 (fun H_7 locs_7 hT_7 hU_7 hS_7 => ?_)
        have hU_7 : AU 20 H_5 H_7 (ρ a0 2) 2 x2 := hU_7
        have hL_7 : PL H_7 (ρ a0 2) := PL.put hL_5 hU_7 (by show (-2147483648 : Int) ≤ _; exact i_min _) (by show _ ≤ (2147483647 : Int); exact i_max _)
        refine lv_iload_n hx hb dX12_makes_76 rfl (lv_at hl 2 rfl) ?_
        refine lv_iconst (v := 4) hx hb dX12_makes_77 (by decide) ?_
        refine lv_iand hx hb dX12_makes_78 ?_
        refine th_topi (y := 0) (by decide) ?_
        refine lv_if_le (tgt := 133) hx hb dX12_makes_79 (by decide) (fun c_8 => ?_) (fun c_8 => absurd (by decide) c_8)
        exact th_vret E hr hlk hs hT_7 hS_7 ⟨⟨(PW.q (hU_7.2 _ (th_ne (hW _ 12 0 ha0 (by decide) (by decide) (by decide)) (hW _ 12 2 ha0 (by decide) (by decide) (by decide)) (by decide))) (PW.q (hU_5.2 _ (th_ne (hW _ 12 0 ha0 (by decide) (by decide) (by decide)) (hW _ 12 2 ha0 (by decide) (by decide) (by decide)) (by decide))) (PW.q (hU_3.2 _ (th_ne (hW _ 12 0 ha0 (by decide) (by decide) (by decide)) (hW _ 12 2 ha0 (by decide) (by decide) (by decide)) (by decide))) hI_c3.1))), (QS.same (Eq.trans (ai_q (hU_7.2 _ (th_ne (hW _ 12 0 ha0 (by decide) (by decide) (by decide)) (hW _ 12 2 ha0 (by decide) (by decide) (by decide)) (by decide)))) (Eq.trans (ai_q (hU_5.2 _ (th_ne (hW _ 12 0 ha0 (by decide) (by decide) (by decide)) (hW _ 12 2 ha0 (by decide) (by decide) (by decide)) (by decide)))) (ai_q (hU_3.2 _ (th_ne (hW _ 12 0 ha0 (by decide) (by decide) (by decide)) (hW _ 12 2 ha0 (by decide) (by decide) (by decide)) (by decide)))))) (Eq.trans (ai_q (hU_7.2 _ (th_ne (hW _ 12 0 ha0 (by decide) (by decide) (by decide)) (hW _ 12 2 ha0 (by decide) (by decide) (by decide)) (by decide)))) (Eq.trans (ai_q (hU_5.2 _ (th_ne (hW _ 12 0 ha0 (by decide) (by decide) (by decide)) (hW _ 12 2 ha0 (by decide) (by decide) (by decide)) (by decide)))) (ai_q (hU_3.2 _ (th_ne (hW _ 12 0 ha0 (by decide) (by decide) (by decide)) (hW _ 12 2 ha0 (by decide) (by decide) (by decide)) (by decide)))))) hI_c3.2.1), (QS.same (Eq.trans (ai_q (hU_7.2 _ (th_ne (hW _ 12 0 ha0 (by decide) (by decide) (by decide)) (hW _ 12 2 ha0 (by decide) (by decide) (by decide)) (by decide)))) (Eq.trans (ai_q (hU_5.2 _ (th_ne (hW _ 12 0 ha0 (by decide) (by decide) (by decide)) (hW _ 12 2 ha0 (by decide) (by decide) (by decide)) (by decide)))) (ai_q (hU_3.2 _ (th_ne (hW _ 12 0 ha0 (by decide) (by decide) (by decide)) (hW _ 12 2 ha0 (by decide) (by decide) (by decide)) (by decide)))))) (Eq.trans (ai_q (hU_7.2 _ (th_ne (hW _ 12 0 ha0 (by decide) (by decide) (by decide)) (hW _ 12 2 ha0 (by decide) (by decide) (by decide)) (by decide)))) (Eq.trans (ai_q (hU_5.2 _ (th_ne (hW _ 12 0 ha0 (by decide) (by decide) (by decide)) (hW _ 12 2 ha0 (by decide) (by decide) (by decide)) (by decide)))) (ai_q (hU_3.2 _ (th_ne (hW _ 12 0 ha0 (by decide) (by decide) (by decide)) (hW _ 12 2 ha0 (by decide) (by decide) (by decide)) (by decide)))))) hI_c3.2.2.1), hL_7, (PL.q (hU_7.2 _ (Ne.symm n23)) (PL.q (hU_5.2 _ (Ne.symm n23)) (PL.q (hU_3.2 _ (Ne.symm n23)) hI_c3.2.2.2.2.1))), (IF.q (hU_7.2 _ (th_ne ha0 (hW _ 12 2 ha0 (by decide) (by decide) (by decide)) (by decide))) (IF.q (hU_5.2 _ (th_ne ha0 (hW _ 12 2 ha0 (by decide) (by decide) (by decide)) (by decide))) (IF.q (hU_3.2 _ (th_ne ha0 (hW _ 12 2 ha0 (by decide) (by decide) (by decide)) (by decide))) hI_c3.2.2.2.2.2)))⟩, (by rw [(Eq.trans (ai_q (hU_7.2 _ (th_ne (hW _ 12 0 ha0 (by decide) (by decide) (by decide)) (hW _ 12 2 ha0 (by decide) (by decide) (by decide)) (by decide)))) (Eq.trans (ai_q (hU_5.2 _ (th_ne (hW _ 12 0 ha0 (by decide) (by decide) (by decide)) (hW _ 12 2 ha0 (by decide) (by decide) (by decide)) (by decide)))) (ai_q (hU_3.2 _ (th_ne (hW _ 12 0 ha0 (by decide) (by decide) (by decide)) (hW _ 12 2 ha0 (by decide) (by decide) (by decide)) (by decide))))))]; omega)⟩ dX12_makes_133
      · have f_1 : y3_4.toInt < 20 := r_nle (by decide) rfl c_1
        refine lv_aload_n hx hb dX12_makes_10 rfl (lv_at hl 0 rfl) ?_
        refine gf_X12_16 E hT_c3 hW ha0 dX12_makes_11 (fun h_9 => ?_)
        refine lv_iload hx hb dX12_makes_14 (lv_at hl 4 rfl) ?_
        refine lv_iload hx hb dX12_makes_16 (lv_at hl 4 rfl) ?_
        refine lv_iconst (v := 3) hx hb dX12_makes_18 (by decide) ?_
        refine lv_icmp_lt (tgt := 42) hx hb dX12_makes_19 (by decide) (fun c_10 => ?_) (fun c_10 => ?_)
        · have f_10 : y3_4.toInt < 3 := r_lt rfl (by decide) c_10
          refine lv_iconst (v := 0) hx hb dX12_makes_42 (by decide) ?_
          refine lv_goto (tgt := 48) hx hb dX12_makes_43 (by decide) ?_
          refine th_iast E hT_c3 hS_c3 h_9 rfl (by decide) (vp_in_iff.mpr ⟨by omega, by omega⟩) dX12_makes_48 (fun H_11 locs_11 hT_11 hU_11 hS_11 => ?_)
          have hU_11 : AU 20 H_c3 H_11 (ρ a0 2) y3_4.toInt.toNat (0) := hU_11
          have hL_11 : PL H_11 (ρ a0 2) := PL.zero hI_c3.2.2.2.1 hU_11
          obtain ⟨x_12, ex_12⟩ : ∃ y : Int32, y3_4 + 1 = y := ⟨_, rfl⟩
          have q_x_12 : x_12.toInt = y3_4.toInt + 1 := i_add (k := 1) (by decide) ex_12 (by have := i_min y3_4; omega) (by have := i_max y3_4; omega)
          refine lv_iinc (v := x_12) (lv' := [(4, .int x_12), (0, .ref a0), (1, .int 1), (2, .int 8), (3, .int x2)]) hx hb dX12_makes_49 hl (k := 4) rfl (by rw [← ex_12]; rfl) (by decide) rfl (fun ls hl => ?_)
          refine lv_goto (tgt := 3) hx hb dX12_makes_52 (by decide) ?_
          exact ih_3 H_11 locs_11 _ x_12 hT_11 hS_11 (lv_sub hl [1, 2, 3, 4, 0] rfl) (by omega) ⟨(PW.q (hU_11.2 _ (th_ne (hW _ 12 0 ha0 (by decide) (by decide) (by decide)) (hW _ 12 2 ha0 (by decide) (by decide) (by decide)) (by decide))) hI_c3.1), (QS.same (ai_q (hU_11.2 _ (th_ne (hW _ 12 0 ha0 (by decide) (by decide) (by decide)) (hW _ 12 2 ha0 (by decide) (by decide) (by decide)) (by decide)))) (ai_q (hU_11.2 _ (th_ne (hW _ 12 0 ha0 (by decide) (by decide) (by decide)) (hW _ 12 2 ha0 (by decide) (by decide) (by decide)) (by decide)))) hI_c3.2.1), (QS.same (ai_q (hU_11.2 _ (th_ne (hW _ 12 0 ha0 (by decide) (by decide) (by decide)) (hW _ 12 2 ha0 (by decide) (by decide) (by decide)) (by decide)))) (ai_q (hU_11.2 _ (th_ne (hW _ 12 0 ha0 (by decide) (by decide) (by decide)) (hW _ 12 2 ha0 (by decide) (by decide) (by decide)) (by decide)))) hI_c3.2.2.1), hL_11, (PL.q (hU_11.2 _ (Ne.symm n23)) hI_c3.2.2.2.2.1), (IF.q (hU_11.2 _ (th_ne ha0 (hW _ 12 2 ha0 (by decide) (by decide) (by decide)) (by decide))) hI_c3.2.2.2.2.2)⟩ (by rw [(ai_q (hU_11.2 _ (th_ne (hW _ 12 0 ha0 (by decide) (by decide) (by decide)) (hW _ 12 2 ha0 (by decide) (by decide) (by decide)) (by decide))))]; omega) (by omega)
        · have f_10 : 3 ≤ y3_4.toInt := r_nlt rfl (by decide) c_10
          refine lv_iload hx hb dX12_makes_22 (lv_at hl 4 rfl) ?_
          refine lv_iconst (v := 5) hx hb dX12_makes_24 (by decide) ?_
          refine lv_icmp_eq (tgt := 42) hx hb dX12_makes_25 (by decide) (fun c_13 => ?_) (fun c_13 => ?_)
          · have f_13 : y3_4.toInt = 5 := r_eq rfl (by decide) c_13
            refine lv_iconst (v := 0) hx hb dX12_makes_42 (by decide) ?_
            refine lv_goto (tgt := 48) hx hb dX12_makes_43 (by decide) ?_
            refine th_iast E hT_c3 hS_c3 h_9 rfl (by decide) (vp_in_iff.mpr ⟨by omega, by omega⟩) dX12_makes_48 (fun H_14 locs_14 hT_14 hU_14 hS_14 => ?_)
            have hU_14 : AU 20 H_c3 H_14 (ρ a0 2) y3_4.toInt.toNat (0) := hU_14
            have hL_14 : PL H_14 (ρ a0 2) := PL.zero hI_c3.2.2.2.1 hU_14
            obtain ⟨x_15, ex_15⟩ : ∃ y : Int32, y3_4 + 1 = y := ⟨_, rfl⟩
            have q_x_15 : x_15.toInt = y3_4.toInt + 1 := i_add (k := 1) (by decide) ex_15 (by have := i_min y3_4; omega) (by have := i_max y3_4; omega)
            refine lv_iinc (v := x_15) (lv' := [(4, .int x_15), (0, .ref a0), (1, .int 1), (2, .int 8), (3, .int x2)]) hx hb dX12_makes_49 hl (k := 4) rfl (by rw [← ex_15]; rfl) (by decide) rfl (fun ls hl => ?_)
            refine lv_goto (tgt := 3) hx hb dX12_makes_52 (by decide) ?_
            exact ih_3 H_14 locs_14 _ x_15 hT_14 hS_14 (lv_sub hl [1, 2, 3, 4, 0] rfl) (by omega) ⟨(PW.q (hU_14.2 _ (th_ne (hW _ 12 0 ha0 (by decide) (by decide) (by decide)) (hW _ 12 2 ha0 (by decide) (by decide) (by decide)) (by decide))) hI_c3.1), (QS.same (ai_q (hU_14.2 _ (th_ne (hW _ 12 0 ha0 (by decide) (by decide) (by decide)) (hW _ 12 2 ha0 (by decide) (by decide) (by decide)) (by decide)))) (ai_q (hU_14.2 _ (th_ne (hW _ 12 0 ha0 (by decide) (by decide) (by decide)) (hW _ 12 2 ha0 (by decide) (by decide) (by decide)) (by decide)))) hI_c3.2.1), (QS.same (ai_q (hU_14.2 _ (th_ne (hW _ 12 0 ha0 (by decide) (by decide) (by decide)) (hW _ 12 2 ha0 (by decide) (by decide) (by decide)) (by decide)))) (ai_q (hU_14.2 _ (th_ne (hW _ 12 0 ha0 (by decide) (by decide) (by decide)) (hW _ 12 2 ha0 (by decide) (by decide) (by decide)) (by decide)))) hI_c3.2.2.1), hL_14, (PL.q (hU_14.2 _ (Ne.symm n23)) hI_c3.2.2.2.2.1), (IF.q (hU_14.2 _ (th_ne ha0 (hW _ 12 2 ha0 (by decide) (by decide) (by decide)) (by decide))) hI_c3.2.2.2.2.2)⟩ (by rw [(ai_q (hU_14.2 _ (th_ne (hW _ 12 0 ha0 (by decide) (by decide) (by decide)) (hW _ 12 2 ha0 (by decide) (by decide) (by decide)) (by decide))))]; omega) (by omega)
          · have f_13 : ¬ y3_4.toInt = 5 := r_ne rfl (by decide) c_13
            refine lv_iload hx hb dX12_makes_28 (lv_at hl 4 rfl) ?_
            refine lv_bipush (v := 6) hx hb dX12_makes_30 (by decide) ?_
            refine lv_icmp_eq (tgt := 42) hx hb dX12_makes_32 (by decide) (fun c_16 => ?_) (fun c_16 => ?_)
            · have f_16 : y3_4.toInt = 6 := r_eq rfl (by decide) c_16
              refine lv_iconst (v := 0) hx hb dX12_makes_42 (by decide) ?_
              refine lv_goto (tgt := 48) hx hb dX12_makes_43 (by decide) ?_
              refine th_iast E hT_c3 hS_c3 h_9 rfl (by decide) (vp_in_iff.mpr ⟨by omega, by omega⟩) dX12_makes_48 (fun H_17 locs_17 hT_17 hU_17 hS_17 => ?_)
              have hU_17 : AU 20 H_c3 H_17 (ρ a0 2) y3_4.toInt.toNat (0) := hU_17
              have hL_17 : PL H_17 (ρ a0 2) := PL.zero hI_c3.2.2.2.1 hU_17
              obtain ⟨x_18, ex_18⟩ : ∃ y : Int32, y3_4 + 1 = y := ⟨_, rfl⟩
              have q_x_18 : x_18.toInt = y3_4.toInt + 1 := i_add (k := 1) (by decide) ex_18 (by have := i_min y3_4; omega) (by have := i_max y3_4; omega)
              refine lv_iinc (v := x_18) (lv' := [(4, .int x_18), (0, .ref a0), (1, .int 1), (2, .int 8), (3, .int x2)]) hx hb dX12_makes_49 hl (k := 4) rfl (by rw [← ex_18]; rfl) (by decide) rfl (fun ls hl => ?_)
              refine lv_goto (tgt := 3) hx hb dX12_makes_52 (by decide) ?_
              exact ih_3 H_17 locs_17 _ x_18 hT_17 hS_17 (lv_sub hl [1, 2, 3, 4, 0] rfl) (by omega) ⟨(PW.q (hU_17.2 _ (th_ne (hW _ 12 0 ha0 (by decide) (by decide) (by decide)) (hW _ 12 2 ha0 (by decide) (by decide) (by decide)) (by decide))) hI_c3.1), (QS.same (ai_q (hU_17.2 _ (th_ne (hW _ 12 0 ha0 (by decide) (by decide) (by decide)) (hW _ 12 2 ha0 (by decide) (by decide) (by decide)) (by decide)))) (ai_q (hU_17.2 _ (th_ne (hW _ 12 0 ha0 (by decide) (by decide) (by decide)) (hW _ 12 2 ha0 (by decide) (by decide) (by decide)) (by decide)))) hI_c3.2.1), (QS.same (ai_q (hU_17.2 _ (th_ne (hW _ 12 0 ha0 (by decide) (by decide) (by decide)) (hW _ 12 2 ha0 (by decide) (by decide) (by decide)) (by decide)))) (ai_q (hU_17.2 _ (th_ne (hW _ 12 0 ha0 (by decide) (by decide) (by decide)) (hW _ 12 2 ha0 (by decide) (by decide) (by decide)) (by decide)))) hI_c3.2.2.1), hL_17, (PL.q (hU_17.2 _ (Ne.symm n23)) hI_c3.2.2.2.2.1), (IF.q (hU_17.2 _ (th_ne ha0 (hW _ 12 2 ha0 (by decide) (by decide) (by decide)) (by decide))) hI_c3.2.2.2.2.2)⟩ (by rw [(ai_q (hU_17.2 _ (th_ne (hW _ 12 0 ha0 (by decide) (by decide) (by decide)) (hW _ 12 2 ha0 (by decide) (by decide) (by decide)) (by decide))))]; omega) (by omega)
            · have f_16 : ¬ y3_4.toInt = 6 := r_ne rfl (by decide) c_16
              refine lv_iload hx hb dX12_makes_35 (lv_at hl 4 rfl) ?_
              refine lv_bipush (v := 12) hx hb dX12_makes_37 (by decide) ?_
              refine lv_icmp_lt (tgt := 46) hx hb dX12_makes_39 (by decide) (fun c_19 => ?_) (fun c_19 => ?_)
              · have f_19 : y3_4.toInt < 12 := r_lt rfl (by decide) c_19
                refine lv_bipush (v := (-4)) hx hb dX12_makes_46 (by decide) ?_
                refine th_iast E hT_c3 hS_c3 h_9 rfl (by decide) (vp_in_iff.mpr ⟨by omega, by omega⟩) dX12_makes_48 (fun H_20 locs_20 hT_20 hU_20 hS_20 => ?_)
                have hU_20 : AU 20 H_c3 H_20 (ρ a0 2) y3_4.toInt.toNat ((-4)) := hU_20
                have hL_20 : PL H_20 (ρ a0 2) := PL.free hI_c3.2.2.2.1 hU_20 (by omega)
                obtain ⟨x_21, ex_21⟩ : ∃ y : Int32, y3_4 + 1 = y := ⟨_, rfl⟩
                have q_x_21 : x_21.toInt = y3_4.toInt + 1 := i_add (k := 1) (by decide) ex_21 (by have := i_min y3_4; omega) (by have := i_max y3_4; omega)
                refine lv_iinc (v := x_21) (lv' := [(4, .int x_21), (0, .ref a0), (1, .int 1), (2, .int 8), (3, .int x2)]) hx hb dX12_makes_49 hl (k := 4) rfl (by rw [← ex_21]; rfl) (by decide) rfl (fun ls hl => ?_)
                refine lv_goto (tgt := 3) hx hb dX12_makes_52 (by decide) ?_
                exact ih_3 H_20 locs_20 _ x_21 hT_20 hS_20 (lv_sub hl [1, 2, 3, 4, 0] rfl) (by omega) ⟨(PW.q (hU_20.2 _ (th_ne (hW _ 12 0 ha0 (by decide) (by decide) (by decide)) (hW _ 12 2 ha0 (by decide) (by decide) (by decide)) (by decide))) hI_c3.1), (QS.same (ai_q (hU_20.2 _ (th_ne (hW _ 12 0 ha0 (by decide) (by decide) (by decide)) (hW _ 12 2 ha0 (by decide) (by decide) (by decide)) (by decide)))) (ai_q (hU_20.2 _ (th_ne (hW _ 12 0 ha0 (by decide) (by decide) (by decide)) (hW _ 12 2 ha0 (by decide) (by decide) (by decide)) (by decide)))) hI_c3.2.1), (QS.same (ai_q (hU_20.2 _ (th_ne (hW _ 12 0 ha0 (by decide) (by decide) (by decide)) (hW _ 12 2 ha0 (by decide) (by decide) (by decide)) (by decide)))) (ai_q (hU_20.2 _ (th_ne (hW _ 12 0 ha0 (by decide) (by decide) (by decide)) (hW _ 12 2 ha0 (by decide) (by decide) (by decide)) (by decide)))) hI_c3.2.2.1), hL_20, (PL.q (hU_20.2 _ (Ne.symm n23)) hI_c3.2.2.2.2.1), (IF.q (hU_20.2 _ (th_ne ha0 (hW _ 12 2 ha0 (by decide) (by decide) (by decide)) (by decide))) hI_c3.2.2.2.2.2)⟩ (by rw [(ai_q (hU_20.2 _ (th_ne (hW _ 12 0 ha0 (by decide) (by decide) (by decide)) (hW _ 12 2 ha0 (by decide) (by decide) (by decide)) (by decide))))]; omega) (by omega)
              · have f_19 : 12 ≤ y3_4.toInt := r_nlt rfl (by decide) c_19
                refine lv_iconst (v := 0) hx hb dX12_makes_42 (by decide) ?_
                refine lv_goto (tgt := 48) hx hb dX12_makes_43 (by decide) ?_
                refine th_iast E hT_c3 hS_c3 h_9 rfl (by decide) (vp_in_iff.mpr ⟨by omega, by omega⟩) dX12_makes_48 (fun H_22 locs_22 hT_22 hU_22 hS_22 => ?_)
                have hU_22 : AU 20 H_c3 H_22 (ρ a0 2) y3_4.toInt.toNat (0) := hU_22
                have hL_22 : PL H_22 (ρ a0 2) := PL.zero hI_c3.2.2.2.1 hU_22
                obtain ⟨x_23, ex_23⟩ : ∃ y : Int32, y3_4 + 1 = y := ⟨_, rfl⟩
                have q_x_23 : x_23.toInt = y3_4.toInt + 1 := i_add (k := 1) (by decide) ex_23 (by have := i_min y3_4; omega) (by have := i_max y3_4; omega)
                refine lv_iinc (v := x_23) (lv' := [(4, .int x_23), (0, .ref a0), (1, .int 1), (2, .int 8), (3, .int x2)]) hx hb dX12_makes_49 hl (k := 4) rfl (by rw [← ex_23]; rfl) (by decide) rfl (fun ls hl => ?_)
                refine lv_goto (tgt := 3) hx hb dX12_makes_52 (by decide) ?_
                exact ih_3 H_22 locs_22 _ x_23 hT_22 hS_22 (lv_sub hl [1, 2, 3, 4, 0] rfl) (by omega) ⟨(PW.q (hU_22.2 _ (th_ne (hW _ 12 0 ha0 (by decide) (by decide) (by decide)) (hW _ 12 2 ha0 (by decide) (by decide) (by decide)) (by decide))) hI_c3.1), (QS.same (ai_q (hU_22.2 _ (th_ne (hW _ 12 0 ha0 (by decide) (by decide) (by decide)) (hW _ 12 2 ha0 (by decide) (by decide) (by decide)) (by decide)))) (ai_q (hU_22.2 _ (th_ne (hW _ 12 0 ha0 (by decide) (by decide) (by decide)) (hW _ 12 2 ha0 (by decide) (by decide) (by decide)) (by decide)))) hI_c3.2.1), (QS.same (ai_q (hU_22.2 _ (th_ne (hW _ 12 0 ha0 (by decide) (by decide) (by decide)) (hW _ 12 2 ha0 (by decide) (by decide) (by decide)) (by decide)))) (ai_q (hU_22.2 _ (th_ne (hW _ 12 0 ha0 (by decide) (by decide) (by decide)) (hW _ 12 2 ha0 (by decide) (by decide) (by decide)) (by decide)))) hI_c3.2.2.1), hL_22, (PL.q (hU_22.2 _ (Ne.symm n23)) hI_c3.2.2.2.2.1), (IF.q (hU_22.2 _ (th_ne ha0 (hW _ 12 2 ha0 (by decide) (by decide) (by decide)) (by decide))) hI_c3.2.2.2.2.2)⟩ (by rw [(ai_q (hU_22.2 _ (th_ne (hW _ 12 0 ha0 (by decide) (by decide) (by decide)) (hW _ 12 2 ha0 (by decide) (by decide) (by decide)) (by decide))))]; omega) (by omega)
  refine lv_iconst (v := 0) hx hb dX12_makes_0 (by decide) ?_
  refine lv_istore (lv' := [(4, .int 0), (0, .ref a0), (1, .int 1), (2, .int 8), (3, .int x2)]) hx hb dX12_makes_1 hl (by decide) rfl (fun ls hl => ?_)
  exact L_3 _ H [] _ 0 hT hS (lv_sub hl [1, 2, 3, 4, 0] rfl) (by decide) ⟨hI.1, hI.2.1, hI.2.2.1, hI.2.2.2.1, hI.2.2.2.2.1, hI.2.2.2.2.2⟩ (by omega) (Nat.lt_succ_self _)
set_option maxHeartbeats 4000000 in
set_option maxRecDepth 100000 in
/-- the reference: breaks -/
theorem y_breaks (l : Launch) (D : va_G) (cI cS : ClassId) (τ : Nat → Option Nat) (ρ : Nat → Nat → Nat) (hW : WF τ ρ) (H : Heap) (hT : TH D cI cS τ ρ H) (a0 : Nat) (x1 : Int32) (ha0 : τ a0 = some 12) (N : Int) (hN0 : 0 ≤ N) (hN1 : N ≤ 600) (hI : IM D ρ N H a0) : MV l D cI cS τ ρ yX12_breaks cX12_breaks 3 none 1 24 H [.ref a0, .int 1, .int x1] (fun (u : Heap) => (IM D ρ N u a0) ∧ ((ai H (ρ a0 0) 976).toInt ≤ (ai u (ρ a0 0) 976).toInt)) (fun q => q = ρ a0 2 ∨ q = ρ a0 0) := by
  refine MV.of (by decide) (Nat.le_of_ble_eq_true rfl) ?_
  intro p e s m args below meth c E hml hr hlk hs ls hl
  have hx := E.1
  have hb := E.2.1
  have hown := E.2.2.1
  have hts := E.2.2.2.1
  have hS : SS (fun q => q = ρ a0 2 ∨ q = ρ a0 0) H H [] := SS.rf
  have hl : lv_has ls 3 [(0, .ref a0), (1, .int 1), (2, .int x1)] := hl
  have n01 := hI.2.2.2.2.2.1
  have n23 := hI.2.2.2.2.2.2.1
  refine lv_aload_n hx hb dX12_breaks_0 rfl (lv_at hl 0 rfl) ?_
  refine lv_iload_n hx hb dX12_breaks_1 rfl (lv_at hl 1 rfl) ?_
  refine lv_bipush (v := 8) hx hb dX12_breaks_2 (by decide) ?_
  refine lv_iload_n hx hb dX12_breaks_4 rfl (lv_at hl 2 rfl) ?_
  refine th_Vv (As := [.int 1, .int 8, .int x1]) (rest := []) E hml hl.1 (y_makes_v8 l D cI cS τ ρ hW H hT a0 x1 ha0 N hN0 hN1 ⟨hI.1, hI.2.1, hI.2.2.1, hI.2.2.2.1, hI.2.2.2.2.1, hI.2.2.2.2.2⟩) lk_X12_126 yd_X12_makes hT ha0 rfl (by decide) hS (fun q h => (Or.inl h)) ⟨by decide, by decide⟩ (Nat.le_of_ble_eq_true rfl) ⟨by decide, by decide⟩ rfl dX12_breaks_5 (fun H_1 locs_1 p_1 hT_1 hk_1 hS_1 => ?_)
  have p_1 : (IM D ρ N H_1 a0) ∧ ((ai H (ρ a0 0) 976).toInt ≤ (ai H_1 (ρ a0 0) 976).toInt) := p_1
  obtain ⟨p_1_0, p_1_1⟩ := p_1
  have mn_1 : (ai H (ρ a0 0) 976).toInt ≤ (ai H_1 (ρ a0 0) 976).toInt := by exact p_1_1
  refine lv_aload_n hx hb dX12_breaks_8 rfl (lv_at hl 0 rfl) ?_
  refine th_Vv (As := []) (rest := []) E hml hl.1 (y_posts l D cI cS τ ρ hW H_1 hT_1 a0 ha0 N hN0 hN1 ⟨p_1_0.1, p_1_0.2.1, p_1_0.2.2.1, p_1_0.2.2.2.1, p_1_0.2.2.2.2.1, p_1_0.2.2.2.2.2⟩) lk_X12_129 yd_X12_posts hT_1 ha0 rfl (by decide) hS_1 (fun q h => (Or.inr h)) ⟨by decide, by decide⟩ (Nat.le_of_ble_eq_true rfl) ⟨by decide, by decide⟩ rfl dX12_breaks_9 (fun H_2 locs_2 p_2 hT_2 hk_2 hS_2 => ?_)
  have p_2 : (IM D ρ N H_2 a0) ∧ ((ai H_1 (ρ a0 0) 976).toInt ≤ (ai H_2 (ρ a0 0) 976).toInt) := p_2
  obtain ⟨p_2_0, p_2_1⟩ := p_2
  have mn_2 : (ai H (ρ a0 0) 976).toInt ≤ (ai H_2 (ρ a0 0) 976).toInt := by have h := p_2_1; rw [(ai_q (hk_1 _ (th_ne (hW _ 12 0 ha0 (by decide) (by decide) (by decide)) (hW _ 12 2 ha0 (by decide) (by decide) (by decide)) (by decide))))] at h; exact h
  exact th_vret E hr hlk hs hT_2 hS_2 ⟨⟨p_2_0.1, p_2_0.2.1, p_2_0.2.2.1, p_2_0.2.2.2.1, p_2_0.2.2.2.2.1, p_2_0.2.2.2.2.2⟩, (by omega)⟩ dX12_breaks_12
set_option maxHeartbeats 4000000 in
set_option maxRecDepth 100000 in
/-- the reference: breaksIt -/
theorem y_breaksIt (l : Launch) (D : va_G) (cI cS : ClassId) (τ : Nat → Option Nat) (ρ : Nat → Nat → Nat) (hW : WF τ ρ) (H : Heap) (hT : TH D cI cS τ ρ H) (a0 : Nat) (ha0 : τ a0 = some 12) (N : Int) (hN0 : 0 ≤ N) (hN1 : N ≤ 600) (hI : IM D ρ N H a0) : MV l D cI cS τ ρ yX12_breaksIt cX12_breaksIt 2 none 2 46 H [.ref a0, .int 1] (fun (u : Heap) => (IM D ρ N u a0) ∧ ((ai H (ρ a0 0) 976).toInt ≤ (ai u (ρ a0 0) 976).toInt)) (fun q => q = ρ a0 2 ∨ q = ρ a0 0) := by
  refine MV.of (by decide) (Nat.le_of_ble_eq_true rfl) ?_
  intro p e s m args below meth c E hml hr hlk hs ls hl
  have hx := E.1
  have hb := E.2.1
  have hown := E.2.2.1
  have hts := E.2.2.2.1
  have hS : SS (fun q => q = ρ a0 2 ∨ q = ρ a0 0) H H [] := SS.rf
  have hl : lv_has ls 2 [(0, .ref a0), (1, .int 1)] := hl
  have n01 := hI.2.2.2.2.2.1
  have n23 := hI.2.2.2.2.2.2.1
  refine lv_aload_n hx hb dX12_breaksIt_0 rfl (lv_at hl 0 rfl) ?_
  refine gf_X12_19 E hT hW ha0 dX12_breaksIt_1 (fun h_1 => ?_)
  refine lv_iconst (v := 1) hx hb dX12_breaksIt_4 (by decide) ?_
  refine th_iald E hT h_1 (by decide) (vp_in_iff.mpr ⟨by decide, by decide⟩) dX12_breaksIt_5 ?_
  refine th_topi (y := ai H (ρ a0 3) 1) rfl ?_
  refine lv_topi (fun x_2 ex_2 => ?_)
  have c_x_2 := congrArg Int32.toInt ex_2.symm
  refine lv_iconst (v := 4) hx hb dX12_breaksIt_6 (by decide) ?_
  refine lv_iand hx hb dX12_breaksIt_7 ?_
  refine lv_topi (fun x_3 ex_3 => ?_)
  have q_3 := i_msk (k := 4) (x := x_2) (by decide) (by decide) ex_3
  refine lv_if_le (tgt := 23) hx hb dX12_breaksIt_8 (by decide) (fun c_4 => ?_) (fun c_4 => ?_)
  · have f_4 : x_3.toInt ≤ 0 := r_le rfl (by decide) c_4
    refine lv_aload_n hx hb dX12_breaksIt_23 rfl (lv_at hl 0 rfl) ?_
    refine lv_iload_n hx hb dX12_breaksIt_24 rfl (lv_at hl 1 rfl) ?_
    refine lv_bipush (v := 12) hx hb dX12_breaksIt_25 (by decide) ?_
    refine lv_iconst (v := 0) hx hb dX12_breaksIt_27 (by decide) ?_
    refine th_Vv (As := [.int 1, .int 12, .int 0]) (rest := []) E hml hl.1 (y_makes_v7 l D cI cS τ ρ hW H hT a0 ha0 N hN0 hN1 ⟨hI.1, hI.2.1, hI.2.2.1, hI.2.2.2.1, hI.2.2.2.2.1, hI.2.2.2.2.2⟩) lk_X12_126 yd_X12_makes hT ha0 rfl (by decide) hS (fun q h => (Or.inl h)) ⟨by decide, by decide⟩ (Nat.le_of_ble_eq_true rfl) ⟨by decide, by decide⟩ rfl dX12_breaksIt_28 (fun H_5 locs_5 p_5 hT_5 hk_5 hS_5 => ?_)
    have p_5 : (IM D ρ N H_5 a0) ∧ ((ai H (ρ a0 0) 976).toInt ≤ (ai H_5 (ρ a0 0) 976).toInt) := p_5
    obtain ⟨p_5_0, p_5_1⟩ := p_5
    have mn_5 : (ai H (ρ a0 0) 976).toInt ≤ (ai H_5 (ρ a0 0) 976).toInt := by exact p_5_1
    refine lv_aload_n hx hb dX12_breaksIt_31 rfl (lv_at hl 0 rfl) ?_
    refine gf_X12_16 E hT_5 hW ha0 dX12_breaksIt_32 (fun h_6 => ?_)
    refine lv_iconst (v := 3) hx hb dX12_breaksIt_35 (by decide) ?_
    refine lv_aload_n hx hb dX12_breaksIt_36 rfl (lv_at hl 0 rfl) ?_
    refine gf_X12_19 E hT_5 hW ha0 dX12_breaksIt_37 (fun h_7 => ?_)
    refine lv_iconst (v := 2) hx hb dX12_breaksIt_40 (by decide) ?_
    refine th_iald E hT_5 h_7 (by decide) (vp_in_iff.mpr ⟨by decide, by decide⟩) dX12_breaksIt_41 ?_
    refine th_topi (y := ai H_5 (ρ a0 3) 2) rfl ?_
    refine th_topi (y := ai H (ρ a0 3) 2) (ai_q (hk_5 _ (Ne.symm n23))) ?_
    refine lv_topi (fun x_8 ex_8 => ?_)
    have c_x_8 := congrArg Int32.toInt ex_8.symm
    refine lv_aload_n hx hb dX12_breaksIt_42 rfl (lv_at hl 0 rfl) ?_
    refine th_Vi (As := []) (rest := [.int x_8, .int 3, .ref (ρ a0 2)]) E hml hl.1 (y_lengthOfIt l D cI cS τ ρ hW H_5 hT_5 a0 ha0) lk_X12_136 yd_X12_lengthOfIt hT_5 ha0 rfl (by decide) hS_5 (fun _ h => h.elim) ⟨by decide, by decide⟩ (Nat.le_of_ble_eq_true rfl) ⟨by decide, by decide⟩ rfl dX12_breaksIt_43 (fun r_9 H_9 locs_9 p_9 hT_9 hk_9 hS_9 => ?_)
    have p_9 : H_5 = H_9 := p_9
    obtain rfl := p_9
    refine lv_iadd hx hb dX12_breaksIt_46 ?_
    refine lv_topi (fun x_10 ex_10 => ?_)
    refine lv_sipush (v := 256) hx hb dX12_breaksIt_47 (by decide) ?_
    refine lv_irem hx hb dX12_breaksIt_50 (by decide) ?_
    refine lv_topi (fun x_11 ex_11 => ?_)
    have q_11 := i_rem (k := 256) (x := x_10) (by decide) (by decide) ex_11
    refine th_iast E hT_9 hS_9 h_6 (Or.inl rfl) (by decide) (vp_in_iff.mpr ⟨by decide, by decide⟩) dX12_breaksIt_51 (fun H_12 locs_12 hT_12 hU_12 hS_12 => ?_)
    have hU_12 : AU 20 H_5 H_12 (ρ a0 2) 3 x_11 := hU_12
    have hL_12 : PL H_12 (ρ a0 2) := PL.put p_5_0.2.2.2.1 hU_12 (by show (-2147483648 : Int) ≤ _; exact i_min _) (by show _ ≤ (2147483647 : Int); exact i_max _)
    refine lv_aload_n hx hb dX12_breaksIt_52 rfl (lv_at hl 0 rfl) ?_
    refine gf_X12_16 E hT_12 hW ha0 dX12_breaksIt_53 (fun h_13 => ?_)
    refine lv_iconst (v := 4) hx hb dX12_breaksIt_56 (by decide) ?_
    refine lv_iconst (v := 0) hx hb dX12_breaksIt_57 (by decide) ?_
    refine th_iast E hT_12 hS_12 h_13 (Or.inl rfl) (by decide) (vp_in_iff.mpr ⟨by decide, by decide⟩) dX12_breaksIt_58 (fun H_14 locs_14 hT_14 hU_14 hS_14 => ?_)
    have hU_14 : AU 20 H_12 H_14 (ρ a0 2) 4 (0) := hU_14
    have hL_14 : PL H_14 (ρ a0 2) := PL.put hL_12 hU_14 (by show (-2147483648 : Int) ≤ _; exact i_min _) (by show _ ≤ (2147483647 : Int); exact i_max _)
    refine lv_aload_n hx hb dX12_breaksIt_59 rfl (lv_at hl 0 rfl) ?_
    refine th_Vv (As := []) (rest := []) E hml hl.1 (y_posts l D cI cS τ ρ hW H_14 hT_14 a0 ha0 N hN0 hN1 ⟨(PW.q (hU_14.2 _ (th_ne (hW _ 12 0 ha0 (by decide) (by decide) (by decide)) (hW _ 12 2 ha0 (by decide) (by decide) (by decide)) (by decide))) (PW.q (hU_12.2 _ (th_ne (hW _ 12 0 ha0 (by decide) (by decide) (by decide)) (hW _ 12 2 ha0 (by decide) (by decide) (by decide)) (by decide))) p_5_0.1)), (QS.same ((Eq.trans (ai_q (hU_14.2 _ (th_ne (hW _ 12 0 ha0 (by decide) (by decide) (by decide)) (hW _ 12 2 ha0 (by decide) (by decide) (by decide)) (by decide)))) (Eq.trans (ai_q (hU_12.2 _ (th_ne (hW _ 12 0 ha0 (by decide) (by decide) (by decide)) (hW _ 12 2 ha0 (by decide) (by decide) (by decide)) (by decide)))) (ai_q (hk_5 _ (th_ne (hW _ 12 0 ha0 (by decide) (by decide) (by decide)) (hW _ 12 2 ha0 (by decide) (by decide) (by decide)) (by decide)))))).trans (ai_q (hk_5 _ (th_ne (hW _ 12 0 ha0 (by decide) (by decide) (by decide)) (hW _ 12 2 ha0 (by decide) (by decide) (by decide)) (by decide)))).symm) ((Eq.trans (ai_q (hU_14.2 _ (th_ne (hW _ 12 0 ha0 (by decide) (by decide) (by decide)) (hW _ 12 2 ha0 (by decide) (by decide) (by decide)) (by decide)))) (Eq.trans (ai_q (hU_12.2 _ (th_ne (hW _ 12 0 ha0 (by decide) (by decide) (by decide)) (hW _ 12 2 ha0 (by decide) (by decide) (by decide)) (by decide)))) (ai_q (hk_5 _ (th_ne (hW _ 12 0 ha0 (by decide) (by decide) (by decide)) (hW _ 12 2 ha0 (by decide) (by decide) (by decide)) (by decide)))))).trans (ai_q (hk_5 _ (th_ne (hW _ 12 0 ha0 (by decide) (by decide) (by decide)) (hW _ 12 2 ha0 (by decide) (by decide) (by decide)) (by decide)))).symm) p_5_0.2.1), (QS.same ((Eq.trans (ai_q (hU_14.2 _ (th_ne (hW _ 12 0 ha0 (by decide) (by decide) (by decide)) (hW _ 12 2 ha0 (by decide) (by decide) (by decide)) (by decide)))) (Eq.trans (ai_q (hU_12.2 _ (th_ne (hW _ 12 0 ha0 (by decide) (by decide) (by decide)) (hW _ 12 2 ha0 (by decide) (by decide) (by decide)) (by decide)))) (ai_q (hk_5 _ (th_ne (hW _ 12 0 ha0 (by decide) (by decide) (by decide)) (hW _ 12 2 ha0 (by decide) (by decide) (by decide)) (by decide)))))).trans (ai_q (hk_5 _ (th_ne (hW _ 12 0 ha0 (by decide) (by decide) (by decide)) (hW _ 12 2 ha0 (by decide) (by decide) (by decide)) (by decide)))).symm) ((Eq.trans (ai_q (hU_14.2 _ (th_ne (hW _ 12 0 ha0 (by decide) (by decide) (by decide)) (hW _ 12 2 ha0 (by decide) (by decide) (by decide)) (by decide)))) (Eq.trans (ai_q (hU_12.2 _ (th_ne (hW _ 12 0 ha0 (by decide) (by decide) (by decide)) (hW _ 12 2 ha0 (by decide) (by decide) (by decide)) (by decide)))) (ai_q (hk_5 _ (th_ne (hW _ 12 0 ha0 (by decide) (by decide) (by decide)) (hW _ 12 2 ha0 (by decide) (by decide) (by decide)) (by decide)))))).trans (ai_q (hk_5 _ (th_ne (hW _ 12 0 ha0 (by decide) (by decide) (by decide)) (hW _ 12 2 ha0 (by decide) (by decide) (by decide)) (by decide)))).symm) p_5_0.2.2.1), hL_14, (PL.q (hU_14.2 _ (Ne.symm n23)) (PL.q (hU_12.2 _ (Ne.symm n23)) p_5_0.2.2.2.2.1)), (IF.q (hU_14.2 _ (th_ne ha0 (hW _ 12 2 ha0 (by decide) (by decide) (by decide)) (by decide))) (IF.q (hU_12.2 _ (th_ne ha0 (hW _ 12 2 ha0 (by decide) (by decide) (by decide)) (by decide))) p_5_0.2.2.2.2.2))⟩) lk_X12_129 yd_X12_posts hT_14 ha0 rfl (by decide) hS_14 (fun q h => (Or.inr h)) ⟨by decide, by decide⟩ (Nat.le_of_ble_eq_true rfl) ⟨by decide, by decide⟩ rfl dX12_breaksIt_60 (fun H_15 locs_15 p_15 hT_15 hk_15 hS_15 => ?_)
    have p_15 : (IM D ρ N H_15 a0) ∧ ((ai H_14 (ρ a0 0) 976).toInt ≤ (ai H_15 (ρ a0 0) 976).toInt) := p_15
    obtain ⟨p_15_0, p_15_1⟩ := p_15
    have mn_15 : (ai H (ρ a0 0) 976).toInt ≤ (ai H_15 (ρ a0 0) 976).toInt := by have h := p_15_1; rw [(Eq.trans (ai_q (hU_14.2 _ (th_ne (hW _ 12 0 ha0 (by decide) (by decide) (by decide)) (hW _ 12 2 ha0 (by decide) (by decide) (by decide)) (by decide)))) (Eq.trans (ai_q (hU_12.2 _ (th_ne (hW _ 12 0 ha0 (by decide) (by decide) (by decide)) (hW _ 12 2 ha0 (by decide) (by decide) (by decide)) (by decide)))) (ai_q (hk_5 _ (th_ne (hW _ 12 0 ha0 (by decide) (by decide) (by decide)) (hW _ 12 2 ha0 (by decide) (by decide) (by decide)) (by decide))))))] at h; exact h
    exact th_vret E hr hlk hs hT_15 hS_15 ⟨⟨p_15_0.1, p_15_0.2.1, p_15_0.2.2.1, p_15_0.2.2.2.1, p_15_0.2.2.2.2.1, p_15_0.2.2.2.2.2⟩, (by omega)⟩ dX12_breaksIt_63
  · have f_4 : 0 < x_3.toInt := r_nle rfl (by decide) c_4
    refine lv_aload_n hx hb dX12_breaksIt_11 rfl (lv_at hl 0 rfl) ?_
    refine lv_iload_n hx hb dX12_breaksIt_12 rfl (lv_at hl 1 rfl) ?_
    refine lv_aload_n hx hb dX12_breaksIt_13 rfl (lv_at hl 0 rfl) ?_
    refine gf_X12_19 E hT hW ha0 dX12_breaksIt_14 (fun h_16 => ?_)
    refine lv_iconst (v := 3) hx hb dX12_breaksIt_17 (by decide) ?_
    refine th_iald E hT h_16 (by decide) (vp_in_iff.mpr ⟨by decide, by decide⟩) dX12_breaksIt_18 ?_
    refine th_topi (y := ai H (ρ a0 3) 3) rfl ?_
    refine lv_topi (fun x_17 ex_17 => ?_)
    have c_x_17 := congrArg Int32.toInt ex_17.symm
    refine th_Vv (As := [.int 1, .int x_17]) (rest := []) E hml hl.1 (y_breaks l D cI cS τ ρ hW H hT a0 x_17 ha0 N hN0 hN1 ⟨hI.1, hI.2.1, hI.2.2.1, hI.2.2.2.1, hI.2.2.2.2.1, hI.2.2.2.2.2⟩) lk_X12_132 yd_X12_breaks hT ha0 rfl (by decide) hS (fun q => (fun h => h.elim (fun h => (Or.inl h)) (fun h => (Or.inr h)))) ⟨by decide, by decide⟩ (Nat.le_of_ble_eq_true rfl) ⟨by decide, by decide⟩ rfl dX12_breaksIt_19 (fun H_18 locs_18 p_18 hT_18 hk_18 hS_18 => ?_)
    have p_18 : (IM D ρ N H_18 a0) ∧ ((ai H (ρ a0 0) 976).toInt ≤ (ai H_18 (ρ a0 0) 976).toInt) := p_18
    obtain ⟨p_18_0, p_18_1⟩ := p_18
    have mn_18 : (ai H (ρ a0 0) 976).toInt ≤ (ai H_18 (ρ a0 0) 976).toInt := by exact p_18_1
    exact th_vret E hr hlk hs hT_18 hS_18 ⟨⟨p_18_0.1, p_18_0.2.1, p_18_0.2.2.1, p_18_0.2.2.2.1, p_18_0.2.2.2.2.1, p_18_0.2.2.2.2.2⟩, (by omega)⟩ dX12_breaksIt_22
set_option maxHeartbeats 4000000 in
set_option maxRecDepth 100000 in
/-- the reference: drops -/
theorem y_drops_v3 (l : Launch) (D : va_G) (cI cS : ClassId) (τ : Nat → Option Nat) (ρ : Nat → Nat → Nat) (hW : WF τ ρ) (H : Heap) (hT : TH D cI cS τ ρ H) (a0 : Nat) (ha0 : τ a0 = some 12) (N : Int) (hN0 : 0 ≤ N) (hN1 : N ≤ 600) (hI : IM D ρ N H a0) : MI l D cI cS τ ρ yX12_drops cX12_drops 3 (some .int) 0 0 H [.ref a0, .int 5, .int 0] (fun (r : Int32) (u : Heap) => (IM D ρ N u a0) ∧ ((ai H (ρ a0 0) 976).toInt ≤ (ai u (ρ a0 0) 976).toInt)) (fun q => q = ρ a0 0) := by
  refine MI.of (by decide) (Nat.le_of_ble_eq_true rfl) ?_
  intro p e s m args below meth c E hml hr hlk hs ls hl
  have hx := E.1
  have hb := E.2.1
  have hown := E.2.2.1
  have hts := E.2.2.2.1
  have hS : SS (fun q => q = ρ a0 0) H H [] := SS.rf
  have hl : lv_has ls 3 [(0, .ref a0), (1, .int 5), (2, .int 0)] := hl
  have n01 := hI.2.2.2.2.2.1
  have n23 := hI.2.2.2.2.2.2.1
  have J_28 : ∀ (H_c28 : Heap) (lc_c28 : List Loc) (ls : Array Slot), TH D cI cS τ ρ H_c28 → SS (fun q => q = ρ a0 0) H H_c28 lc_c28 → lv_has ls 3 [(0, .ref a0), (1, .int 5), (2, .int 0)] → IM D ρ N H_c28 a0 → (ai H (ρ a0 0) 976).toInt ≤ (ai H_c28 (ρ a0 0) 976).toInt → W p l e (rmO 0 0) s m args below meth c H_c28 lc_c28 0 0 (MQ below (va_Qi (fun (r : Int32) (u : Heap) => (IM D ρ N u a0) ∧ ((ai H (ρ a0 0) 976).toInt ≤ (ai u (ρ a0 0) 976).toInt)) (Bt D cI cS τ ρ H) (fun q => q = ρ a0 0)) args s 0 0 (fun q => q = ρ a0 0)) (F0 m 28 ls [.int 1, .int 982, .ref (ρ a0 0)]) := by
    intro H_c28 lc_c28 ls hT_c28 hS_c28 hl hI_c28 hmn_c28
    refine th_iast E hT_c28 hS_c28 (hW _ 12 0 ha0 (by decide) (by decide) (by decide)) rfl (by decide) (vp_in_iff.mpr ⟨by decide, by decide⟩) dX12_drops_28 (fun H_1 locs_1 hT_1 hU_1 hS_1 => ?_)
    have hU_1 : AU 985 H_c28 H_1 (ρ a0 0) 982 (1) := hU_1
    have hW_1 : PW N H_1 (ρ a0 0) := PW.put hI_c28.1 hU_1 (by show (-2147483648 : Int) ≤ _; exact i_min _) (by show (1 : Int32).toInt ≤ (2 : Int); have : (1 : Int32).toInt = 1 := (by decide); omega)
    refine lv_aload_n hx hb dX12_drops_29 rfl (lv_at hl 0 rfl) ?_
    refine gf_X12_7 E hT_1 hW ha0 dX12_drops_30 (fun h_2 => ?_)
    refine lv_sipush (v := 983) hx hb dX12_drops_33 (by decide) ?_
    refine lv_iload_n hx hb dX12_drops_36 rfl (lv_at hl 1 rfl) ?_
    refine th_iast E hT_1 hS_1 h_2 rfl (by decide) (vp_in_iff.mpr ⟨by decide, by decide⟩) dX12_drops_37 (fun H_3 locs_3 hT_3 hU_3 hS_3 => ?_)
    have hU_3 : AU 985 H_1 H_3 (ρ a0 0) 983 (5) := hU_3
    have hW_3 : PW N H_3 (ρ a0 0) := PW.put hW_1 hU_3 (by show (-2147483648 : Int) ≤ _; exact i_min _) (by show _ ≤ (2147483647 : Int); exact i_max _)
    refine lv_aload_n hx hb dX12_drops_38 rfl (lv_at hl 0 rfl) ?_
    refine gf_X12_7 E hT_3 hW ha0 dX12_drops_39 (fun h_4 => ?_)
    refine lv_sipush (v := 984) hx hb dX12_drops_42 (by decide) ?_
    refine lv_iload_n hx hb dX12_drops_45 rfl (lv_at hl 2 rfl) ?_
    refine th_iast E hT_3 hS_3 h_4 rfl (by decide) (vp_in_iff.mpr ⟨by decide, by decide⟩) dX12_drops_46 (fun H_5 locs_5 hT_5 hU_5 hS_5 => ?_)
    have hU_5 : AU 985 H_3 H_5 (ρ a0 0) 984 (0) := hU_5
    have hW_5 : PW N H_5 (ρ a0 0) := PW.put hW_3 hU_5 (by show (-2147483648 : Int) ≤ _; exact i_min _) (by show _ ≤ (2147483647 : Int); exact i_max _)
    refine lv_iconst (v := 0) hx hb dX12_drops_47 (by decide) ?_
    exact th_iret E hr hlk hs hT_5 hS_5 ⟨⟨hW_5, (QS.same (Eq.trans (AU.o hU_5 (by decide) (by decide)) (Eq.trans (AU.o hU_3 (by decide) (by decide)) (AU.o hU_1 (by decide) (by decide)))) (Eq.trans (AU.o hU_5 (by decide) (by decide)) (Eq.trans (AU.o hU_3 (by decide) (by decide)) (AU.o hU_1 (by decide) (by decide)))) hI_c28.2.1), (QS.same (Eq.trans (AU.o hU_5 (by decide) (by decide)) (Eq.trans (AU.o hU_3 (by decide) (by decide)) (AU.o hU_1 (by decide) (by decide)))) (Eq.trans (AU.o hU_5 (by decide) (by decide)) (Eq.trans (AU.o hU_3 (by decide) (by decide)) (AU.o hU_1 (by decide) (by decide)))) hI_c28.2.2.1), (PL.q (hU_5.2 _ (th_ne (hW _ 12 2 ha0 (by decide) (by decide) (by decide)) (hW _ 12 0 ha0 (by decide) (by decide) (by decide)) (by decide))) (PL.q (hU_3.2 _ (th_ne (hW _ 12 2 ha0 (by decide) (by decide) (by decide)) (hW _ 12 0 ha0 (by decide) (by decide) (by decide)) (by decide))) (PL.q (hU_1.2 _ (th_ne (hW _ 12 2 ha0 (by decide) (by decide) (by decide)) (hW _ 12 0 ha0 (by decide) (by decide) (by decide)) (by decide))) hI_c28.2.2.2.1))), (PL.q (hU_5.2 _ (th_ne (hW _ 12 3 ha0 (by decide) (by decide) (by decide)) (hW _ 12 0 ha0 (by decide) (by decide) (by decide)) (by decide))) (PL.q (hU_3.2 _ (th_ne (hW _ 12 3 ha0 (by decide) (by decide) (by decide)) (hW _ 12 0 ha0 (by decide) (by decide) (by decide)) (by decide))) (PL.q (hU_1.2 _ (th_ne (hW _ 12 3 ha0 (by decide) (by decide) (by decide)) (hW _ 12 0 ha0 (by decide) (by decide) (by decide)) (by decide))) hI_c28.2.2.2.2.1))), (IF.q (hU_5.2 _ (th_ne ha0 (hW _ 12 0 ha0 (by decide) (by decide) (by decide)) (by decide))) (IF.q (hU_3.2 _ (th_ne ha0 (hW _ 12 0 ha0 (by decide) (by decide) (by decide)) (by decide))) (IF.q (hU_1.2 _ (th_ne ha0 (hW _ 12 0 ha0 (by decide) (by decide) (by decide)) (by decide))) hI_c28.2.2.2.2.2)))⟩, (by rw [(Eq.trans (AU.o hU_5 (by decide) (by decide)) (Eq.trans (AU.o hU_3 (by decide) (by decide)) (AU.o hU_1 (by decide) (by decide))))]; omega)⟩ dX12_drops_48
  refine lv_aload_n hx hb dX12_drops_0 rfl (lv_at hl 0 rfl) ?_
  refine gf_X12_7 E hT hW ha0 dX12_drops_1 (fun h_6 => ?_)
  refine lv_sipush (v := 981) hx hb dX12_drops_4 (by decide) ?_
  refine lv_dup2_11 hx hb dX12_drops_7 rfl rfl ?_
  refine th_iald E hT h_6 (by decide) (vp_in_iff.mpr ⟨by decide, by decide⟩) dX12_drops_8 ?_
  refine th_topi (y := ai H (ρ a0 0) 981) rfl ?_
  refine lv_topi (fun x_7 ex_7 => ?_)
  have c_x_7 := congrArg Int32.toInt ex_7.symm
  refine lv_iconst (v := 1) hx hb dX12_drops_9 (by decide) ?_
  refine lv_iadd hx hb dX12_drops_10 ?_
  refine lv_topi (fun x_8 ex_8 => ?_)
  refine th_iast E hT hS h_6 rfl (by decide) (vp_in_iff.mpr ⟨by decide, by decide⟩) dX12_drops_11 (fun H_9 locs_9 hT_9 hU_9 hS_9 => ?_)
  have hU_9 : AU 985 H H_9 (ρ a0 0) 981 x_8 := hU_9
  have hW_9 : PW N H_9 (ρ a0 0) := PW.put hI.1 hU_9 (by show (-2147483648 : Int) ≤ _; exact i_min _) (by show _ ≤ (2147483647 : Int); exact i_max _)
  refine lv_aload_n hx hb dX12_drops_12 rfl (lv_at hl 0 rfl) ?_
  refine gf_X12_7 E hT_9 hW ha0 dX12_drops_13 (fun h_10 => ?_)
  refine lv_sipush (v := 982) hx hb dX12_drops_16 (by decide) ?_
  refine lv_iload_n hx hb dX12_drops_19 rfl (lv_at hl 2 rfl) ?_
  refine lv_if_le (tgt := 27) hx hb dX12_drops_20 (by decide) (fun c_11 => ?_) (fun c_11 => absurd (by decide) c_11)
  refine lv_iconst (v := 1) hx hb dX12_drops_27 (by decide) ?_
  exact J_28 H_9 locs_9 _ hT_9 hS_9 hl ⟨hW_9, (QS.same (AU.o hU_9 (by decide) (by decide)) (AU.o hU_9 (by decide) (by decide)) hI.2.1), (QS.same (AU.o hU_9 (by decide) (by decide)) (AU.o hU_9 (by decide) (by decide)) hI.2.2.1), (PL.q (hU_9.2 _ (th_ne (hW _ 12 2 ha0 (by decide) (by decide) (by decide)) (hW _ 12 0 ha0 (by decide) (by decide) (by decide)) (by decide))) hI.2.2.2.1), (PL.q (hU_9.2 _ (th_ne (hW _ 12 3 ha0 (by decide) (by decide) (by decide)) (hW _ 12 0 ha0 (by decide) (by decide) (by decide)) (by decide))) hI.2.2.2.2.1), (IF.q (hU_9.2 _ (th_ne ha0 (hW _ 12 0 ha0 (by decide) (by decide) (by decide)) (by decide))) hI.2.2.2.2.2)⟩ (by rw [(AU.o hU_9 (by decide) (by decide))]; omega)
set_option maxHeartbeats 4000000 in
set_option maxRecDepth 100000 in
/-- the reference: dropsAndBreaks -/
theorem y_dropsAndBreaks (l : Launch) (D : va_G) (cI cS : ClassId) (τ : Nat → Option Nat) (ρ : Nat → Nat → Nat) (hW : WF τ ρ) (H : Heap) (hT : TH D cI cS τ ρ H) (a0 : Nat) (ha0 : τ a0 = some 12) (N : Int) (hN0 : 0 ≤ N) (hN1 : N ≤ 600) (hI : IM D ρ N H a0) : MI l D cI cS τ ρ yX12_dropsAndBreaks cX12_dropsAndBreaks 3 (some .int) 3 67 H [.ref a0, .int 1, .int 5] (fun (r : Int32) (u : Heap) => (IM D ρ N u a0) ∧ ((ai H (ρ a0 0) 976).toInt ≤ (ai u (ρ a0 0) 976).toInt)) (fun q => q = ρ a0 2 ∨ q = ρ a0 0) := by
  refine MI.of (by decide) (Nat.le_of_ble_eq_true rfl) ?_
  intro p e s m args below meth c E hml hr hlk hs ls hl
  have hx := E.1
  have hb := E.2.1
  have hown := E.2.2.1
  have hts := E.2.2.2.1
  have hS : SS (fun q => q = ρ a0 2 ∨ q = ρ a0 0) H H [] := SS.rf
  have hl : lv_has ls 3 [(0, .ref a0), (1, .int 1), (2, .int 5)] := hl
  have n01 := hI.2.2.2.2.2.1
  have n23 := hI.2.2.2.2.2.2.1
  refine lv_aload_n hx hb dX12_dropsAndBreaks_0 rfl (lv_at hl 0 rfl) ?_
  refine lv_iload_n hx hb dX12_dropsAndBreaks_1 rfl (lv_at hl 1 rfl) ?_
  refine th_Vv (As := [.int 1]) (rest := []) E hml hl.1 (y_breaksIt l D cI cS τ ρ hW H hT a0 ha0 N hN0 hN1 ⟨hI.1, hI.2.1, hI.2.2.1, hI.2.2.2.1, hI.2.2.2.2.1, hI.2.2.2.2.2⟩) lk_X12_196 yd_X12_breaksIt hT ha0 rfl (by decide) hS (fun q => (fun h => h.elim (fun h => (Or.inl h)) (fun h => (Or.inr h)))) ⟨by decide, by decide⟩ (Nat.le_of_ble_eq_true rfl) ⟨by decide, by decide⟩ rfl dX12_dropsAndBreaks_2 (fun H_1 locs_1 p_1 hT_1 hk_1 hS_1 => ?_)
  have p_1 : (IM D ρ N H_1 a0) ∧ ((ai H (ρ a0 0) 976).toInt ≤ (ai H_1 (ρ a0 0) 976).toInt) := p_1
  obtain ⟨p_1_0, p_1_1⟩ := p_1
  have mn_1 : (ai H (ρ a0 0) 976).toInt ≤ (ai H_1 (ρ a0 0) 976).toInt := by exact p_1_1
  refine lv_aload_n hx hb dX12_dropsAndBreaks_5 rfl (lv_at hl 0 rfl) ?_
  refine lv_iload_n hx hb dX12_dropsAndBreaks_6 rfl (lv_at hl 2 rfl) ?_
  refine lv_iconst (v := 0) hx hb dX12_dropsAndBreaks_7 (by decide) ?_
  refine th_Vi (As := [.int 5, .int 0]) (rest := []) E hml hl.1 (y_drops_v3 l D cI cS τ ρ hW H_1 hT_1 a0 ha0 N hN0 hN1 ⟨p_1_0.1, p_1_0.2.1, p_1_0.2.2.1, p_1_0.2.2.2.1, p_1_0.2.2.2.2.1, p_1_0.2.2.2.2.2⟩) lk_X12_199 yd_X12_drops hT_1 ha0 rfl (by decide) hS_1 (fun q h => (Or.inr h)) ⟨by decide, by decide⟩ (Nat.le_of_ble_eq_true rfl) ⟨by decide, by decide⟩ rfl dX12_dropsAndBreaks_8 (fun r_2 H_2 locs_2 p_2 hT_2 hk_2 hS_2 => ?_)
  have p_2 : (IM D ρ N H_2 a0) ∧ ((ai H_1 (ρ a0 0) 976).toInt ≤ (ai H_2 (ρ a0 0) 976).toInt) := p_2
  obtain ⟨p_2_0, p_2_1⟩ := p_2
  have mn_2 : (ai H_1 (ρ a0 0) 976).toInt ≤ (ai H_2 (ρ a0 0) 976).toInt := by exact p_2_1
  exact th_iret E hr hlk hs hT_2 hS_2 ⟨⟨p_2_0.1, p_2_0.2.1, p_2_0.2.2.1, p_2_0.2.2.2.1, p_2_0.2.2.2.2.1, p_2_0.2.2.2.2.2⟩, (by omega)⟩ dX12_dropsAndBreaks_11
set_option maxHeartbeats 4000000 in
set_option maxRecDepth 100000 in
/-- the reference: drops -/
theorem y_drops_v4 (l : Launch) (D : va_G) (cI cS : ClassId) (τ : Nat → Option Nat) (ρ : Nat → Nat → Nat) (hW : WF τ ρ) (H : Heap) (hT : TH D cI cS τ ρ H) (a0 : Nat) (ha0 : τ a0 = some 12) (N : Int) (hN0 : 0 ≤ N) (hN1 : N ≤ 600) (hI : IM D ρ N H a0) : MI l D cI cS τ ρ yX12_drops cX12_drops 3 (some .int) 0 0 H [.ref a0, .int 5, .int 2] (fun (r : Int32) (u : Heap) => (IM D ρ N u a0) ∧ ((ai H (ρ a0 0) 976).toInt ≤ (ai u (ρ a0 0) 976).toInt)) (fun q => q = ρ a0 0) := by
  refine MI.of (by decide) (Nat.le_of_ble_eq_true rfl) ?_
  intro p e s m args below meth c E hml hr hlk hs ls hl
  have hx := E.1
  have hb := E.2.1
  have hown := E.2.2.1
  have hts := E.2.2.2.1
  have hS : SS (fun q => q = ρ a0 0) H H [] := SS.rf
  have hl : lv_has ls 3 [(0, .ref a0), (1, .int 5), (2, .int 2)] := hl
  have n01 := hI.2.2.2.2.2.1
  have n23 := hI.2.2.2.2.2.2.1
  have J_28 : ∀ (H_c28 : Heap) (lc_c28 : List Loc) (ls : Array Slot), TH D cI cS τ ρ H_c28 → SS (fun q => q = ρ a0 0) H H_c28 lc_c28 → lv_has ls 3 [(0, .ref a0), (1, .int 5), (2, .int 2)] → IM D ρ N H_c28 a0 → (ai H (ρ a0 0) 976).toInt ≤ (ai H_c28 (ρ a0 0) 976).toInt → W p l e (rmO 0 0) s m args below meth c H_c28 lc_c28 0 0 (MQ below (va_Qi (fun (r : Int32) (u : Heap) => (IM D ρ N u a0) ∧ ((ai H (ρ a0 0) 976).toInt ≤ (ai u (ρ a0 0) 976).toInt)) (Bt D cI cS τ ρ H) (fun q => q = ρ a0 0)) args s 0 0 (fun q => q = ρ a0 0)) (F0 m 28 ls [.int 2, .int 982, .ref (ρ a0 0)]) := by
    intro H_c28 lc_c28 ls hT_c28 hS_c28 hl hI_c28 hmn_c28
    refine th_iast E hT_c28 hS_c28 (hW _ 12 0 ha0 (by decide) (by decide) (by decide)) rfl (by decide) (vp_in_iff.mpr ⟨by decide, by decide⟩) dX12_drops_28 (fun H_1 locs_1 hT_1 hU_1 hS_1 => ?_)
    have hU_1 : AU 985 H_c28 H_1 (ρ a0 0) 982 (2) := hU_1
    have hW_1 : PW N H_1 (ρ a0 0) := PW.put hI_c28.1 hU_1 (by show (-2147483648 : Int) ≤ _; exact i_min _) (by show (2 : Int32).toInt ≤ (2 : Int); have : (2 : Int32).toInt = 2 := (by decide); omega)
    refine lv_aload_n hx hb dX12_drops_29 rfl (lv_at hl 0 rfl) ?_
    refine gf_X12_7 E hT_1 hW ha0 dX12_drops_30 (fun h_2 => ?_)
    refine lv_sipush (v := 983) hx hb dX12_drops_33 (by decide) ?_
    refine lv_iload_n hx hb dX12_drops_36 rfl (lv_at hl 1 rfl) ?_
    refine th_iast E hT_1 hS_1 h_2 rfl (by decide) (vp_in_iff.mpr ⟨by decide, by decide⟩) dX12_drops_37 (fun H_3 locs_3 hT_3 hU_3 hS_3 => ?_)
    have hU_3 : AU 985 H_1 H_3 (ρ a0 0) 983 (5) := hU_3
    have hW_3 : PW N H_3 (ρ a0 0) := PW.put hW_1 hU_3 (by show (-2147483648 : Int) ≤ _; exact i_min _) (by show _ ≤ (2147483647 : Int); exact i_max _)
    refine lv_aload_n hx hb dX12_drops_38 rfl (lv_at hl 0 rfl) ?_
    refine gf_X12_7 E hT_3 hW ha0 dX12_drops_39 (fun h_4 => ?_)
    refine lv_sipush (v := 984) hx hb dX12_drops_42 (by decide) ?_
    refine lv_iload_n hx hb dX12_drops_45 rfl (lv_at hl 2 rfl) ?_
    refine th_iast E hT_3 hS_3 h_4 rfl (by decide) (vp_in_iff.mpr ⟨by decide, by decide⟩) dX12_drops_46 (fun H_5 locs_5 hT_5 hU_5 hS_5 => ?_)
    have hU_5 : AU 985 H_3 H_5 (ρ a0 0) 984 (2) := hU_5
    have hW_5 : PW N H_5 (ρ a0 0) := PW.put hW_3 hU_5 (by show (-2147483648 : Int) ≤ _; exact i_min _) (by show _ ≤ (2147483647 : Int); exact i_max _)
    refine lv_iconst (v := 0) hx hb dX12_drops_47 (by decide) ?_
    exact th_iret E hr hlk hs hT_5 hS_5 ⟨⟨hW_5, (QS.same (Eq.trans (AU.o hU_5 (by decide) (by decide)) (Eq.trans (AU.o hU_3 (by decide) (by decide)) (AU.o hU_1 (by decide) (by decide)))) (Eq.trans (AU.o hU_5 (by decide) (by decide)) (Eq.trans (AU.o hU_3 (by decide) (by decide)) (AU.o hU_1 (by decide) (by decide)))) hI_c28.2.1), (QS.same (Eq.trans (AU.o hU_5 (by decide) (by decide)) (Eq.trans (AU.o hU_3 (by decide) (by decide)) (AU.o hU_1 (by decide) (by decide)))) (Eq.trans (AU.o hU_5 (by decide) (by decide)) (Eq.trans (AU.o hU_3 (by decide) (by decide)) (AU.o hU_1 (by decide) (by decide)))) hI_c28.2.2.1), (PL.q (hU_5.2 _ (th_ne (hW _ 12 2 ha0 (by decide) (by decide) (by decide)) (hW _ 12 0 ha0 (by decide) (by decide) (by decide)) (by decide))) (PL.q (hU_3.2 _ (th_ne (hW _ 12 2 ha0 (by decide) (by decide) (by decide)) (hW _ 12 0 ha0 (by decide) (by decide) (by decide)) (by decide))) (PL.q (hU_1.2 _ (th_ne (hW _ 12 2 ha0 (by decide) (by decide) (by decide)) (hW _ 12 0 ha0 (by decide) (by decide) (by decide)) (by decide))) hI_c28.2.2.2.1))), (PL.q (hU_5.2 _ (th_ne (hW _ 12 3 ha0 (by decide) (by decide) (by decide)) (hW _ 12 0 ha0 (by decide) (by decide) (by decide)) (by decide))) (PL.q (hU_3.2 _ (th_ne (hW _ 12 3 ha0 (by decide) (by decide) (by decide)) (hW _ 12 0 ha0 (by decide) (by decide) (by decide)) (by decide))) (PL.q (hU_1.2 _ (th_ne (hW _ 12 3 ha0 (by decide) (by decide) (by decide)) (hW _ 12 0 ha0 (by decide) (by decide) (by decide)) (by decide))) hI_c28.2.2.2.2.1))), (IF.q (hU_5.2 _ (th_ne ha0 (hW _ 12 0 ha0 (by decide) (by decide) (by decide)) (by decide))) (IF.q (hU_3.2 _ (th_ne ha0 (hW _ 12 0 ha0 (by decide) (by decide) (by decide)) (by decide))) (IF.q (hU_1.2 _ (th_ne ha0 (hW _ 12 0 ha0 (by decide) (by decide) (by decide)) (by decide))) hI_c28.2.2.2.2.2)))⟩, (by rw [(Eq.trans (AU.o hU_5 (by decide) (by decide)) (Eq.trans (AU.o hU_3 (by decide) (by decide)) (AU.o hU_1 (by decide) (by decide))))]; omega)⟩ dX12_drops_48
  refine lv_aload_n hx hb dX12_drops_0 rfl (lv_at hl 0 rfl) ?_
  refine gf_X12_7 E hT hW ha0 dX12_drops_1 (fun h_6 => ?_)
  refine lv_sipush (v := 981) hx hb dX12_drops_4 (by decide) ?_
  refine lv_dup2_11 hx hb dX12_drops_7 rfl rfl ?_
  refine th_iald E hT h_6 (by decide) (vp_in_iff.mpr ⟨by decide, by decide⟩) dX12_drops_8 ?_
  refine th_topi (y := ai H (ρ a0 0) 981) rfl ?_
  refine lv_topi (fun x_7 ex_7 => ?_)
  have c_x_7 := congrArg Int32.toInt ex_7.symm
  refine lv_iconst (v := 1) hx hb dX12_drops_9 (by decide) ?_
  refine lv_iadd hx hb dX12_drops_10 ?_
  refine lv_topi (fun x_8 ex_8 => ?_)
  refine th_iast E hT hS h_6 rfl (by decide) (vp_in_iff.mpr ⟨by decide, by decide⟩) dX12_drops_11 (fun H_9 locs_9 hT_9 hU_9 hS_9 => ?_)
  have hU_9 : AU 985 H H_9 (ρ a0 0) 981 x_8 := hU_9
  have hW_9 : PW N H_9 (ρ a0 0) := PW.put hI.1 hU_9 (by show (-2147483648 : Int) ≤ _; exact i_min _) (by show _ ≤ (2147483647 : Int); exact i_max _)
  refine lv_aload_n hx hb dX12_drops_12 rfl (lv_at hl 0 rfl) ?_
  refine gf_X12_7 E hT_9 hW ha0 dX12_drops_13 (fun h_10 => ?_)
  refine lv_sipush (v := 982) hx hb dX12_drops_16 (by decide) ?_
  refine lv_iload_n hx hb dX12_drops_19 rfl (lv_at hl 2 rfl) ?_
  refine lv_if_le (tgt := 27) hx hb dX12_drops_20 (by decide) (fun c_11 => absurd c_11 (by decide)) (fun c_11 => ?_)
  refine lv_iconst (v := 2) hx hb dX12_drops_23 (by decide) ?_
  refine lv_goto (tgt := 28) hx hb dX12_drops_24 (by decide) ?_
  exact J_28 H_9 locs_9 _ hT_9 hS_9 hl ⟨hW_9, (QS.same (AU.o hU_9 (by decide) (by decide)) (AU.o hU_9 (by decide) (by decide)) hI.2.1), (QS.same (AU.o hU_9 (by decide) (by decide)) (AU.o hU_9 (by decide) (by decide)) hI.2.2.1), (PL.q (hU_9.2 _ (th_ne (hW _ 12 2 ha0 (by decide) (by decide) (by decide)) (hW _ 12 0 ha0 (by decide) (by decide) (by decide)) (by decide))) hI.2.2.2.1), (PL.q (hU_9.2 _ (th_ne (hW _ 12 3 ha0 (by decide) (by decide) (by decide)) (hW _ 12 0 ha0 (by decide) (by decide) (by decide)) (by decide))) hI.2.2.2.2.1), (IF.q (hU_9.2 _ (th_ne ha0 (hW _ 12 0 ha0 (by decide) (by decide) (by decide)) (by decide))) hI.2.2.2.2.2)⟩ (by rw [(AU.o hU_9 (by decide) (by decide))]; omega)
set_option maxHeartbeats 4000000 in
set_option maxRecDepth 100000 in
/-- the reference: inCalling -/
theorem y_inCalling (l : Launch) (D : va_G) (cI cS : ClassId) (τ : Nat → Option Nat) (ρ : Nat → Nat → Nat) (hW : WF τ ρ) (H : Heap) (hT : TH D cI cS τ ρ H) (a0 : Nat) (ha0 : τ a0 = some 12) (N : Int) (hN0 : 0 ≤ N) (hN1 : N ≤ 600) (hI : IM D ρ N H a0) (hp0 : (ai H (ρ a0 0) 288).toInt = 2) : MI l D cI cS τ ρ yX12_inCalling cX12_inCalling 3 (some .int) 9 212 H [.ref a0, .int 1] (fun (r : Int32) (u : Heap) => (IM D ρ N u a0) ∧ ((ai H (ρ a0 0) 976).toInt ≤ (ai u (ρ a0 0) 976).toInt)) (fun q => q = ρ a0 0 ∨ q = ρ a0 2) := by
  refine MI.of (by decide) (Nat.le_of_ble_eq_true rfl) ?_
  intro p e s m args below meth c E hml hr hlk hs ls hl
  have hx := E.1
  have hb := E.2.1
  have hown := E.2.2.1
  have hts := E.2.2.2.1
  have hS : SS (fun q => q = ρ a0 0 ∨ q = ρ a0 2) H H [] := SS.rf
  have hl : lv_has ls 3 [(0, .ref a0), (1, .int 1)] := hl
  have n01 := hI.2.2.2.2.2.1
  have n23 := hI.2.2.2.2.2.2.1
  have J_29 : ∀ (H_c29 : Heap) (lc_c29 : List Loc) (ls : Array Slot) (z29_0 : Int32), TH D cI cS τ ρ H_c29 → SS (fun q => q = ρ a0 0 ∨ q = ρ a0 2) H H_c29 lc_c29 → lv_has ls 3 [(0, .ref a0), (1, .int 1)] → -128 ≤ z29_0.toInt → z29_0.toInt ≤ 729 → IM D ρ N H_c29 a0 → (ai H (ρ a0 0) 976).toInt ≤ (ai H_c29 (ρ a0 0) 976).toInt → (ai H_c29 (ρ a0 0) 288).toInt = 2 → W p l e (rmO 9 212) s m args below meth c H_c29 lc_c29 0 0 (MQ below (va_Qi (fun (r : Int32) (u : Heap) => (IM D ρ N u a0) ∧ ((ai H (ρ a0 0) 976).toInt ≤ (ai u (ρ a0 0) 976).toInt)) (Bt D cI cS τ ρ H) (fun q => q = ρ a0 0 ∨ q = ρ a0 2)) args s 0 0 (fun q => q = ρ a0 0 ∨ q = ρ a0 2)) (F0 m 29 ls [.int z29_0]) := by
    intro H_c29 lc_c29 ls z29_0 hT_c29 hS_c29 hl lz29_0 uz29_0 hI_c29 hmn_c29 hx29_0
    refine lv_istore_n (lv' := [(2, .int z29_0), (0, .ref a0), (1, .int 1)]) hx hb dX12_inCalling_29 rfl hl (by decide) rfl (fun ls hl => ?_)
    refine lv_iload_n hx hb dX12_inCalling_30 rfl (lv_at hl 0 rfl) ?_
    refine lv_iconst (v := 1) hx hb dX12_inCalling_31 (by decide) ?_
    refine lv_icmp_eq (tgt := 60) hx hb dX12_inCalling_32 (by decide) (fun c_1 => ?_) (fun c_1 => ?_)
    · have f_1 : z29_0.toInt = 1 := r_eq rfl (by decide) c_1
      refine lv_aload_n hx hb dX12_inCalling_60 rfl (lv_at hl 1 rfl) ?_
      refine lv_bipush (v := 8) hx hb dX12_inCalling_61 (by decide) ?_
      refine th_Vi (As := [.int 8]) (rest := []) E hml hl.1 (y_has_v3 l D cI cS τ ρ hW H_c29 hT_c29 a0 ha0) lk_X12_202 yd_X12_has hT_c29 ha0 rfl (by decide) hS_c29 (fun _ h => h.elim) ⟨by decide, by decide⟩ (Nat.le_of_ble_eq_true rfl) ⟨by decide, by decide⟩ rfl dX12_inCalling_63 (fun r_2 H_2 locs_2 p_2 hT_2 hk_2 hS_2 => ?_)
      have p_2 : H_c29 = H_2 ∧ (r_2 = 0 ∨ r_2 = 1) := p_2
      obtain ⟨rfl, p_2_0⟩ := p_2
      have z_2 := b_iv p_2_0
      refine lv_if_eq (tgt := 91) hx hb dX12_inCalling_66 (by decide) (fun c_3 => ?_) (fun c_3 => ?_)
      · have f_3 : r_2.toInt = 0 := r_eq rfl (by decide) c_3
        refine lv_aload_n hx hb dX12_inCalling_91 rfl (lv_at hl 1 rfl) ?_
        refine lv_iconst (v := 1) hx hb dX12_inCalling_92 (by decide) ?_
        refine th_Vi (As := [.int 1]) (rest := []) E hml hl.1 (y_has_v4 l D cI cS τ ρ hW H_c29 hT_2 a0 ha0) lk_X12_202 yd_X12_has hT_2 ha0 rfl (by decide) hS_2 (fun _ h => h.elim) ⟨by decide, by decide⟩ (Nat.le_of_ble_eq_true rfl) ⟨by decide, by decide⟩ rfl dX12_inCalling_93 (fun r_4 H_4 locs_4 p_4 hT_4 hk_4 hS_4 => ?_)
        have p_4 : H_c29 = H_4 ∧ (r_4 = 0 ∨ r_4 = 1) := p_4
        obtain ⟨rfl, p_4_0⟩ := p_4
        have z_4 := b_iv p_4_0
        refine lv_if_ne (tgt := 106) hx hb dX12_inCalling_96 (by decide) (fun c_5 => ?_) (fun c_5 => ?_)
        · have f_5 : ¬ r_4.toInt = 0 := r_ne rfl (by decide) c_5
          have nz_r_4 : ¬ r_4 = 0 := c_5
          refine lv_aload_n hx hb dX12_inCalling_106 rfl (lv_at hl 1 rfl) ?_
          refine lv_iload_n hx hb dX12_inCalling_107 rfl (lv_at hl 2 rfl) ?_
          refine lv_iconst (v := 5) hx hb dX12_inCalling_108 (by decide) ?_
          refine lv_iconst (v := 1) hx hb dX12_inCalling_109 (by decide) ?_
          refine th_Vv (As := [.int 1, .int 5, .int 1]) (rest := []) E hml hl.1 (y_set_v42 l D cI cS τ ρ hW H_c29 hT_4 a0 ha0) lk_X12_95 yd_X12_set hT_4 ha0 rfl (by decide) hS_4 (fun q h => (Or.inl h)) ⟨by decide, by decide⟩ (Nat.le_of_ble_eq_true rfl) ⟨by decide, by decide⟩ rfl dX12_inCalling_110 (fun H_6 locs_6 p_6 hT_6 hk_6 hS_6 => ?_)
          have p_6 : (AU 985 H_c29 H_6 (ρ a0 0) 293 (1)) := p_6
          have hW_6 : PW N H_6 (ρ a0 0) := PW.put hI_c29.1 p_6 (by show (0 : Int) ≤ (1 : Int32).toInt; have : (1 : Int32).toInt = 1 := (by decide); omega) (by show (1 : Int32).toInt ≤ (N + 33 : Int); have : (1 : Int32).toInt = 1 := (by decide); omega)
          refine lv_aload_n hx hb dX12_inCalling_113 rfl (lv_at hl 1 rfl) ?_
          refine lv_iconst (v := 4) hx hb dX12_inCalling_114 (by decide) ?_
          refine th_Vi (As := [.int 4]) (rest := []) E hml hl.1 (y_has_v2 l D cI cS τ ρ hW H_6 hT_6 a0 ha0) lk_X12_202 yd_X12_has hT_6 ha0 rfl (by decide) hS_6 (fun _ h => h.elim) ⟨by decide, by decide⟩ (Nat.le_of_ble_eq_true rfl) ⟨by decide, by decide⟩ rfl dX12_inCalling_115 (fun r_7 H_7 locs_7 p_7 hT_7 hk_7 hS_7 => ?_)
          have p_7 : H_6 = H_7 ∧ (r_7 = 0 ∨ r_7 = 1) := p_7
          obtain ⟨rfl, p_7_0⟩ := p_7
          have z_7 := b_iv p_7_0
          refine lv_if_eq (tgt := 147) hx hb dX12_inCalling_118 (by decide) (fun c_8 => ?_) (fun c_8 => ?_)
          · have f_8 : r_7.toInt = 0 := r_eq rfl (by decide) c_8
            refine lv_aload_n hx hb dX12_inCalling_147 rfl (lv_at hl 1 rfl) ?_
            refine lv_iload_n hx hb dX12_inCalling_148 rfl (lv_at hl 2 rfl) ?_
            refine lv_iconst (v := 0) hx hb dX12_inCalling_149 (by decide) ?_
            refine lv_iconst (v := 3) hx hb dX12_inCalling_150 (by decide) ?_
            refine th_Vv (As := [.int 1, .int 0, .int 3]) (rest := []) E hml hl.1 (y_set_v43 l D cI cS τ ρ hW H_6 hT_7 a0 ha0) lk_X12_95 yd_X12_set hT_7 ha0 rfl (by decide) hS_7 (fun q h => (Or.inl h)) ⟨by decide, by decide⟩ (Nat.le_of_ble_eq_true rfl) ⟨by decide, by decide⟩ rfl dX12_inCalling_151 (fun H_9 locs_9 p_9 hT_9 hk_9 hS_9 => ?_)
            have p_9 : (AU 985 H_6 H_9 (ρ a0 0) 288 (3)) := p_9
            have hW_9 : PW N H_9 (ρ a0 0) := PW.put hW_6 p_9 (by show (-2147483648 : Int) ≤ _; exact i_min _) (by show _ ≤ (2147483647 : Int); exact i_max _)
            refine lv_aload_n hx hb dX12_inCalling_154 rfl (lv_at hl 1 rfl) ?_
            refine lv_iload_n hx hb dX12_inCalling_155 rfl (lv_at hl 2 rfl) ?_
            refine th_Vv (As := [.int 1]) (rest := []) E hml hl.1 (y_hello_v2 l D cI cS τ ρ hW H_9 hT_9 a0 ha0 N hN0 hN1 ⟨hW_9, (QS.same (Eq.trans (AU.o p_9 (by decide) (by decide)) (AU.o p_6 (by decide) (by decide))) (Eq.trans (AU.o p_9 (by decide) (by decide)) (AU.o p_6 (by decide) (by decide))) hI_c29.2.1), (QS.of (s := (3 : Int32)) (t := (ai H_c29 (ρ a0 0) 290 : Int32)) (AU.s p_9 (by decide)) (Eq.trans (AU.o p_9 (by decide) (by decide)) (AU.o p_6 (by decide) (by decide))) (by have j := hI_c29.2.2.1; unfold QS at j; have : (3 : Int32).toInt = 3 := (by decide); omega)), (PL.q (p_9.2 _ (th_ne (hW _ 12 2 ha0 (by decide) (by decide) (by decide)) (hW _ 12 0 ha0 (by decide) (by decide) (by decide)) (by decide))) (PL.q (p_6.2 _ (th_ne (hW _ 12 2 ha0 (by decide) (by decide) (by decide)) (hW _ 12 0 ha0 (by decide) (by decide) (by decide)) (by decide))) hI_c29.2.2.2.1)), (PL.q (p_9.2 _ (th_ne (hW _ 12 3 ha0 (by decide) (by decide) (by decide)) (hW _ 12 0 ha0 (by decide) (by decide) (by decide)) (by decide))) (PL.q (p_6.2 _ (th_ne (hW _ 12 3 ha0 (by decide) (by decide) (by decide)) (hW _ 12 0 ha0 (by decide) (by decide) (by decide)) (by decide))) hI_c29.2.2.2.2.1)), (IF.q (p_9.2 _ (th_ne ha0 (hW _ 12 0 ha0 (by decide) (by decide) (by decide)) (by decide))) (IF.q (p_6.2 _ (th_ne ha0 (hW _ 12 0 ha0 (by decide) (by decide) (by decide)) (by decide))) hI_c29.2.2.2.2.2))⟩) lk_X12_169 yd_X12_hello hT_9 ha0 rfl (by decide) hS_9 (fun q => (fun h => h.elim (fun h => (Or.inr h)) (fun h => (Or.inl h)))) ⟨by decide, by decide⟩ (Nat.le_of_ble_eq_true rfl) ⟨by decide, by decide⟩ rfl dX12_inCalling_156 (fun H_10 locs_10 p_10 hT_10 hk_10 hS_10 => ?_)
            have p_10 : (IM D ρ N H_10 a0) ∧ ((ai H_9 (ρ a0 0) 976).toInt ≤ (ai H_10 (ρ a0 0) 976).toInt) := p_10
            obtain ⟨p_10_0, p_10_1⟩ := p_10
            have mn_10 : (ai H_c29 (ρ a0 0) 976).toInt ≤ (ai H_10 (ρ a0 0) 976).toInt := by have h := p_10_1; rw [(Eq.trans (AU.o p_9 (by decide) (by decide)) (AU.o p_6 (by decide) (by decide)))] at h; exact h
            refine lv_iconst (v := 1) hx hb dX12_inCalling_159 (by decide) ?_
            exact th_iret E hr hlk hs hT_10 hS_10 ⟨⟨p_10_0.1, p_10_0.2.1, p_10_0.2.2.1, p_10_0.2.2.2.1, p_10_0.2.2.2.2.1, p_10_0.2.2.2.2.2⟩, (by omega)⟩ dX12_inCalling_160
          · have f_8 : ¬ r_7.toInt = 0 := r_ne rfl (by decide) c_8
            have nz_r_7 : ¬ r_7 = 0 := c_8
            refine lv_aload_n hx hb dX12_inCalling_121 rfl (lv_at hl 1 rfl) ?_
            refine lv_iload_n hx hb dX12_inCalling_122 rfl (lv_at hl 2 rfl) ?_
            refine lv_iload_n hx hb dX12_inCalling_123 rfl (lv_at hl 0 rfl) ?_
            refine th_Vv (As := [.int 1, .int z29_0]) (rest := []) E hml hl.1 (y_hears_v2 l D cI cS τ ρ hW H_6 hT_7 a0 z29_0 ha0 N hN0 hN1 ⟨hW_6, (QS.same (AU.o p_6 (by decide) (by decide)) (AU.o p_6 (by decide) (by decide)) hI_c29.2.1), (QS.same (AU.o p_6 (by decide) (by decide)) (AU.o p_6 (by decide) (by decide)) hI_c29.2.2.1), (PL.q (p_6.2 _ (th_ne (hW _ 12 2 ha0 (by decide) (by decide) (by decide)) (hW _ 12 0 ha0 (by decide) (by decide) (by decide)) (by decide))) hI_c29.2.2.2.1), (PL.q (p_6.2 _ (th_ne (hW _ 12 3 ha0 (by decide) (by decide) (by decide)) (hW _ 12 0 ha0 (by decide) (by decide) (by decide)) (by decide))) hI_c29.2.2.2.2.1), (IF.q (p_6.2 _ (th_ne ha0 (hW _ 12 0 ha0 (by decide) (by decide) (by decide)) (by decide))) hI_c29.2.2.2.2.2)⟩ (by omega)) lk_X12_212 yd_X12_hears hT_7 ha0 rfl (by decide) hS_7 (fun q h => (Or.inl h)) ⟨by decide, by decide⟩ (Nat.le_of_ble_eq_true rfl) ⟨by decide, by decide⟩ rfl dX12_inCalling_124 (fun H_11 locs_11 p_11 hT_11 hk_11 hS_11 => ?_)
            have p_11 : (IM D ρ N H_11 a0) ∧ ((ai H_6 (ρ a0 0) 976).toInt ≤ (ai H_11 (ρ a0 0) 976).toInt) ∧ (ai H_11 (ρ a0 0) 288 = ai H_6 (ρ a0 0) 288) ∧ (ai H_11 (ρ a0 0) 290 = ai H_6 (ρ a0 0) 290) := p_11
            obtain ⟨p_11_0, p_11_1, p_11_2, p_11_3⟩ := p_11
            have mn_11 : (ai H_c29 (ρ a0 0) 976).toInt ≤ (ai H_11 (ρ a0 0) 976).toInt := by have h := p_11_1; rw [(AU.o p_6 (by decide) (by decide))] at h; exact h
            refine lv_aload_n hx hb dX12_inCalling_127 rfl (lv_at hl 1 rfl) ?_
            refine lv_iload_n hx hb dX12_inCalling_128 rfl (lv_at hl 2 rfl) ?_
            refine lv_iconst (v := 0) hx hb dX12_inCalling_129 (by decide) ?_
            refine lv_iconst (v := 4) hx hb dX12_inCalling_130 (by decide) ?_
            refine th_Vv (As := [.int 1, .int 0, .int 4]) (rest := []) E hml hl.1 (y_set_v47 l D cI cS τ ρ hW H_11 hT_11 a0 ha0) lk_X12_95 yd_X12_set hT_11 ha0 rfl (by decide) hS_11 (fun q h => (Or.inl h)) ⟨by decide, by decide⟩ (Nat.le_of_ble_eq_true rfl) ⟨by decide, by decide⟩ rfl dX12_inCalling_131 (fun H_12 locs_12 p_12 hT_12 hk_12 hS_12 => ?_)
            have p_12 : (AU 985 H_11 H_12 (ρ a0 0) 288 (4)) := p_12
            have hW_12 : PW N H_12 (ρ a0 0) := PW.put p_11_0.1 p_12 (by show (-2147483648 : Int) ≤ _; exact i_min _) (by show _ ≤ (2147483647 : Int); exact i_max _)
            refine lv_aload_n hx hb dX12_inCalling_134 rfl (lv_at hl 1 rfl) ?_
            refine lv_iload_n hx hb dX12_inCalling_135 rfl (lv_at hl 2 rfl) ?_
            refine th_Vv (As := [.int 1]) (rest := []) E hml hl.1 (y_yes_v2 l D cI cS τ ρ hW H_12 hT_12 a0 ha0 N hN0 hN1 ⟨hW_12, (QS.same (AU.o p_12 (by decide) (by decide)) (AU.o p_12 (by decide) (by decide)) p_11_0.2.1), (QS.of (s := (4 : Int32)) (t := (ai H_c29 (ρ a0 0) 290 : Int32)) (AU.s p_12 (by decide)) (Eq.trans (AU.o p_12 (by decide) (by decide)) (Eq.trans p_11_3 (AU.o p_6 (by decide) (by decide)))) (by have j := p_11_0.2.2.1; unfold QS at j; have : (ai H_11 (ρ a0 0) 288).toInt = (ai H_c29 (ρ a0 0) 288 : Int32).toInt := congrArg Int32.toInt (Eq.trans p_11_2 (AU.o p_6 (by decide) (by decide))); have : (ai H_11 (ρ a0 0) 290).toInt = (ai H_c29 (ρ a0 0) 290 : Int32).toInt := congrArg Int32.toInt (Eq.trans p_11_3 (AU.o p_6 (by decide) (by decide))); have : (4 : Int32).toInt = 4 := (by decide); omega)), (PL.q (p_12.2 _ (th_ne (hW _ 12 2 ha0 (by decide) (by decide) (by decide)) (hW _ 12 0 ha0 (by decide) (by decide) (by decide)) (by decide))) p_11_0.2.2.2.1), (PL.q (p_12.2 _ (th_ne (hW _ 12 3 ha0 (by decide) (by decide) (by decide)) (hW _ 12 0 ha0 (by decide) (by decide) (by decide)) (by decide))) p_11_0.2.2.2.2.1), (IF.q (p_12.2 _ (th_ne ha0 (hW _ 12 0 ha0 (by decide) (by decide) (by decide)) (by decide))) p_11_0.2.2.2.2.2)⟩) lk_X12_193 yd_X12_yes hT_12 ha0 rfl (by decide) hS_12 (fun q => (fun h => h.elim (fun h => (Or.inr h)) (fun h => (Or.inl h)))) ⟨by decide, by decide⟩ (Nat.le_of_ble_eq_true rfl) ⟨by decide, by decide⟩ rfl dX12_inCalling_136 (fun H_13 locs_13 p_13 hT_13 hk_13 hS_13 => ?_)
            have p_13 : (IM D ρ N H_13 a0) ∧ ((ai H_12 (ρ a0 0) 976).toInt ≤ (ai H_13 (ρ a0 0) 976).toInt) := p_13
            obtain ⟨p_13_0, p_13_1⟩ := p_13
            have mn_13 : (ai H_11 (ρ a0 0) 976).toInt ≤ (ai H_13 (ρ a0 0) 976).toInt := by have h := p_13_1; rw [(AU.o p_12 (by decide) (by decide))] at h; exact h
            refine lv_aload_n hx hb dX12_inCalling_139 rfl (lv_at hl 1 rfl) ?_
            refine lv_iload_n hx hb dX12_inCalling_140 rfl (lv_at hl 2 rfl) ?_
            refine th_Vv (As := [.int 1]) (rest := []) E hml hl.1 (y_goesOn_v2 l D cI cS τ ρ hW H_13 hT_13 a0 ha0 N hN0 hN1 ⟨p_13_0.1, p_13_0.2.1, p_13_0.2.2.1, p_13_0.2.2.2.1, p_13_0.2.2.2.2.1, p_13_0.2.2.2.2.2⟩) lk_X12_177 yd_X12_goesOn hT_13 ha0 rfl (by decide) hS_13 (fun q => (fun h => h.elim (fun h => (Or.inr h)) (fun h => (Or.inl h)))) ⟨by decide, by decide⟩ (Nat.le_of_ble_eq_true rfl) ⟨by decide, by decide⟩ rfl dX12_inCalling_141 (fun H_14 locs_14 p_14 hT_14 hk_14 hS_14 => ?_)
            have p_14 : (IM D ρ N H_14 a0) ∧ ((ai H_13 (ρ a0 0) 976).toInt ≤ (ai H_14 (ρ a0 0) 976).toInt) := p_14
            obtain ⟨p_14_0, p_14_1⟩ := p_14
            have mn_14 : (ai H_13 (ρ a0 0) 976).toInt ≤ (ai H_14 (ρ a0 0) 976).toInt := by exact p_14_1
            refine lv_goto (tgt := 159) hx hb dX12_inCalling_144 (by decide) ?_
            refine lv_iconst (v := 1) hx hb dX12_inCalling_159 (by decide) ?_
            exact th_iret E hr hlk hs hT_14 hS_14 ⟨⟨p_14_0.1, p_14_0.2.1, p_14_0.2.2.1, p_14_0.2.2.2.1, p_14_0.2.2.2.2.1, p_14_0.2.2.2.2.2⟩, (by omega)⟩ dX12_inCalling_160
        · have f_5 : r_4.toInt = 0 := r_eq rfl (by decide) c_5
          refine lv_aload_n hx hb dX12_inCalling_99 rfl (lv_at hl 1 rfl) ?_
          refine lv_iconst (v := 4) hx hb dX12_inCalling_100 (by decide) ?_
          refine lv_iconst (v := 0) hx hb dX12_inCalling_101 (by decide) ?_
          refine th_Vi (As := [.int 4, .int 0]) (rest := []) E hml hl.1 (y_drops l D cI cS τ ρ hW H_c29 hT_4 a0 ha0 N hN0 hN1 ⟨hI_c29.1, hI_c29.2.1, hI_c29.2.2.1, hI_c29.2.2.2.1, hI_c29.2.2.2.2.1, hI_c29.2.2.2.2.2⟩) lk_X12_199 yd_X12_drops hT_4 ha0 rfl (by decide) hS_4 (fun q h => (Or.inl h)) ⟨by decide, by decide⟩ (Nat.le_of_ble_eq_true rfl) ⟨by decide, by decide⟩ rfl dX12_inCalling_102 (fun r_15 H_15 locs_15 p_15 hT_15 hk_15 hS_15 => ?_)
          have p_15 : (IM D ρ N H_15 a0) ∧ ((ai H_c29 (ρ a0 0) 976).toInt ≤ (ai H_15 (ρ a0 0) 976).toInt) := p_15
          obtain ⟨p_15_0, p_15_1⟩ := p_15
          have mn_15 : (ai H_c29 (ρ a0 0) 976).toInt ≤ (ai H_15 (ρ a0 0) 976).toInt := by exact p_15_1
          exact th_iret E hr hlk hs hT_15 hS_15 ⟨⟨p_15_0.1, p_15_0.2.1, p_15_0.2.2.1, p_15_0.2.2.2.1, p_15_0.2.2.2.2.1, p_15_0.2.2.2.2.2⟩, (by omega)⟩ dX12_inCalling_105
      · have f_3 : ¬ r_2.toInt = 0 := r_ne rfl (by decide) c_3
        have nz_r_2 : ¬ r_2 = 0 := c_3
        refine lv_aload_n hx hb dX12_inCalling_69 rfl (lv_at hl 1 rfl) ?_
        refine lv_iconst (v := 4) hx hb dX12_inCalling_70 (by decide) ?_
        refine th_Vi (As := [.int 4]) (rest := []) E hml hl.1 (y_has_v2 l D cI cS τ ρ hW H_c29 hT_2 a0 ha0) lk_X12_202 yd_X12_has hT_2 ha0 rfl (by decide) hS_2 (fun _ h => h.elim) ⟨by decide, by decide⟩ (Nat.le_of_ble_eq_true rfl) ⟨by decide, by decide⟩ rfl dX12_inCalling_71 (fun r_16 H_16 locs_16 p_16 hT_16 hk_16 hS_16 => ?_)
        have p_16 : H_c29 = H_16 ∧ (r_16 = 0 ∨ r_16 = 1) := p_16
        obtain ⟨rfl, p_16_0⟩ := p_16
        have z_16 := b_iv p_16_0
        refine lv_if_ne (tgt := 84) hx hb dX12_inCalling_74 (by decide) (fun c_17 => ?_) (fun c_17 => ?_)
        · have f_17 : ¬ r_16.toInt = 0 := r_ne rfl (by decide) c_17
          have nz_r_16 : ¬ r_16 = 0 := c_17
          refine lv_aload_n hx hb dX12_inCalling_84 rfl (lv_at hl 1 rfl) ?_
          refine lv_iload_n hx hb dX12_inCalling_85 rfl (lv_at hl 2 rfl) ?_
          refine th_Vv (As := [.int 1]) (rest := []) E hml hl.1 (y_shuts_v2 l D cI cS τ ρ hW H_c29 hT_16 a0 ha0 N hN0 hN1 ⟨hI_c29.1, hI_c29.2.1, hI_c29.2.2.1, hI_c29.2.2.2.1, hI_c29.2.2.2.2.1, hI_c29.2.2.2.2.2⟩) lk_X12_180 yd_X12_shuts hT_16 ha0 rfl (by decide) hS_16 (fun q h => (Or.inl h)) ⟨by decide, by decide⟩ (Nat.le_of_ble_eq_true rfl) ⟨by decide, by decide⟩ rfl dX12_inCalling_86 (fun H_18 locs_18 p_18 hT_18 hk_18 hS_18 => ?_)
          have p_18 : (IM D ρ N H_18 a0) ∧ ((ai H_c29 (ρ a0 0) 976).toInt ≤ (ai H_18 (ρ a0 0) 976).toInt) := p_18
          obtain ⟨p_18_0, p_18_1⟩ := p_18
          have mn_18 : (ai H_c29 (ρ a0 0) 976).toInt ≤ (ai H_18 (ρ a0 0) 976).toInt := by exact p_18_1
          refine lv_iconst (v := 1) hx hb dX12_inCalling_89 (by decide) ?_
          exact th_iret E hr hlk hs hT_18 hS_18 ⟨⟨p_18_0.1, p_18_0.2.1, p_18_0.2.2.1, p_18_0.2.2.2.1, p_18_0.2.2.2.2.1, p_18_0.2.2.2.2.2⟩, (by omega)⟩ dX12_inCalling_90
        · have f_17 : r_16.toInt = 0 := r_eq rfl (by decide) c_17
          refine lv_aload_n hx hb dX12_inCalling_77 rfl (lv_at hl 1 rfl) ?_
          refine lv_iconst (v := 2) hx hb dX12_inCalling_78 (by decide) ?_
          refine lv_iconst (v := 0) hx hb dX12_inCalling_79 (by decide) ?_
          refine th_Vi (As := [.int 2, .int 0]) (rest := []) E hml hl.1 (y_drops_v2 l D cI cS τ ρ hW H_c29 hT_16 a0 ha0 N hN0 hN1 ⟨hI_c29.1, hI_c29.2.1, hI_c29.2.2.1, hI_c29.2.2.2.1, hI_c29.2.2.2.2.1, hI_c29.2.2.2.2.2⟩) lk_X12_199 yd_X12_drops hT_16 ha0 rfl (by decide) hS_16 (fun q h => (Or.inl h)) ⟨by decide, by decide⟩ (Nat.le_of_ble_eq_true rfl) ⟨by decide, by decide⟩ rfl dX12_inCalling_80 (fun r_19 H_19 locs_19 p_19 hT_19 hk_19 hS_19 => ?_)
          have p_19 : (IM D ρ N H_19 a0) ∧ ((ai H_c29 (ρ a0 0) 976).toInt ≤ (ai H_19 (ρ a0 0) 976).toInt) := p_19
          obtain ⟨p_19_0, p_19_1⟩ := p_19
          have mn_19 : (ai H_c29 (ρ a0 0) 976).toInt ≤ (ai H_19 (ρ a0 0) 976).toInt := by exact p_19_1
          exact th_iret E hr hlk hs hT_19 hS_19 ⟨⟨p_19_0.1, p_19_0.2.1, p_19_0.2.2.1, p_19_0.2.2.2.1, p_19_0.2.2.2.2.1, p_19_0.2.2.2.2.2⟩, (by omega)⟩ dX12_inCalling_83
    · have f_1 : ¬ z29_0.toInt = 1 := r_ne rfl (by decide) c_1
      refine lv_aload_n hx hb dX12_inCalling_35 rfl (lv_at hl 1 rfl) ?_
      refine lv_bipush (v := 8) hx hb dX12_inCalling_36 (by decide) ?_
      refine th_Vi (As := [.int 8]) (rest := []) E hml hl.1 (y_has_v3 l D cI cS τ ρ hW H_c29 hT_c29 a0 ha0) lk_X12_202 yd_X12_has hT_c29 ha0 rfl (by decide) hS_c29 (fun _ h => h.elim) ⟨by decide, by decide⟩ (Nat.le_of_ble_eq_true rfl) ⟨by decide, by decide⟩ rfl dX12_inCalling_38 (fun r_20 H_20 locs_20 p_20 hT_20 hk_20 hS_20 => ?_)
      have p_20 : H_c29 = H_20 ∧ (r_20 = 0 ∨ r_20 = 1) := p_20
      obtain ⟨rfl, p_20_0⟩ := p_20
      have z_20 := b_iv p_20_0
      refine lv_if_eq (tgt := 53) hx hb dX12_inCalling_41 (by decide) (fun c_21 => ?_) (fun c_21 => ?_)
      · have f_21 : r_20.toInt = 0 := r_eq rfl (by decide) c_21
        refine lv_aload_n hx hb dX12_inCalling_53 rfl (lv_at hl 1 rfl) ?_
        refine lv_iload_n hx hb dX12_inCalling_54 rfl (lv_at hl 2 rfl) ?_
        refine lv_iconst (v := 5) hx hb dX12_inCalling_55 (by decide) ?_
        refine th_Vi (As := [.int 1, .int 5]) (rest := []) E hml hl.1 (y_dropsAndBreaks l D cI cS τ ρ hW H_c29 hT_20 a0 ha0 N hN0 hN1 ⟨hI_c29.1, hI_c29.2.1, hI_c29.2.2.1, hI_c29.2.2.2.1, hI_c29.2.2.2.2.1, hI_c29.2.2.2.2.2⟩) lk_X12_205 yd_X12_dropsAndBreaks hT_20 ha0 rfl (by decide) hS_20 (fun q => (fun h => h.elim (fun h => (Or.inr h)) (fun h => (Or.inl h)))) ⟨by decide, by decide⟩ (Nat.le_of_ble_eq_true rfl) ⟨by decide, by decide⟩ rfl dX12_inCalling_56 (fun r_22 H_22 locs_22 p_22 hT_22 hk_22 hS_22 => ?_)
        have p_22 : (IM D ρ N H_22 a0) ∧ ((ai H_c29 (ρ a0 0) 976).toInt ≤ (ai H_22 (ρ a0 0) 976).toInt) := p_22
        obtain ⟨p_22_0, p_22_1⟩ := p_22
        have mn_22 : (ai H_c29 (ρ a0 0) 976).toInt ≤ (ai H_22 (ρ a0 0) 976).toInt := by exact p_22_1
        exact th_iret E hr hlk hs hT_22 hS_22 ⟨⟨p_22_0.1, p_22_0.2.1, p_22_0.2.2.1, p_22_0.2.2.2.1, p_22_0.2.2.2.2.1, p_22_0.2.2.2.2.2⟩, (by omega)⟩ dX12_inCalling_59
      · have f_21 : ¬ r_20.toInt = 0 := r_ne rfl (by decide) c_21
        have nz_r_20 : ¬ r_20 = 0 := c_21
        refine lv_aload_n hx hb dX12_inCalling_44 rfl (lv_at hl 1 rfl) ?_
        refine lv_iconst (v := 5) hx hb dX12_inCalling_45 (by decide) ?_
        refine lv_iconst (v := 2) hx hb dX12_inCalling_46 (by decide) ?_
        refine th_Vi (As := [.int 5, .int 2]) (rest := []) E hml hl.1 (y_drops_v4 l D cI cS τ ρ hW H_c29 hT_20 a0 ha0 N hN0 hN1 ⟨hI_c29.1, hI_c29.2.1, hI_c29.2.2.1, hI_c29.2.2.2.1, hI_c29.2.2.2.2.1, hI_c29.2.2.2.2.2⟩) lk_X12_199 yd_X12_drops hT_20 ha0 rfl (by decide) hS_20 (fun q h => (Or.inl h)) ⟨by decide, by decide⟩ (Nat.le_of_ble_eq_true rfl) ⟨by decide, by decide⟩ rfl dX12_inCalling_47 (fun r_23 H_23 locs_23 p_23 hT_23 hk_23 hS_23 => ?_)
        have p_23 : (IM D ρ N H_23 a0) ∧ ((ai H_c29 (ρ a0 0) 976).toInt ≤ (ai H_23 (ρ a0 0) 976).toInt) := p_23
        obtain ⟨p_23_0, p_23_1⟩ := p_23
        have mn_23 : (ai H_c29 (ρ a0 0) 976).toInt ≤ (ai H_23 (ρ a0 0) 976).toInt := by exact p_23_1
        refine lv_goto (tgt := 59) hx hb dX12_inCalling_50 (by decide) ?_
        exact th_iret E hr hlk hs hT_23 hS_23 ⟨⟨p_23_0.1, p_23_0.2.1, p_23_0.2.2.1, p_23_0.2.2.2.1, p_23_0.2.2.2.2.1, p_23_0.2.2.2.2.2⟩, (by omega)⟩ dX12_inCalling_59
  refine lv_aload_n hx hb dX12_inCalling_0 rfl (lv_at hl 0 rfl) ?_
  refine lv_iconst (v := 4) hx hb dX12_inCalling_1 (by decide) ?_
  refine th_Vi (As := [.int 4]) (rest := []) E hml hl.1 (y_has_v2 l D cI cS τ ρ hW H hT a0 ha0) lk_X12_202 yd_X12_has hT ha0 rfl (by decide) hS (fun _ h => h.elim) ⟨by decide, by decide⟩ (Nat.le_of_ble_eq_true rfl) ⟨by decide, by decide⟩ rfl dX12_inCalling_2 (fun r_24 H_24 locs_24 p_24 hT_24 hk_24 hS_24 => ?_)
  have p_24 : H = H_24 ∧ (r_24 = 0 ∨ r_24 = 1) := p_24
  obtain ⟨rfl, p_24_0⟩ := p_24
  have z_24 := b_iv p_24_0
  refine lv_if_eq (tgt := 28) hx hb dX12_inCalling_5 (by decide) (fun c_25 => ?_) (fun c_25 => ?_)
  · have f_25 : r_24.toInt = 0 := r_eq rfl (by decide) c_25
    refine lv_iconst (v := 1) hx hb dX12_inCalling_28 (by decide) ?_
    exact J_29 H locs_24 _ 1 hT_24 hS_24 hl (by decide) (by decide) ⟨hI.1, hI.2.1, hI.2.2.1, hI.2.2.2.1, hI.2.2.2.2.1, hI.2.2.2.2.2⟩ (by omega) (by omega)
  · have f_25 : ¬ r_24.toInt = 0 := r_ne rfl (by decide) c_25
    have nz_r_24 : ¬ r_24 = 0 := c_25
    refine lv_aload_n hx hb dX12_inCalling_8 rfl (lv_at hl 0 rfl) ?_
    refine lv_iload_n hx hb dX12_inCalling_9 rfl (lv_at hl 1 rfl) ?_
    refine lv_aload_n hx hb dX12_inCalling_10 rfl (lv_at hl 0 rfl) ?_
    refine gf_X12_19 E hT_24 hW ha0 dX12_inCalling_11 (fun h_26 => ?_)
    refine lv_iconst (v := 3) hx hb dX12_inCalling_14 (by decide) ?_
    refine th_iald E hT_24 h_26 (by decide) (vp_in_iff.mpr ⟨by decide, by decide⟩) dX12_inCalling_15 ?_
    refine th_topi (y := ai H (ρ a0 3) 3) rfl ?_
    refine lv_topi (fun x_27 ex_27 => ?_)
    have c_x_27 := congrArg Int32.toInt ex_27.symm
    refine lv_aload_n hx hb dX12_inCalling_16 rfl (lv_at hl 0 rfl) ?_
    refine lv_iload_n hx hb dX12_inCalling_17 rfl (lv_at hl 1 rfl) ?_
    refine lv_iconst (v := 1) hx hb dX12_inCalling_18 (by decide) ?_
    refine th_Vi (As := [.int 1, .int 1]) (rest := [.int x_27, .int 1, .ref a0]) E hml hl.1 (y_get_v29 l D cI cS τ ρ hW H hT_24 a0 ha0) lk_X12_99 yd_X12_get hT_24 ha0 rfl (by decide) hS_24 (fun _ h => h.elim) ⟨by decide, by decide⟩ (Nat.le_of_ble_eq_true rfl) ⟨by decide, by decide⟩ rfl dX12_inCalling_19 (fun r_28 H_28 locs_28 p_28 hT_28 hk_28 hS_28 => ?_)
    have p_28 : H = H_28 ∧ (ai H (ρ a0 0) 289 = r_28) := p_28
    obtain ⟨rfl, p_28_0⟩ := p_28
    have b_r_28 : 0 ≤ r_28.toInt ∧ r_28.toInt ≤ N + 2 := by rw [← p_28_0]; exact hI.1 289 (by decide)
    have c_r_28 := congrArg Int32.toInt p_28_0
    refine th_Vi (As := [.int 1, .int x_27, .int r_28]) (rest := []) E hml hl.1 (y_means_v2 l D cI cS τ ρ hW H hT_28 a0 x_27 r_28 ha0 (by omega)) lk_X12_208 yd_X12_means hT_28 ha0 rfl (by decide) hS_28 (fun _ h => h.elim) ⟨by decide, by decide⟩ (Nat.le_of_ble_eq_true rfl) ⟨by decide, by decide⟩ rfl dX12_inCalling_22 (fun r_29 H_29 locs_29 p_29 hT_29 hk_29 hS_29 => ?_)
    have p_29 : H = H_29 ∧ (r_28.toInt - 128 ≤ r_29.toInt ∧ r_29.toInt ≤ r_28.toInt + 127) := p_29
    obtain ⟨rfl, p_29_0⟩ := p_29
    refine lv_goto (tgt := 29) hx hb dX12_inCalling_25 (by decide) ?_
    exact J_29 H locs_29 _ r_29 hT_29 hS_29 hl (by omega) (by omega) ⟨hI.1, hI.2.1, hI.2.2.1, hI.2.2.2.1, hI.2.2.2.2.1, hI.2.2.2.2.2⟩ (by omega) (by omega)
set_option maxHeartbeats 4000000 in
set_option maxRecDepth 100000 in
/-- the reference: fits -/
theorem y_fits (l : Launch) (D : va_G) (cI cS : ClassId) (τ : Nat → Option Nat) (ρ : Nat → Nat → Nat) (hW : WF τ ρ) (H : Heap) (hT : TH D cI cS τ ρ H) (a0 : Nat) (x1 : Int32) (ha0 : τ a0 = some 12) (N : Int) (hN0 : 0 ≤ N) (hN1 : N ≤ 600) (hI : IM D ρ N H a0) : MI l D cI cS τ ρ yX12_fits cX12_fits 6 (some .boolean) 2 47 H [.ref a0, .int 0, .int x1] (fun (r : Int32) (u : Heap) => (H = u) ∧ (r = 0 ∨ r = 1)) (fun q => False) := by
  refine MI.of (by decide) (Nat.le_of_ble_eq_true rfl) ?_
  intro p e s m args below meth c E hml hr hlk hs ls hl
  have hx := E.1
  have hb := E.2.1
  have hown := E.2.2.1
  have hts := E.2.2.2.1
  have hS : SS (fun q => False) H H [] := SS.rf
  have hl : lv_has ls 6 [(0, .ref a0), (1, .int 0), (2, .int x1)] := hl
  have n01 := hI.2.2.2.2.2.1
  have n23 := hI.2.2.2.2.2.2.1
  have L_38 : ∀ (n : Nat) (lc_c38 : List Loc) (ls : Array Slot) (y38_3 : Int32) (y38_4 : Int32) (y38_5 : Int32), SS (fun q => False) H H lc_c38 → lv_has ls 6 [(0, .ref a0), (1, .int 0), (2, .int x1), (3, .int y38_3), (4, .int y38_4), (5, .int y38_5)] → y38_4 = 0 ∨ y38_4 = 1 → 0 ≤ y38_5.toInt → (y38_3.toInt - y38_5.toInt).toNat < n → W p l e (rmO 2 47) s m args below meth c H lc_c38 0 0 (MQ below (va_Qi (fun (r : Int32) (u : Heap) => (H = u) ∧ (r = 0 ∨ r = 1)) (Bt D cI cS τ ρ H) (fun q => False)) args s 0 0 (fun q => False)) (F0 m 38 ls []) := by
    intro n
    induction n with
    | zero => intro lc_c38 ls y38_3 y38_4 y38_5 hS_c38 hl by38_4 ly38_5 hm; exact absurd hm (Nat.not_lt_zero _)
    | succ n ih_38 =>
      intro lc_c38 ls y38_3 y38_4 y38_5 hS_c38 hl by38_4 ly38_5 hm_38
      have z_y38_4 := b_iv by38_4
      refine lv_iload hx hb dX12_fits_38 (lv_at hl 5 rfl) ?_
      refine lv_iload_n hx hb dX12_fits_40 rfl (lv_at hl 3 rfl) ?_
      refine lv_icmp_ge (tgt := 74) hx hb dX12_fits_41 (by decide) (fun c_1 => ?_) (fun c_1 => ?_)
      · have f_1 : y38_3.toInt ≤ y38_5.toInt := r_le rfl rfl c_1
        refine lv_iload hx hb dX12_fits_74 (lv_at hl 4 rfl) ?_
        exact th_zret E hr hlk hs by38_4 hT hS_c38 ⟨rfl, by38_4⟩ dX12_fits_76
      · have f_1 : y38_5.toInt < y38_3.toInt := r_nle rfl rfl c_1
        refine lv_iload hx hb dX12_fits_44 (lv_at hl 4 rfl) ?_
        refine lv_if_ne (tgt := 61) hx hb dX12_fits_46 (by decide) (fun c_2 => ?_) (fun c_2 => ?_)
        · have f_2 : ¬ y38_4.toInt = 0 := r_ne rfl (by decide) c_2
          have nz_y38_4 : ¬ y38_4 = 0 := c_2
          refine lv_iconst (v := 1) hx hb dX12_fits_61 (by decide) ?_
          refine lv_goto (tgt := 66) hx hb dX12_fits_62 (by decide) ?_
          refine lv_istore (lv' := [(4, .int 1), (0, .ref a0), (1, .int 0), (2, .int x1), (3, .int y38_3), (5, .int y38_5)]) hx hb dX12_fits_66 hl (by decide) rfl (fun ls hl => ?_)
          obtain ⟨x_3, ex_3⟩ : ∃ y : Int32, y38_5 + 1 = y := ⟨_, rfl⟩
          have q_x_3 : x_3.toInt = y38_5.toInt + 1 := i_add (k := 1) (by decide) ex_3 (by have := i_min y38_5; omega) (by have := i_max y38_5; have := i_max y38_3; omega)
          refine lv_iinc (v := x_3) (lv' := [(5, .int x_3), (4, .int 1), (0, .ref a0), (1, .int 0), (2, .int x1), (3, .int y38_3)]) hx hb dX12_fits_68 hl (k := 5) rfl (by rw [← ex_3]; rfl) (by decide) rfl (fun ls hl => ?_)
          refine lv_goto (tgt := 38) hx hb dX12_fits_71 (by decide) ?_
          exact ih_38 lc_c38 _ y38_3 1 x_3 hS_c38 (lv_sub hl [2, 3, 4, 5, 1, 0] rfl) (Or.inr rfl) (by omega) (by omega)
        · have f_2 : y38_4.toInt = 0 := r_eq rfl (by decide) c_2
          refine lv_aload_n hx hb dX12_fits_49 rfl (lv_at hl 0 rfl) ?_
          refine lv_iload_n hx hb dX12_fits_50 rfl (lv_at hl 1 rfl) ?_
          refine lv_iload_n hx hb dX12_fits_51 rfl (lv_at hl 2 rfl) ?_
          refine lv_iload hx hb dX12_fits_52 (lv_at hl 5 rfl) ?_
          refine lv_iadd hx hb dX12_fits_54 ?_
          refine lv_topi (fun x_4 ex_4 => ?_)
          refine th_Vi (As := [.int 0, .int x_4]) (rest := []) E hml hl.1 (y_isWanted_v2 l D cI cS τ ρ hW H hT a0 x_4 ha0 N hN0 hN1 ⟨hI.1, hI.2.1, hI.2.2.1, hI.2.2.2.1, hI.2.2.2.2.1, hI.2.2.2.2.2⟩) lk_X12_218 yd_X12_isWanted hT ha0 rfl (by decide) hS_c38 (fun _ h => h.elim) ⟨by decide, by decide⟩ (Nat.le_of_ble_eq_true rfl) ⟨by decide, by decide⟩ rfl dX12_fits_55 (fun r_5 H_5 locs_5 p_5 hT_5 hk_5 hS_5 => ?_)
          have p_5 : H = H_5 ∧ (r_5 = 0 ∨ r_5 = 1) ∧ (r_5.toInt = 1 → (0 ≤ x_4.toInt ∧ (ai H (ρ a0 0) 5).toInt ≤ x_4.toInt ∧ x_4.toInt ≤ N + 32)) := p_5
          obtain ⟨rfl, p_5_0, p_5_1⟩ := p_5
          have z_5 := b_iv p_5_0
          refine lv_if_eq (tgt := 65) hx hb dX12_fits_58 (by decide) (fun c_6 => ?_) (fun c_6 => ?_)
          · have f_6 : r_5.toInt = 0 := r_eq rfl (by decide) c_6
            refine lv_iconst (v := 0) hx hb dX12_fits_65 (by decide) ?_
            refine lv_istore (lv' := [(4, .int 0), (0, .ref a0), (1, .int 0), (2, .int x1), (3, .int y38_3), (5, .int y38_5)]) hx hb dX12_fits_66 hl (by decide) rfl (fun ls hl => ?_)
            obtain ⟨x_7, ex_7⟩ : ∃ y : Int32, y38_5 + 1 = y := ⟨_, rfl⟩
            have q_x_7 : x_7.toInt = y38_5.toInt + 1 := i_add (k := 1) (by decide) ex_7 (by have := i_min y38_5; omega) (by have := i_max y38_5; have := i_max y38_3; omega)
            refine lv_iinc (v := x_7) (lv' := [(5, .int x_7), (4, .int 0), (0, .ref a0), (1, .int 0), (2, .int x1), (3, .int y38_3)]) hx hb dX12_fits_68 hl (k := 5) rfl (by rw [← ex_7]; rfl) (by decide) rfl (fun ls hl => ?_)
            refine lv_goto (tgt := 38) hx hb dX12_fits_71 (by decide) ?_
            exact ih_38 locs_5 _ y38_3 0 x_7 hS_5 (lv_sub hl [2, 3, 4, 5, 1, 0] rfl) (Or.inl rfl) (by omega) (by omega)
          · have f_6 : ¬ r_5.toInt = 0 := r_ne rfl (by decide) c_6
            have nz_r_5 : ¬ r_5 = 0 := c_6
            refine lv_iconst (v := 1) hx hb dX12_fits_61 (by decide) ?_
            refine lv_goto (tgt := 66) hx hb dX12_fits_62 (by decide) ?_
            refine lv_istore (lv' := [(4, .int 1), (0, .ref a0), (1, .int 0), (2, .int x1), (3, .int y38_3), (5, .int y38_5)]) hx hb dX12_fits_66 hl (by decide) rfl (fun ls hl => ?_)
            obtain ⟨x_8, ex_8⟩ : ∃ y : Int32, y38_5 + 1 = y := ⟨_, rfl⟩
            have q_x_8 : x_8.toInt = y38_5.toInt + 1 := i_add (k := 1) (by decide) ex_8 (by have := i_min y38_5; omega) (by have := i_max y38_5; have := i_max y38_3; omega)
            refine lv_iinc (v := x_8) (lv' := [(5, .int x_8), (4, .int 1), (0, .ref a0), (1, .int 0), (2, .int x1), (3, .int y38_3)]) hx hb dX12_fits_68 hl (k := 5) rfl (by rw [← ex_8]; rfl) (by decide) rfl (fun ls hl => ?_)
            refine lv_goto (tgt := 38) hx hb dX12_fits_71 (by decide) ?_
            exact ih_38 locs_5 _ y38_3 1 x_8 hS_5 (lv_sub hl [2, 3, 4, 5, 1, 0] rfl) (Or.inr rfl) (by omega) (by omega)
  have J_33 : ∀ (lc_c33 : List Loc) (ls : Array Slot) (y33_3 : Int32) (z33_0 : Int32), SS (fun q => False) H H lc_c33 → lv_has ls 6 [(0, .ref a0), (1, .int 0), (2, .int x1), (3, .int y33_3)] → z33_0 = 0 ∨ z33_0 = 1 → W p l e (rmO 2 47) s m args below meth c H lc_c33 0 0 (MQ below (va_Qi (fun (r : Int32) (u : Heap) => (H = u) ∧ (r = 0 ∨ r = 1)) (Bt D cI cS τ ρ H) (fun q => False)) args s 0 0 (fun q => False)) (F0 m 33 ls [.int z33_0]) := by
    intro lc_c33 ls y33_3 z33_0 hS_c33 hl bz33_0
    have z_z33_0 := b_iv bz33_0
    refine lv_istore (lv' := [(4, .int z33_0), (0, .ref a0), (1, .int 0), (2, .int x1), (3, .int y33_3)]) hx hb dX12_fits_33 hl (by decide) rfl (fun ls hl => ?_)
    refine lv_iconst (v := 0) hx hb dX12_fits_35 (by decide) ?_
    refine lv_istore (lv' := [(5, .int 0), (4, .int z33_0), (0, .ref a0), (1, .int 0), (2, .int x1), (3, .int y33_3)]) hx hb dX12_fits_36 hl (by decide) rfl (fun ls hl => ?_)
    exact L_38 _ lc_c33 _ y33_3 z33_0 0 hS_c33 (lv_sub hl [2, 3, 4, 5, 1, 0] rfl) bz33_0 (by decide) (Nat.lt_succ_self _)
  have J_32 : ∀ (lc_c32 : List Loc) (ls : Array Slot) (y32_3 : Int32), SS (fun q => False) H H lc_c32 → lv_has ls 6 [(0, .ref a0), (1, .int 0), (2, .int x1), (3, .int y32_3)] → W p l e (rmO 2 47) s m args below meth c H lc_c32 0 0 (MQ below (va_Qi (fun (r : Int32) (u : Heap) => (H = u) ∧ (r = 0 ∨ r = 1)) (Bt D cI cS τ ρ H) (fun q => False)) args s 0 0 (fun q => False)) (F0 m 32 ls []) := by
    intro lc_c32 ls y32_3 hS_c32 hl
    refine lv_iconst (v := 0) hx hb dX12_fits_32 (by decide) ?_
    exact J_33 lc_c32 _ y32_3 0 hS_c32 hl (Or.inl rfl)
  have J_28 : ∀ (lc_c28 : List Loc) (ls : Array Slot) (y28_3 : Int32), SS (fun q => False) H H lc_c28 → lv_has ls 6 [(0, .ref a0), (1, .int 0), (2, .int x1), (3, .int y28_3)] → 0 ≤ y28_3.toInt → y28_3.toInt ≤ 0 → W p l e (rmO 2 47) s m args below meth c H lc_c28 0 0 (MQ below (va_Qi (fun (r : Int32) (u : Heap) => (H = u) ∧ (r = 0 ∨ r = 1)) (Bt D cI cS τ ρ H) (fun q => False)) args s 0 0 (fun q => False)) (F0 m 28 ls []) := by
    intro lc_c28 ls y28_3 hS_c28 hl ly28_3 uy28_3
    refine lv_iconst (v := 1) hx hb dX12_fits_28 (by decide) ?_
    refine lv_goto (tgt := 33) hx hb dX12_fits_29 (by decide) ?_
    exact J_33 lc_c28 _ y28_3 1 hS_c28 hl (Or.inr rfl)
  refine lv_aload_n hx hb dX12_fits_0 rfl (lv_at hl 0 rfl) ?_
  refine th_Vi (As := []) (rest := []) E hml hl.1 (y_lengthOfIt l D cI cS τ ρ hW H hT a0 ha0) lk_X12_136 yd_X12_lengthOfIt hT ha0 rfl (by decide) hS (fun _ h => h.elim) ⟨by decide, by decide⟩ (Nat.le_of_ble_eq_true rfl) ⟨by decide, by decide⟩ rfl dX12_fits_1 (fun r_9 H_9 locs_9 p_9 hT_9 hk_9 hS_9 => ?_)
  have p_9 : H = H_9 := p_9
  obtain rfl := p_9
  refine lv_istore_n (lv' := [(3, .int r_9), (0, .ref a0), (1, .int 0), (2, .int x1)]) hx hb dX12_fits_4 rfl hl (by decide) rfl (fun ls hl => ?_)
  refine lv_iload_n hx hb dX12_fits_5 rfl (lv_at hl 0 rfl) ?_
  refine lv_if_ne (tgt := 32) hx hb dX12_fits_6 (by decide) (fun c_10 => ?_) (fun c_10 => ?_)
  · have f_10 : ¬ r_9.toInt = 0 := r_ne rfl (by decide) c_10
    have nz_r_9 : ¬ r_9 = 0 := c_10
    exact J_32 locs_9 _ r_9 hS_9 (lv_sub hl [1, 2, 3, 0] rfl)
  · have f_10 : r_9.toInt = 0 := r_eq rfl (by decide) c_10
    refine lv_iload_n hx hb dX12_fits_9 rfl (lv_at hl 3 rfl) ?_
    refine lv_aload_n hx hb dX12_fits_10 rfl (lv_at hl 1 rfl) ?_
    refine lv_iload_n hx hb dX12_fits_11 rfl (lv_at hl 2 rfl) ?_
    refine lv_iconst (v := 5) hx hb dX12_fits_12 (by decide) ?_
    refine th_Vi (As := [.int 0, .int 5]) (rest := [.int x1]) E hml hl.1 (y_get_v22 l D cI cS τ ρ hW H hT_9 a0 ha0) lk_X12_99 yd_X12_get hT_9 ha0 rfl (by decide) hS_9 (fun _ h => h.elim) ⟨by decide, by decide⟩ (Nat.le_of_ble_eq_true rfl) ⟨by decide, by decide⟩ rfl dX12_fits_13 (fun r_11 H_11 locs_11 p_11 hT_11 hk_11 hS_11 => ?_)
    have p_11 : H = H_11 ∧ (ai H (ρ a0 0) 5 = r_11) := p_11
    obtain ⟨rfl, p_11_0⟩ := p_11
    have b_r_11 : 0 ≤ r_11.toInt ∧ r_11.toInt ≤ N + 33 := by rw [← p_11_0]; exact hI.1 5 (by decide)
    have c_r_11 := congrArg Int32.toInt p_11_0
    refine lv_icmp_eq (tgt := 28) hx hb dX12_fits_16 (by decide) (fun c_12 => ?_) (fun c_12 => ?_)
    · have f_12 : x1.toInt = r_11.toInt := r_eq rfl rfl c_12
      exact J_28 locs_11 _ r_9 hS_11 (lv_sub hl [1, 2, 3, 0] rfl) (by omega) (by omega)
    · have f_12 : ¬ x1.toInt = r_11.toInt := r_ne rfl rfl c_12
      refine lv_aload_n hx hb dX12_fits_19 rfl (lv_at hl 1 rfl) ?_
      refine lv_iload_n hx hb dX12_fits_20 rfl (lv_at hl 2 rfl) ?_
      refine lv_iload_n hx hb dX12_fits_21 rfl (lv_at hl 3 rfl) ?_
      refine th_Vi (As := [.int 0, .int x1]) (rest := []) E hml hl.1 (y_isWanted_v2 l D cI cS τ ρ hW H hT_11 a0 x1 ha0 N hN0 hN1 ⟨hI.1, hI.2.1, hI.2.2.1, hI.2.2.2.1, hI.2.2.2.2.1, hI.2.2.2.2.2⟩) lk_X12_218 yd_X12_isWanted hT_11 ha0 rfl (by decide) hS_11 (fun _ h => h.elim) ⟨by decide, by decide⟩ (Nat.le_of_ble_eq_true rfl) ⟨by decide, by decide⟩ rfl dX12_fits_22 (fun r_13 H_13 locs_13 p_13 hT_13 hk_13 hS_13 => ?_)
      have p_13 : H = H_13 ∧ (r_13 = 0 ∨ r_13 = 1) ∧ (r_13.toInt = 1 → (0 ≤ x1.toInt ∧ (ai H (ρ a0 0) 5).toInt ≤ x1.toInt ∧ x1.toInt ≤ N + 32)) := p_13
      obtain ⟨rfl, p_13_0, p_13_1⟩ := p_13
      have z_13 := b_iv p_13_0
      refine lv_if_eq (tgt := 32) hx hb dX12_fits_25 (by decide) (fun c_14 => ?_) (fun c_14 => ?_)
      · have f_14 : r_13.toInt = 0 := r_eq rfl (by decide) c_14
        exact J_32 locs_13 _ r_9 hS_13 (lv_sub hl [1, 2, 3, 0] rfl)
      · have f_14 : ¬ r_13.toInt = 0 := r_ne rfl (by decide) c_14
        have nz_r_13 : ¬ r_13 = 0 := c_14
        exact J_28 locs_13 _ r_9 hS_13 (lv_sub hl [1, 2, 3, 0] rfl) (by omega) (by omega)
set_option maxHeartbeats 4000000 in
set_option maxRecDepth 100000 in
/-- the reference: in -/
theorem y_in_v3 (l : Launch) (D : va_G) (cI cS : ClassId) (τ : Nat → Option Nat) (ρ : Nat → Nat → Nat) (hW : WF τ ρ) (H : Heap) (hT : TH D cI cS τ ρ H) (x0 : Int64) (x2 : Int64) : MI l D cI cS τ ρ yX12_in cX12_in 6 (some .boolean) 0 0 H [.long x0, .long 1, .long x2] (fun (r : Int32) (u : Heap) => (H = u) ∧ (r = 0 ∨ r = 1) ∧ ((r.toInt = 1 ∧ 1 ≤ x0.toInt ∧ x0.toInt ≤ x2.toInt) ∨ (r.toInt = 0 ∧ (x0.toInt < 1 ∨ x2.toInt < x0.toInt)))) (fun q => False) := by
  refine MI.of (by decide) (Nat.le_of_ble_eq_true rfl) ?_
  intro p e s m args below meth c E hml hr hlk hs ls hl
  have hx := E.1
  have hb := E.2.1
  have hown := E.2.2.1
  have hts := E.2.2.2.1
  have hS : SS (fun q => False) H H [] := SS.rf
  have hl : lv_has ls 6 [(0, .long x0), (2, .long 1), (4, .long x2)] := hl
  refine lv_lload_n hx hb dX12_in_0 rfl (lv_at hl 0 rfl) ?_
  refine lv_lload_n hx hb dX12_in_1 rfl (lv_at hl 1 rfl) ?_
  refine W.lcmp hx hb dX12_in_2 ?_
  refine lv_topi (fun x_1 ex_1 => ?_)
  have q_1 := l_cmp (a := x0) (b := (1 : Int64)) (m := x0.toInt) (n := 1) rfl (by decide) ex_1
  refine lv_if_lt (tgt := 17) hx hb dX12_in_3 (by decide) (fun c_2 => ?_) (fun c_2 => ?_)
  · have f_2 : x_1.toInt < 0 := r_lt rfl (by decide) c_2
    refine lv_iconst (v := 0) hx hb dX12_in_17 (by decide) ?_
    exact th_zret E hr hlk hs (Or.inl rfl) hT hS ⟨rfl, (Or.inl rfl), (by have : (0 : Int32).toInt = 0 := (by decide); omega)⟩ dX12_in_18
  · have f_2 : 0 ≤ x_1.toInt := r_nlt rfl (by decide) c_2
    refine lv_lload_n hx hb dX12_in_6 rfl (lv_at hl 0 rfl) ?_
    refine lv_lload hx hb dX12_in_7 (lv_at hl 2 rfl) ?_
    refine W.lcmp hx hb dX12_in_9 ?_
    refine lv_topi (fun x_3 ex_3 => ?_)
    have q_3 := l_cmp (a := x0) (b := x2) (m := x0.toInt) (n := x2.toInt) rfl rfl ex_3
    refine lv_if_gt (tgt := 17) hx hb dX12_in_10 (by decide) (fun c_4 => ?_) (fun c_4 => ?_)
    · have f_4 : 0 < x_3.toInt := r_lt (by decide) rfl c_4
      refine lv_iconst (v := 0) hx hb dX12_in_17 (by decide) ?_
      exact th_zret E hr hlk hs (Or.inl rfl) hT hS ⟨rfl, (Or.inl rfl), (by have : (0 : Int32).toInt = 0 := (by decide); omega)⟩ dX12_in_18
    · have f_4 : x_3.toInt ≤ 0 := r_nlt (by decide) rfl c_4
      refine lv_iconst (v := 1) hx hb dX12_in_13 (by decide) ?_
      refine lv_goto (tgt := 18) hx hb dX12_in_14 (by decide) ?_
      exact th_zret E hr hlk hs (Or.inr rfl) hT hS ⟨rfl, (Or.inr rfl), (by have : (1 : Int32).toInt = 1 := (by decide); omega)⟩ dX12_in_18
set_option maxHeartbeats 4000000 in
set_option maxRecDepth 100000 in
/-- the reference: makes -/
theorem y_makes_v9 (l : Launch) (D : va_G) (cI cS : ClassId) (τ : Nat → Option Nat) (ρ : Nat → Nat → Nat) (hW : WF τ ρ) (H : Heap) (hT : TH D cI cS τ ρ H) (a0 : Nat) (ha0 : τ a0 = some 12) (N : Int) (hN0 : 0 ≤ N) (hN1 : N ≤ 600) (hI : IM D ρ N H a0) : MV l D cI cS τ ρ yX12_makes cX12_makes 5 none 0 0 H [.ref a0, .int 0, .int 12, .int 0] (fun (u : Heap) => (IM D ρ N u a0) ∧ ((ai H (ρ a0 0) 976).toInt ≤ (ai u (ρ a0 0) 976).toInt)) (fun q => q = ρ a0 2) := by
  refine MV.of (by decide) (Nat.le_of_ble_eq_true rfl) ?_
  intro p e s m args below meth c E hml hr hlk hs ls hl
  have hx := E.1
  have hb := E.2.1
  have hown := E.2.2.1
  have hts := E.2.2.2.1
  have hS : SS (fun q => q = ρ a0 2) H H [] := SS.rf
  have hl : lv_has ls 5 [(0, .ref a0), (1, .int 0), (2, .int 12), (3, .int 0)] := hl
  have n01 := hI.2.2.2.2.2.1
  have n23 := hI.2.2.2.2.2.2.1
  have L_3 : ∀ (n : Nat) (H_c3 : Heap) (lc_c3 : List Loc) (ls : Array Slot) (y3_4 : Int32), TH D cI cS τ ρ H_c3 → SS (fun q => q = ρ a0 2) H H_c3 lc_c3 → lv_has ls 5 [(0, .ref a0), (1, .int 0), (2, .int 12), (3, .int 0), (4, .int y3_4)] → 0 ≤ y3_4.toInt → IM D ρ N H_c3 a0 → (ai H (ρ a0 0) 976).toInt ≤ (ai H_c3 (ρ a0 0) 976).toInt → (20 - y3_4.toInt).toNat < n → W p l e (rmO 0 0) s m args below meth c H_c3 lc_c3 0 0 (MQ below (va_Qv (fun (u : Heap) => (IM D ρ N u a0) ∧ ((ai H (ρ a0 0) 976).toInt ≤ (ai u (ρ a0 0) 976).toInt)) (Bt D cI cS τ ρ H) (fun q => q = ρ a0 2)) args s 0 0 (fun q => q = ρ a0 2)) (F0 m 3 ls []) := by
    intro n
    induction n with
    | zero => intro H_c3 lc_c3 ls y3_4 hT_c3 hS_c3 hl ly3_4 hI_c3 hmn_c3 hm; exact absurd hm (Nat.not_lt_zero _)
    | succ n ih_3 =>
      intro H_c3 lc_c3 ls y3_4 hT_c3 hS_c3 hl ly3_4 hI_c3 hmn_c3 hm_3
      refine lv_iload hx hb dX12_makes_3 (lv_at hl 4 rfl) ?_
      refine lv_bipush (v := 20) hx hb dX12_makes_5 (by decide) ?_
      refine lv_icmp_ge (tgt := 55) hx hb dX12_makes_7 (by decide) (fun c_1 => ?_) (fun c_1 => ?_)
      · have f_1 : 20 ≤ y3_4.toInt := r_le (by decide) rfl c_1
        refine lv_aload_n hx hb dX12_makes_55 rfl (lv_at hl 0 rfl) ?_
        refine gf_X12_16 E hT_c3 hW ha0 dX12_makes_56 (fun h_2 => ?_)
        refine lv_iconst (v := 0) hx hb dX12_makes_59 (by decide) ?_
        refine lv_iload_n hx hb dX12_makes_60 rfl (lv_at hl 1 rfl) ?_
        refine th_iast E hT_c3 hS_c3 h_2 rfl (by decide) (vp_in_iff.mpr ⟨by decide, by decide⟩) dX12_makes_61 (fun H_3 locs_3 hT_3 hU_3 hS_3 => ?_)
        have hU_3 : AU 20 H_c3 H_3 (ρ a0 2) 0 (0) := hU_3
        have hL_3 : PL H_3 (ρ a0 2) := PL.put hI_c3.2.2.2.1 hU_3 (by show (0 : Int) ≤ (0 : Int32).toInt; have : (0 : Int32).toInt = 0 := (by decide); omega) (by show (0 : Int32).toInt ≤ (1 : Int); have : (0 : Int32).toInt = 0 := (by decide); omega)
        refine lv_aload_n hx hb dX12_makes_62 rfl (lv_at hl 0 rfl) ?_
        refine gf_X12_16 E hT_3 hW ha0 dX12_makes_63 (fun h_4 => ?_)
        refine lv_iconst (v := 1) hx hb dX12_makes_66 (by decide) ?_
        refine lv_iload_n hx hb dX12_makes_67 rfl (lv_at hl 2 rfl) ?_
        refine th_iast E hT_3 hS_3 h_4 rfl (by decide) (vp_in_iff.mpr ⟨by decide, by decide⟩) dX12_makes_68 (fun H_5 locs_5 hT_5 hU_5 hS_5 => ?_)
        have hU_5 : AU 20 H_3 H_5 (ρ a0 2) 1 (12) := hU_5
        have hL_5 : PL H_5 (ρ a0 2) := PL.put hL_3 hU_5 (by show (-2147483648 : Int) ≤ _; exact i_min _) (by show _ ≤ (2147483647 : Int); exact i_max _)
        refine lv_aload_n hx hb dX12_makes_69 rfl (lv_at hl 0 rfl) ?_
        refine gf_X12_16 E hT_5 hW ha0 dX12_makes_70 (fun h_6 => ?_)
        refine lv_iconst (v := 2) hx hb dX12_makes_73 (by decide) ?_
        refine lv_iload_n hx hb dX12_makes_74 rfl (lv_at hl 3 rfl) ?_
        refine th_iast E hT_5 hS_5 h_6 rfl (by decide) (vp_in_iff.mpr ⟨by decide, by decide⟩) dX12_makes_75 (fun H_7 locs_7 hT_7 hU_7 hS_7 => ?_)
        have hU_7 : AU 20 H_5 H_7 (ρ a0 2) 2 (0) := hU_7
        have hL_7 : PL H_7 (ρ a0 2) := PL.put hL_5 hU_7 (by show (-2147483648 : Int) ≤ _; exact i_min _) (by show _ ≤ (2147483647 : Int); exact i_max _)
        refine lv_iload_n hx hb dX12_makes_76 rfl (lv_at hl 2 rfl) ?_
        refine lv_iconst (v := 4) hx hb dX12_makes_77 (by decide) ?_
        refine lv_iand hx hb dX12_makes_78 ?_
        refine th_topi (y := 4) (by decide) ?_
        refine lv_if_le (tgt := 133) hx hb dX12_makes_79 (by decide) (fun c_8 => absurd c_8 (by decide)) (fun c_8 => ?_)
        refine lv_iload_n hx hb dX12_makes_82 rfl (lv_at hl 2 rfl) ?_
        refine lv_bipush (v := 8) hx hb dX12_makes_83 (by decide) ?_
        refine lv_iand hx hb dX12_makes_85 ?_
        refine th_topi (y := 8) (by decide) ?_
        refine lv_if_ne (tgt := 133) hx hb dX12_makes_86 (by decide) (fun c_9 => ?_) (fun c_9 => absurd c_9 (by decide))
        exact th_vret E hr hlk hs hT_7 hS_7 ⟨⟨(PW.q (hU_7.2 _ (th_ne (hW _ 12 0 ha0 (by decide) (by decide) (by decide)) (hW _ 12 2 ha0 (by decide) (by decide) (by decide)) (by decide))) (PW.q (hU_5.2 _ (th_ne (hW _ 12 0 ha0 (by decide) (by decide) (by decide)) (hW _ 12 2 ha0 (by decide) (by decide) (by decide)) (by decide))) (PW.q (hU_3.2 _ (th_ne (hW _ 12 0 ha0 (by decide) (by decide) (by decide)) (hW _ 12 2 ha0 (by decide) (by decide) (by decide)) (by decide))) hI_c3.1))), (QS.same (Eq.trans (ai_q (hU_7.2 _ (th_ne (hW _ 12 0 ha0 (by decide) (by decide) (by decide)) (hW _ 12 2 ha0 (by decide) (by decide) (by decide)) (by decide)))) (Eq.trans (ai_q (hU_5.2 _ (th_ne (hW _ 12 0 ha0 (by decide) (by decide) (by decide)) (hW _ 12 2 ha0 (by decide) (by decide) (by decide)) (by decide)))) (ai_q (hU_3.2 _ (th_ne (hW _ 12 0 ha0 (by decide) (by decide) (by decide)) (hW _ 12 2 ha0 (by decide) (by decide) (by decide)) (by decide)))))) (Eq.trans (ai_q (hU_7.2 _ (th_ne (hW _ 12 0 ha0 (by decide) (by decide) (by decide)) (hW _ 12 2 ha0 (by decide) (by decide) (by decide)) (by decide)))) (Eq.trans (ai_q (hU_5.2 _ (th_ne (hW _ 12 0 ha0 (by decide) (by decide) (by decide)) (hW _ 12 2 ha0 (by decide) (by decide) (by decide)) (by decide)))) (ai_q (hU_3.2 _ (th_ne (hW _ 12 0 ha0 (by decide) (by decide) (by decide)) (hW _ 12 2 ha0 (by decide) (by decide) (by decide)) (by decide)))))) hI_c3.2.1), (QS.same (Eq.trans (ai_q (hU_7.2 _ (th_ne (hW _ 12 0 ha0 (by decide) (by decide) (by decide)) (hW _ 12 2 ha0 (by decide) (by decide) (by decide)) (by decide)))) (Eq.trans (ai_q (hU_5.2 _ (th_ne (hW _ 12 0 ha0 (by decide) (by decide) (by decide)) (hW _ 12 2 ha0 (by decide) (by decide) (by decide)) (by decide)))) (ai_q (hU_3.2 _ (th_ne (hW _ 12 0 ha0 (by decide) (by decide) (by decide)) (hW _ 12 2 ha0 (by decide) (by decide) (by decide)) (by decide)))))) (Eq.trans (ai_q (hU_7.2 _ (th_ne (hW _ 12 0 ha0 (by decide) (by decide) (by decide)) (hW _ 12 2 ha0 (by decide) (by decide) (by decide)) (by decide)))) (Eq.trans (ai_q (hU_5.2 _ (th_ne (hW _ 12 0 ha0 (by decide) (by decide) (by decide)) (hW _ 12 2 ha0 (by decide) (by decide) (by decide)) (by decide)))) (ai_q (hU_3.2 _ (th_ne (hW _ 12 0 ha0 (by decide) (by decide) (by decide)) (hW _ 12 2 ha0 (by decide) (by decide) (by decide)) (by decide)))))) hI_c3.2.2.1), hL_7, (PL.q (hU_7.2 _ (Ne.symm n23)) (PL.q (hU_5.2 _ (Ne.symm n23)) (PL.q (hU_3.2 _ (Ne.symm n23)) hI_c3.2.2.2.2.1))), (IF.q (hU_7.2 _ (th_ne ha0 (hW _ 12 2 ha0 (by decide) (by decide) (by decide)) (by decide))) (IF.q (hU_5.2 _ (th_ne ha0 (hW _ 12 2 ha0 (by decide) (by decide) (by decide)) (by decide))) (IF.q (hU_3.2 _ (th_ne ha0 (hW _ 12 2 ha0 (by decide) (by decide) (by decide)) (by decide))) hI_c3.2.2.2.2.2)))⟩, (by rw [(Eq.trans (ai_q (hU_7.2 _ (th_ne (hW _ 12 0 ha0 (by decide) (by decide) (by decide)) (hW _ 12 2 ha0 (by decide) (by decide) (by decide)) (by decide)))) (Eq.trans (ai_q (hU_5.2 _ (th_ne (hW _ 12 0 ha0 (by decide) (by decide) (by decide)) (hW _ 12 2 ha0 (by decide) (by decide) (by decide)) (by decide)))) (ai_q (hU_3.2 _ (th_ne (hW _ 12 0 ha0 (by decide) (by decide) (by decide)) (hW _ 12 2 ha0 (by decide) (by decide) (by decide)) (by decide))))))]; omega)⟩ dX12_makes_133
      · have f_1 : y3_4.toInt < 20 := r_nle (by decide) rfl c_1
        refine lv_aload_n hx hb dX12_makes_10 rfl (lv_at hl 0 rfl) ?_
        refine gf_X12_16 E hT_c3 hW ha0 dX12_makes_11 (fun h_10 => ?_)
        refine lv_iload hx hb dX12_makes_14 (lv_at hl 4 rfl) ?_
        refine lv_iload hx hb dX12_makes_16 (lv_at hl 4 rfl) ?_
        refine lv_iconst (v := 3) hx hb dX12_makes_18 (by decide) ?_
        refine lv_icmp_lt (tgt := 42) hx hb dX12_makes_19 (by decide) (fun c_11 => ?_) (fun c_11 => ?_)
        · have f_11 : y3_4.toInt < 3 := r_lt rfl (by decide) c_11
          refine lv_iconst (v := 0) hx hb dX12_makes_42 (by decide) ?_
          refine lv_goto (tgt := 48) hx hb dX12_makes_43 (by decide) ?_
          refine th_iast E hT_c3 hS_c3 h_10 rfl (by decide) (vp_in_iff.mpr ⟨by omega, by omega⟩) dX12_makes_48 (fun H_12 locs_12 hT_12 hU_12 hS_12 => ?_)
          have hU_12 : AU 20 H_c3 H_12 (ρ a0 2) y3_4.toInt.toNat (0) := hU_12
          have hL_12 : PL H_12 (ρ a0 2) := PL.zero hI_c3.2.2.2.1 hU_12
          obtain ⟨x_13, ex_13⟩ : ∃ y : Int32, y3_4 + 1 = y := ⟨_, rfl⟩
          have q_x_13 : x_13.toInt = y3_4.toInt + 1 := i_add (k := 1) (by decide) ex_13 (by have := i_min y3_4; omega) (by have := i_max y3_4; omega)
          refine lv_iinc (v := x_13) (lv' := [(4, .int x_13), (0, .ref a0), (1, .int 0), (2, .int 12), (3, .int 0)]) hx hb dX12_makes_49 hl (k := 4) rfl (by rw [← ex_13]; rfl) (by decide) rfl (fun ls hl => ?_)
          refine lv_goto (tgt := 3) hx hb dX12_makes_52 (by decide) ?_
          exact ih_3 H_12 locs_12 _ x_13 hT_12 hS_12 (lv_sub hl [1, 2, 3, 4, 0] rfl) (by omega) ⟨(PW.q (hU_12.2 _ (th_ne (hW _ 12 0 ha0 (by decide) (by decide) (by decide)) (hW _ 12 2 ha0 (by decide) (by decide) (by decide)) (by decide))) hI_c3.1), (QS.same (ai_q (hU_12.2 _ (th_ne (hW _ 12 0 ha0 (by decide) (by decide) (by decide)) (hW _ 12 2 ha0 (by decide) (by decide) (by decide)) (by decide)))) (ai_q (hU_12.2 _ (th_ne (hW _ 12 0 ha0 (by decide) (by decide) (by decide)) (hW _ 12 2 ha0 (by decide) (by decide) (by decide)) (by decide)))) hI_c3.2.1), (QS.same (ai_q (hU_12.2 _ (th_ne (hW _ 12 0 ha0 (by decide) (by decide) (by decide)) (hW _ 12 2 ha0 (by decide) (by decide) (by decide)) (by decide)))) (ai_q (hU_12.2 _ (th_ne (hW _ 12 0 ha0 (by decide) (by decide) (by decide)) (hW _ 12 2 ha0 (by decide) (by decide) (by decide)) (by decide)))) hI_c3.2.2.1), hL_12, (PL.q (hU_12.2 _ (Ne.symm n23)) hI_c3.2.2.2.2.1), (IF.q (hU_12.2 _ (th_ne ha0 (hW _ 12 2 ha0 (by decide) (by decide) (by decide)) (by decide))) hI_c3.2.2.2.2.2)⟩ (by rw [(ai_q (hU_12.2 _ (th_ne (hW _ 12 0 ha0 (by decide) (by decide) (by decide)) (hW _ 12 2 ha0 (by decide) (by decide) (by decide)) (by decide))))]; omega) (by omega)
        · have f_11 : 3 ≤ y3_4.toInt := r_nlt rfl (by decide) c_11
          refine lv_iload hx hb dX12_makes_22 (lv_at hl 4 rfl) ?_
          refine lv_iconst (v := 5) hx hb dX12_makes_24 (by decide) ?_
          refine lv_icmp_eq (tgt := 42) hx hb dX12_makes_25 (by decide) (fun c_14 => ?_) (fun c_14 => ?_)
          · have f_14 : y3_4.toInt = 5 := r_eq rfl (by decide) c_14
            refine lv_iconst (v := 0) hx hb dX12_makes_42 (by decide) ?_
            refine lv_goto (tgt := 48) hx hb dX12_makes_43 (by decide) ?_
            refine th_iast E hT_c3 hS_c3 h_10 rfl (by decide) (vp_in_iff.mpr ⟨by omega, by omega⟩) dX12_makes_48 (fun H_15 locs_15 hT_15 hU_15 hS_15 => ?_)
            have hU_15 : AU 20 H_c3 H_15 (ρ a0 2) y3_4.toInt.toNat (0) := hU_15
            have hL_15 : PL H_15 (ρ a0 2) := PL.zero hI_c3.2.2.2.1 hU_15
            obtain ⟨x_16, ex_16⟩ : ∃ y : Int32, y3_4 + 1 = y := ⟨_, rfl⟩
            have q_x_16 : x_16.toInt = y3_4.toInt + 1 := i_add (k := 1) (by decide) ex_16 (by have := i_min y3_4; omega) (by have := i_max y3_4; omega)
            refine lv_iinc (v := x_16) (lv' := [(4, .int x_16), (0, .ref a0), (1, .int 0), (2, .int 12), (3, .int 0)]) hx hb dX12_makes_49 hl (k := 4) rfl (by rw [← ex_16]; rfl) (by decide) rfl (fun ls hl => ?_)
            refine lv_goto (tgt := 3) hx hb dX12_makes_52 (by decide) ?_
            exact ih_3 H_15 locs_15 _ x_16 hT_15 hS_15 (lv_sub hl [1, 2, 3, 4, 0] rfl) (by omega) ⟨(PW.q (hU_15.2 _ (th_ne (hW _ 12 0 ha0 (by decide) (by decide) (by decide)) (hW _ 12 2 ha0 (by decide) (by decide) (by decide)) (by decide))) hI_c3.1), (QS.same (ai_q (hU_15.2 _ (th_ne (hW _ 12 0 ha0 (by decide) (by decide) (by decide)) (hW _ 12 2 ha0 (by decide) (by decide) (by decide)) (by decide)))) (ai_q (hU_15.2 _ (th_ne (hW _ 12 0 ha0 (by decide) (by decide) (by decide)) (hW _ 12 2 ha0 (by decide) (by decide) (by decide)) (by decide)))) hI_c3.2.1), (QS.same (ai_q (hU_15.2 _ (th_ne (hW _ 12 0 ha0 (by decide) (by decide) (by decide)) (hW _ 12 2 ha0 (by decide) (by decide) (by decide)) (by decide)))) (ai_q (hU_15.2 _ (th_ne (hW _ 12 0 ha0 (by decide) (by decide) (by decide)) (hW _ 12 2 ha0 (by decide) (by decide) (by decide)) (by decide)))) hI_c3.2.2.1), hL_15, (PL.q (hU_15.2 _ (Ne.symm n23)) hI_c3.2.2.2.2.1), (IF.q (hU_15.2 _ (th_ne ha0 (hW _ 12 2 ha0 (by decide) (by decide) (by decide)) (by decide))) hI_c3.2.2.2.2.2)⟩ (by rw [(ai_q (hU_15.2 _ (th_ne (hW _ 12 0 ha0 (by decide) (by decide) (by decide)) (hW _ 12 2 ha0 (by decide) (by decide) (by decide)) (by decide))))]; omega) (by omega)
          · have f_14 : ¬ y3_4.toInt = 5 := r_ne rfl (by decide) c_14
            refine lv_iload hx hb dX12_makes_28 (lv_at hl 4 rfl) ?_
            refine lv_bipush (v := 6) hx hb dX12_makes_30 (by decide) ?_
            refine lv_icmp_eq (tgt := 42) hx hb dX12_makes_32 (by decide) (fun c_17 => ?_) (fun c_17 => ?_)
            · have f_17 : y3_4.toInt = 6 := r_eq rfl (by decide) c_17
              refine lv_iconst (v := 0) hx hb dX12_makes_42 (by decide) ?_
              refine lv_goto (tgt := 48) hx hb dX12_makes_43 (by decide) ?_
              refine th_iast E hT_c3 hS_c3 h_10 rfl (by decide) (vp_in_iff.mpr ⟨by omega, by omega⟩) dX12_makes_48 (fun H_18 locs_18 hT_18 hU_18 hS_18 => ?_)
              have hU_18 : AU 20 H_c3 H_18 (ρ a0 2) y3_4.toInt.toNat (0) := hU_18
              have hL_18 : PL H_18 (ρ a0 2) := PL.zero hI_c3.2.2.2.1 hU_18
              obtain ⟨x_19, ex_19⟩ : ∃ y : Int32, y3_4 + 1 = y := ⟨_, rfl⟩
              have q_x_19 : x_19.toInt = y3_4.toInt + 1 := i_add (k := 1) (by decide) ex_19 (by have := i_min y3_4; omega) (by have := i_max y3_4; omega)
              refine lv_iinc (v := x_19) (lv' := [(4, .int x_19), (0, .ref a0), (1, .int 0), (2, .int 12), (3, .int 0)]) hx hb dX12_makes_49 hl (k := 4) rfl (by rw [← ex_19]; rfl) (by decide) rfl (fun ls hl => ?_)
              refine lv_goto (tgt := 3) hx hb dX12_makes_52 (by decide) ?_
              exact ih_3 H_18 locs_18 _ x_19 hT_18 hS_18 (lv_sub hl [1, 2, 3, 4, 0] rfl) (by omega) ⟨(PW.q (hU_18.2 _ (th_ne (hW _ 12 0 ha0 (by decide) (by decide) (by decide)) (hW _ 12 2 ha0 (by decide) (by decide) (by decide)) (by decide))) hI_c3.1), (QS.same (ai_q (hU_18.2 _ (th_ne (hW _ 12 0 ha0 (by decide) (by decide) (by decide)) (hW _ 12 2 ha0 (by decide) (by decide) (by decide)) (by decide)))) (ai_q (hU_18.2 _ (th_ne (hW _ 12 0 ha0 (by decide) (by decide) (by decide)) (hW _ 12 2 ha0 (by decide) (by decide) (by decide)) (by decide)))) hI_c3.2.1), (QS.same (ai_q (hU_18.2 _ (th_ne (hW _ 12 0 ha0 (by decide) (by decide) (by decide)) (hW _ 12 2 ha0 (by decide) (by decide) (by decide)) (by decide)))) (ai_q (hU_18.2 _ (th_ne (hW _ 12 0 ha0 (by decide) (by decide) (by decide)) (hW _ 12 2 ha0 (by decide) (by decide) (by decide)) (by decide)))) hI_c3.2.2.1), hL_18, (PL.q (hU_18.2 _ (Ne.symm n23)) hI_c3.2.2.2.2.1), (IF.q (hU_18.2 _ (th_ne ha0 (hW _ 12 2 ha0 (by decide) (by decide) (by decide)) (by decide))) hI_c3.2.2.2.2.2)⟩ (by rw [(ai_q (hU_18.2 _ (th_ne (hW _ 12 0 ha0 (by decide) (by decide) (by decide)) (hW _ 12 2 ha0 (by decide) (by decide) (by decide)) (by decide))))]; omega) (by omega)
            · have f_17 : ¬ y3_4.toInt = 6 := r_ne rfl (by decide) c_17
              refine lv_iload hx hb dX12_makes_35 (lv_at hl 4 rfl) ?_
              refine lv_bipush (v := 12) hx hb dX12_makes_37 (by decide) ?_
              refine lv_icmp_lt (tgt := 46) hx hb dX12_makes_39 (by decide) (fun c_20 => ?_) (fun c_20 => ?_)
              · have f_20 : y3_4.toInt < 12 := r_lt rfl (by decide) c_20
                refine lv_bipush (v := (-4)) hx hb dX12_makes_46 (by decide) ?_
                refine th_iast E hT_c3 hS_c3 h_10 rfl (by decide) (vp_in_iff.mpr ⟨by omega, by omega⟩) dX12_makes_48 (fun H_21 locs_21 hT_21 hU_21 hS_21 => ?_)
                have hU_21 : AU 20 H_c3 H_21 (ρ a0 2) y3_4.toInt.toNat ((-4)) := hU_21
                have hL_21 : PL H_21 (ρ a0 2) := PL.free hI_c3.2.2.2.1 hU_21 (by omega)
                obtain ⟨x_22, ex_22⟩ : ∃ y : Int32, y3_4 + 1 = y := ⟨_, rfl⟩
                have q_x_22 : x_22.toInt = y3_4.toInt + 1 := i_add (k := 1) (by decide) ex_22 (by have := i_min y3_4; omega) (by have := i_max y3_4; omega)
                refine lv_iinc (v := x_22) (lv' := [(4, .int x_22), (0, .ref a0), (1, .int 0), (2, .int 12), (3, .int 0)]) hx hb dX12_makes_49 hl (k := 4) rfl (by rw [← ex_22]; rfl) (by decide) rfl (fun ls hl => ?_)
                refine lv_goto (tgt := 3) hx hb dX12_makes_52 (by decide) ?_
                exact ih_3 H_21 locs_21 _ x_22 hT_21 hS_21 (lv_sub hl [1, 2, 3, 4, 0] rfl) (by omega) ⟨(PW.q (hU_21.2 _ (th_ne (hW _ 12 0 ha0 (by decide) (by decide) (by decide)) (hW _ 12 2 ha0 (by decide) (by decide) (by decide)) (by decide))) hI_c3.1), (QS.same (ai_q (hU_21.2 _ (th_ne (hW _ 12 0 ha0 (by decide) (by decide) (by decide)) (hW _ 12 2 ha0 (by decide) (by decide) (by decide)) (by decide)))) (ai_q (hU_21.2 _ (th_ne (hW _ 12 0 ha0 (by decide) (by decide) (by decide)) (hW _ 12 2 ha0 (by decide) (by decide) (by decide)) (by decide)))) hI_c3.2.1), (QS.same (ai_q (hU_21.2 _ (th_ne (hW _ 12 0 ha0 (by decide) (by decide) (by decide)) (hW _ 12 2 ha0 (by decide) (by decide) (by decide)) (by decide)))) (ai_q (hU_21.2 _ (th_ne (hW _ 12 0 ha0 (by decide) (by decide) (by decide)) (hW _ 12 2 ha0 (by decide) (by decide) (by decide)) (by decide)))) hI_c3.2.2.1), hL_21, (PL.q (hU_21.2 _ (Ne.symm n23)) hI_c3.2.2.2.2.1), (IF.q (hU_21.2 _ (th_ne ha0 (hW _ 12 2 ha0 (by decide) (by decide) (by decide)) (by decide))) hI_c3.2.2.2.2.2)⟩ (by rw [(ai_q (hU_21.2 _ (th_ne (hW _ 12 0 ha0 (by decide) (by decide) (by decide)) (hW _ 12 2 ha0 (by decide) (by decide) (by decide)) (by decide))))]; omega) (by omega)
              · have f_20 : 12 ≤ y3_4.toInt := r_nlt rfl (by decide) c_20
                refine lv_iconst (v := 0) hx hb dX12_makes_42 (by decide) ?_
                refine lv_goto (tgt := 48) hx hb dX12_makes_43 (by decide) ?_
                refine th_iast E hT_c3 hS_c3 h_10 rfl (by decide) (vp_in_iff.mpr ⟨by omega, by omega⟩) dX12_makes_48 (fun H_23 locs_23 hT_23 hU_23 hS_23 => ?_)
                have hU_23 : AU 20 H_c3 H_23 (ρ a0 2) y3_4.toInt.toNat (0) := hU_23
                have hL_23 : PL H_23 (ρ a0 2) := PL.zero hI_c3.2.2.2.1 hU_23
                obtain ⟨x_24, ex_24⟩ : ∃ y : Int32, y3_4 + 1 = y := ⟨_, rfl⟩
                have q_x_24 : x_24.toInt = y3_4.toInt + 1 := i_add (k := 1) (by decide) ex_24 (by have := i_min y3_4; omega) (by have := i_max y3_4; omega)
                refine lv_iinc (v := x_24) (lv' := [(4, .int x_24), (0, .ref a0), (1, .int 0), (2, .int 12), (3, .int 0)]) hx hb dX12_makes_49 hl (k := 4) rfl (by rw [← ex_24]; rfl) (by decide) rfl (fun ls hl => ?_)
                refine lv_goto (tgt := 3) hx hb dX12_makes_52 (by decide) ?_
                exact ih_3 H_23 locs_23 _ x_24 hT_23 hS_23 (lv_sub hl [1, 2, 3, 4, 0] rfl) (by omega) ⟨(PW.q (hU_23.2 _ (th_ne (hW _ 12 0 ha0 (by decide) (by decide) (by decide)) (hW _ 12 2 ha0 (by decide) (by decide) (by decide)) (by decide))) hI_c3.1), (QS.same (ai_q (hU_23.2 _ (th_ne (hW _ 12 0 ha0 (by decide) (by decide) (by decide)) (hW _ 12 2 ha0 (by decide) (by decide) (by decide)) (by decide)))) (ai_q (hU_23.2 _ (th_ne (hW _ 12 0 ha0 (by decide) (by decide) (by decide)) (hW _ 12 2 ha0 (by decide) (by decide) (by decide)) (by decide)))) hI_c3.2.1), (QS.same (ai_q (hU_23.2 _ (th_ne (hW _ 12 0 ha0 (by decide) (by decide) (by decide)) (hW _ 12 2 ha0 (by decide) (by decide) (by decide)) (by decide)))) (ai_q (hU_23.2 _ (th_ne (hW _ 12 0 ha0 (by decide) (by decide) (by decide)) (hW _ 12 2 ha0 (by decide) (by decide) (by decide)) (by decide)))) hI_c3.2.2.1), hL_23, (PL.q (hU_23.2 _ (Ne.symm n23)) hI_c3.2.2.2.2.1), (IF.q (hU_23.2 _ (th_ne ha0 (hW _ 12 2 ha0 (by decide) (by decide) (by decide)) (by decide))) hI_c3.2.2.2.2.2)⟩ (by rw [(ai_q (hU_23.2 _ (th_ne (hW _ 12 0 ha0 (by decide) (by decide) (by decide)) (hW _ 12 2 ha0 (by decide) (by decide) (by decide)) (by decide))))]; omega) (by omega)
  refine lv_iconst (v := 0) hx hb dX12_makes_0 (by decide) ?_
  refine lv_istore (lv' := [(4, .int 0), (0, .ref a0), (1, .int 0), (2, .int 12), (3, .int 0)]) hx hb dX12_makes_1 hl (by decide) rfl (fun ls hl => ?_)
  exact L_3 _ H [] _ 0 hT hS (lv_sub hl [1, 2, 3, 4, 0] rfl) (by decide) ⟨hI.1, hI.2.1, hI.2.2.1, hI.2.2.2.1, hI.2.2.2.2.1, hI.2.2.2.2.2⟩ (by omega) (Nat.lt_succ_self _)
