/-! THE REFERENCE: weak contracts (written by wip/gen) -/
set_option maxHeartbeats 4000000 in
set_option maxRecDepth 100000 in
/-- the reference: means -/
theorem y_means_v2 (l : Launch) (D : va_G) (cI cS : ClassId) (τ : Nat → Option Nat) (ρ : Nat → Nat → Nat) (hW : WF τ ρ) (H : Heap) (hT : TH D cI cS τ ρ H) (a0 : Nat) (x1 : Int32) (x2 : Int32) (ha0 : τ a0 = some 12) (hp0 : 0 ≤ x2.toInt ∧ x2.toInt ≤ 700) : MI l D cI cS τ ρ yX12_means cX12_means 5 (some .int) 0 0 H [.ref a0, .int 1, .int x1, .int x2] (fun (r : Int32) (u : Heap) => (H = u) ∧ (x2.toInt - 128 ≤ r.toInt ∧ r.toInt ≤ x2.toInt + 127)) (fun q => False) := by
  refine MI.of (by decide) (Nat.le_of_ble_eq_true rfl) ?_
  intro p e s m args below meth c E hml hr hlk hs ls hl
  have hx := E.1
  have hb := E.2.1
  have hown := E.2.2.1
  have hts := E.2.2.2.1
  have hS : SS (fun q => False) H H [] := SS.rf
  have hl : lv_has ls 5 [(0, .ref a0), (1, .int 1), (2, .int x1), (3, .int x2)] := hl
  refine lv_iload_n hx hb dX12_means_0 rfl (lv_at hl 2 rfl) ?_
  refine lv_aload_n hx hb dX12_means_1 rfl (lv_at hl 0 rfl) ?_
  refine gf_X12_35 E hT hW ha0 dX12_means_2 (fun h_1 => ?_)
  refine lv_iload_n hx hb dX12_means_5 rfl (lv_at hl 1 rfl) ?_
  refine th_iald E hT h_1 (by decide) (vp_in_iff.mpr ⟨by decide, by decide⟩) dX12_means_6 ?_
  refine th_topi (y := ai H (ρ a0 9) 1) rfl ?_
  refine lv_topi (fun x_2 ex_2 => ?_)
  have c_x_2 := congrArg Int32.toInt ex_2.symm
  refine lv_isub hx hb dX12_means_7 ?_
  refine lv_topi (fun x_3 ex_3 => ?_)
  refine lv_iload_n hx hb dX12_means_8 rfl (lv_at hl 3 rfl) ?_
  refine lv_isub hx hb dX12_means_9 ?_
  refine lv_topi (fun x_4 ex_4 => ?_)
  refine lv_sipush (v := 128) hx hb dX12_means_10 (by decide) ?_
  refine lv_iadd hx hb dX12_means_13 ?_
  refine lv_topi (fun x_5 ex_5 => ?_)
  refine lv_sipush (v := 256) hx hb dX12_means_14 (by decide) ?_
  refine lv_irem hx hb dX12_means_17 (by decide) ?_
  refine lv_topi (fun x_6 ex_6 => ?_)
  have q_6 := i_rem (k := 256) (x := x_5) (by decide) (by decide) ex_6
  refine lv_istore (lv' := [(4, .int x_6), (0, .ref a0), (1, .int 1), (2, .int x1), (3, .int x2)]) hx hb dX12_means_18 hl (by decide) rfl (fun ls hl => ?_)
  refine lv_iload_n hx hb dX12_means_20 rfl (lv_at hl 4 rfl) ?_
  refine lv_sipush (v := 128) hx hb dX12_means_21 (by decide) ?_
  refine lv_isub hx hb dX12_means_24 ?_
  refine lv_topi (fun x_7 ex_7 => ?_)
  have q_7 : x_7.toInt = x2.toInt - 128 := i_mi rfl (by decide) ex_7 (by omega) (by omega)
  refine lv_iload hx hb dX12_means_25 (lv_at hl 0 rfl) ?_
  refine lv_if_ge (tgt := 39) hx hb dX12_means_27 (by decide) (fun c_8 => ?_) (fun c_8 => ?_)
  · have f_8 : 0 ≤ x_6.toInt := r_le (by decide) rfl c_8
    refine lv_iload hx hb dX12_means_39 (lv_at hl 0 rfl) ?_
    refine lv_iadd hx hb dX12_means_41 ?_
    refine lv_topi (fun x_9 ex_9 => ?_)
    have q_9 : x_9.toInt = x_7.toInt + x_6.toInt := i_pl rfl rfl ex_9 (by omega) (by omega)
    exact th_iret E hr hlk hs hT hS ⟨rfl, (by omega)⟩ dX12_means_42
  · have f_8 : x_6.toInt < 0 := r_nle (by decide) rfl c_8
    refine lv_iload hx hb dX12_means_30 (lv_at hl 0 rfl) ?_
    refine lv_sipush (v := 256) hx hb dX12_means_32 (by decide) ?_
    refine lv_iadd hx hb dX12_means_35 ?_
    refine lv_topi (fun x_10 ex_10 => ?_)
    have q_10 : x_10.toInt = x_6.toInt + 256 := i_pl rfl (by decide) ex_10 (by omega) (by omega)
    refine lv_goto (tgt := 41) hx hb dX12_means_36 (by decide) ?_
    refine lv_iadd hx hb dX12_means_41 ?_
    refine lv_topi (fun x_11 ex_11 => ?_)
    have q_11 : x_11.toInt = x_7.toInt + x_10.toInt := i_pl rfl rfl ex_11 (by omega) (by omega)
    exact th_iret E hr hlk hs hT hS ⟨rfl, (by omega)⟩ dX12_means_42
set_option maxHeartbeats 4000000 in
set_option maxRecDepth 100000 in
/-- the reference: set -/
theorem y_set_v31 (l : Launch) (D : va_G) (cI cS : ClassId) (τ : Nat → Option Nat) (ρ : Nat → Nat → Nat) (hW : WF τ ρ) (H : Heap) (hT : TH D cI cS τ ρ H) (a0 : Nat) (x2 : Int32) (ha0 : τ a0 = some 12) : MV l D cI cS τ ρ yX12_set cX12_set 4 none 0 0 H [.ref a0, .int 0, .int 15, .int x2] (fun (u : Heap) => (AU 985 H u (ρ a0 0) 15 x2)) (fun q => q = ρ a0 0) := by
  refine MV.of (by decide) (Nat.le_of_ble_eq_true rfl) ?_
  intro p e s m args below meth c E hml hr hlk hs ls hl
  have hx := E.1
  have hb := E.2.1
  have hown := E.2.2.1
  have hts := E.2.2.2.1
  have hS : SS (fun q => q = ρ a0 0) H H [] := SS.rf
  have hl : lv_has ls 4 [(0, .ref a0), (1, .int 0), (2, .int 15), (3, .int x2)] := hl
  refine lv_aload_n hx hb dX12_set_0 rfl (lv_at hl 0 rfl) ?_
  refine gf_X12_7 E hT hW ha0 dX12_set_1 (fun h_1 => ?_)
  refine lv_sipush (v := 288) hx hb dX12_set_4 (by decide) ?_
  refine lv_iload_n hx hb dX12_set_7 rfl (lv_at hl 1 rfl) ?_
  refine lv_imul hx hb dX12_set_8 ?_
  refine th_topi (y := 0) (by decide) ?_
  refine lv_iload_n hx hb dX12_set_9 rfl (lv_at hl 2 rfl) ?_
  refine lv_iadd hx hb dX12_set_10 ?_
  refine th_topi (y := 15) (by decide) ?_
  refine lv_iload_n hx hb dX12_set_11 rfl (lv_at hl 3 rfl) ?_
  refine th_iast E hT hS h_1 rfl (by decide) (vp_in_iff.mpr ⟨by decide, by decide⟩) dX12_set_12 (fun H_2 locs_2 hT_2 hU_2 hS_2 => ?_)
  have hU_2 : AU 985 H H_2 (ρ a0 0) 15 x2 := hU_2
  exact th_vret E hr hlk hs hT_2 hS_2 hU_2 dX12_set_13
set_option maxHeartbeats 4000000 in
set_option maxRecDepth 100000 in
/-- the reference: in -/
theorem y_in_v2 (l : Launch) (D : va_G) (cI cS : ClassId) (τ : Nat → Option Nat) (ρ : Nat → Nat → Nat) (hW : WF τ ρ) (H : Heap) (hT : TH D cI cS τ ρ H) (x0 : Int64) : MI l D cI cS τ ρ yX12_in cX12_in 6 (some .boolean) 0 0 H [.long x0, .long 4, .long 6] (fun (r : Int32) (u : Heap) => (H = u) ∧ (r = 0 ∨ r = 1) ∧ ((r.toInt = 1 ∧ 4 ≤ x0.toInt ∧ x0.toInt ≤ 6) ∨ (r.toInt = 0 ∧ (x0.toInt < 4 ∨ 6 < x0.toInt)))) (fun q => False) := by
  refine MI.of (by decide) (Nat.le_of_ble_eq_true rfl) ?_
  intro p e s m args below meth c E hml hr hlk hs ls hl
  have hx := E.1
  have hb := E.2.1
  have hown := E.2.2.1
  have hts := E.2.2.2.1
  have hS : SS (fun q => False) H H [] := SS.rf
  have hl : lv_has ls 6 [(0, .long x0), (2, .long 4), (4, .long 6)] := hl
  refine lv_lload_n hx hb dX12_in_0 rfl (lv_at hl 0 rfl) ?_
  refine lv_lload_n hx hb dX12_in_1 rfl (lv_at hl 1 rfl) ?_
  refine W.lcmp hx hb dX12_in_2 ?_
  refine lv_topi (fun x_1 ex_1 => ?_)
  have q_1 := l_cmp (a := x0) (b := (4 : Int64)) (m := x0.toInt) (n := 4) rfl (by decide) ex_1
  refine lv_if_lt (tgt := 17) hx hb dX12_in_3 (by decide) (fun c_2 => ?_) (fun c_2 => ?_)
  · have f_2 : x_1.toInt < 0 := r_lt rfl (by decide) c_2
    refine lv_iconst (v := 0) hx hb dX12_in_17 (by decide) ?_
    exact th_zret E hr hlk hs (Or.inl rfl) hT hS ⟨rfl, (Or.inl rfl), (by have : (0 : Int32).toInt = 0 := (by decide); omega)⟩ dX12_in_18
  · have f_2 : 0 ≤ x_1.toInt := r_nlt rfl (by decide) c_2
    refine lv_lload_n hx hb dX12_in_6 rfl (lv_at hl 0 rfl) ?_
    refine lv_lload hx hb dX12_in_7 (lv_at hl 2 rfl) ?_
    refine W.lcmp hx hb dX12_in_9 ?_
    refine lv_topi (fun x_3 ex_3 => ?_)
    have q_3 := l_cmp (a := x0) (b := (6 : Int64)) (m := x0.toInt) (n := 6) rfl (by decide) ex_3
    refine lv_if_gt (tgt := 17) hx hb dX12_in_10 (by decide) (fun c_4 => ?_) (fun c_4 => ?_)
    · have f_4 : 0 < x_3.toInt := r_lt (by decide) rfl c_4
      refine lv_iconst (v := 0) hx hb dX12_in_17 (by decide) ?_
      exact th_zret E hr hlk hs (Or.inl rfl) hT hS ⟨rfl, (Or.inl rfl), (by have : (0 : Int32).toInt = 0 := (by decide); omega)⟩ dX12_in_18
    · have f_4 : x_3.toInt ≤ 0 := r_nlt (by decide) rfl c_4
      refine lv_iconst (v := 1) hx hb dX12_in_13 (by decide) ?_
      refine lv_goto (tgt := 18) hx hb dX12_in_14 (by decide) ?_
      exact th_zret E hr hlk hs (Or.inr rfl) hT hS ⟨rfl, (Or.inr rfl), (by have : (1 : Int32).toInt = 1 := (by decide); omega)⟩ dX12_in_18
set_option maxHeartbeats 4000000 in
set_option maxRecDepth 100000 in
/-- the reference: get -/
theorem y_get_v28 (l : Launch) (D : va_G) (cI cS : ClassId) (τ : Nat → Option Nat) (ρ : Nat → Nat → Nat) (hW : WF τ ρ) (H : Heap) (hT : TH D cI cS τ ρ H) (a0 : Nat) (ha0 : τ a0 = some 12) : MI l D cI cS τ ρ yX12_get cX12_get 3 (some .int) 0 0 H [.ref a0, .int 0, .int 17] (fun (r : Int32) (u : Heap) => (H = u) ∧ (ai H (ρ a0 0) 17 = r)) (fun q => False) := by
  refine MI.of (by decide) (Nat.le_of_ble_eq_true rfl) ?_
  intro p e s m args below meth c E hml hr hlk hs ls hl
  have hx := E.1
  have hb := E.2.1
  have hown := E.2.2.1
  have hts := E.2.2.2.1
  have hS : SS (fun q => False) H H [] := SS.rf
  have hl : lv_has ls 3 [(0, .ref a0), (1, .int 0), (2, .int 17)] := hl
  refine lv_aload_n hx hb dX12_get_0 rfl (lv_at hl 0 rfl) ?_
  refine gf_X12_7 E hT hW ha0 dX12_get_1 (fun h_1 => ?_)
  refine lv_sipush (v := 288) hx hb dX12_get_4 (by decide) ?_
  refine lv_iload_n hx hb dX12_get_7 rfl (lv_at hl 1 rfl) ?_
  refine lv_imul hx hb dX12_get_8 ?_
  refine th_topi (y := 0) (by decide) ?_
  refine lv_iload_n hx hb dX12_get_9 rfl (lv_at hl 2 rfl) ?_
  refine lv_iadd hx hb dX12_get_10 ?_
  refine th_topi (y := 17) (by decide) ?_
  refine th_iald E hT h_1 (by decide) (vp_in_iff.mpr ⟨by decide, by decide⟩) dX12_get_11 ?_
  refine th_topi (y := ai H (ρ a0 0) 17) rfl ?_
  refine lv_topi (fun x_2 ex_2 => ?_)
  have c_x_2 := congrArg Int32.toInt ex_2.symm
  exact th_iret E hr hlk hs hT hS ⟨rfl, ex_2.symm⟩ dX12_get_12
set_option maxHeartbeats 4000000 in
set_option maxRecDepth 100000 in
/-- the reference: isWanted -/
theorem y_isWanted_v2 (l : Launch) (D : va_G) (cI cS : ClassId) (τ : Nat → Option Nat) (ρ : Nat → Nat → Nat) (hW : WF τ ρ) (H : Heap) (hT : TH D cI cS τ ρ H) (a0 : Nat) (x1 : Int32) (ha0 : τ a0 = some 12) (N : Int) (hN0 : 0 ≤ N) (hN1 : N ≤ 600) (hI : IM D ρ N H a0) : MI l D cI cS τ ρ yX12_isWanted cX12_isWanted 3 (some .boolean) 1 25 H [.ref a0, .int 0, .int x1] (fun (r : Int32) (u : Heap) => (H = u) ∧ (r = 0 ∨ r = 1) ∧ (r.toInt = 1 → (0 ≤ x1.toInt ∧ (ai H (ρ a0 0) 5).toInt ≤ x1.toInt ∧ x1.toInt ≤ N + 32))) (fun q => False) := by
  refine MI.of (by decide) (Nat.le_of_ble_eq_true rfl) ?_
  intro p e s m args below meth c E hml hr hlk hs ls hl
  have hx := E.1
  have hb := E.2.1
  have hown := E.2.2.1
  have hts := E.2.2.2.1
  have hS : SS (fun q => False) H H [] := SS.rf
  have hl : lv_has ls 3 [(0, .ref a0), (1, .int 0), (2, .int x1)] := hl
  have n01 := hI.2.2.2.2.2.1
  have n23 := hI.2.2.2.2.2.2.1
  refine lv_iload_n hx hb dX12_isWanted_0 rfl (lv_at hl 2 rfl) ?_
  obtain ⟨x_1, ex_1⟩ : ∃ y : Int64, x1.toInt64 = y := ⟨_, rfl⟩
  refine lv_i2l (v := x_1) hx hb dX12_isWanted_1 ex_1 ?_
  have q_1 : x_1.toInt = x1.toInt := by rw [← ex_1]; exact Int32.toInt_toInt64 _
  refine lv_aload_n hx hb dX12_isWanted_2 rfl (lv_at hl 0 rfl) ?_
  refine lv_iload_n hx hb dX12_isWanted_3 rfl (lv_at hl 1 rfl) ?_
  refine lv_iconst (v := 5) hx hb dX12_isWanted_4 (by decide) ?_
  refine th_Vi (As := [.int 0, .int 5]) (rest := [.long x_1]) E hml hl.1 (y_get_v22 l D cI cS τ ρ hW H hT a0 ha0) lk_X12_99 yd_X12_get hT ha0 rfl (by decide) hS (fun _ h => h.elim) ⟨by decide, by decide⟩ (Nat.le_of_ble_eq_true rfl) ⟨by decide, by decide⟩ rfl dX12_isWanted_5 (fun r_2 H_2 locs_2 p_2 hT_2 hk_2 hS_2 => ?_)
  have p_2 : H = H_2 ∧ (ai H (ρ a0 0) 5 = r_2) := p_2
  obtain ⟨rfl, p_2_0⟩ := p_2
  have b_r_2 : 0 ≤ r_2.toInt ∧ r_2.toInt ≤ N + 33 := by rw [← p_2_0]; exact hI.1 5 (by decide)
  have c_r_2 := congrArg Int32.toInt p_2_0
  obtain ⟨x_3, ex_3⟩ : ∃ y : Int64, r_2.toInt64 = y := ⟨_, rfl⟩
  refine lv_i2l (v := x_3) hx hb dX12_isWanted_8 ex_3 ?_
  have q_3 : x_3.toInt = r_2.toInt := by rw [← ex_3]; exact Int32.toInt_toInt64 _
  refine lv_aload_n hx hb dX12_isWanted_9 rfl (lv_at hl 0 rfl) ?_
  refine lv_iload_n hx hb dX12_isWanted_10 rfl (lv_at hl 1 rfl) ?_
  refine lv_bipush (v := 7) hx hb dX12_isWanted_11 (by decide) ?_
  refine th_Vi (As := [.int 0, .int 7]) (rest := [.long x_3, .long x_1]) E hml hl.1 (y_get_v23 l D cI cS τ ρ hW H hT_2 a0 ha0) lk_X12_99 yd_X12_get hT_2 ha0 rfl (by decide) hS_2 (fun _ h => h.elim) ⟨by decide, by decide⟩ (Nat.le_of_ble_eq_true rfl) ⟨by decide, by decide⟩ rfl dX12_isWanted_13 (fun r_4 H_4 locs_4 p_4 hT_4 hk_4 hS_4 => ?_)
  have p_4 : H = H_4 ∧ (ai H (ρ a0 0) 7 = r_4) := p_4
  obtain ⟨rfl, p_4_0⟩ := p_4
  have b_r_4 : 0 ≤ r_4.toInt ∧ r_4.toInt ≤ N + 33 := by rw [← p_4_0]; exact hI.1 7 (by decide)
  have c_r_4 := congrArg Int32.toInt p_4_0
  refine lv_iconst (v := 1) hx hb dX12_isWanted_16 (by decide) ?_
  refine lv_isub hx hb dX12_isWanted_17 ?_
  refine lv_topi (fun x_5 ex_5 => ?_)
  have q_5 : x_5.toInt = r_4.toInt - 1 := i_mi rfl (by decide) ex_5 (by omega) (by omega)
  obtain ⟨x_6, ex_6⟩ : ∃ y : Int64, x_5.toInt64 = y := ⟨_, rfl⟩
  refine lv_i2l (v := x_6) hx hb dX12_isWanted_18 ex_6 ?_
  have q_6 : x_6.toInt = x_5.toInt := by rw [← ex_6]; exact Int32.toInt_toInt64 _
  refine th_Si (As := [.long x_1, .long x_3, .long x_6]) (rest := []) E hml hl.1 (y_in l D cI cS τ ρ hW H hT_4 x_1 x_3 x_6) lk_X12_54 yd_X12_in hS_4 (fun _ h => h.elim) ⟨by decide, by decide⟩ (Nat.le_of_ble_eq_true rfl) ⟨by decide, by decide⟩ rfl dX12_isWanted_19 (fun r_7 H_7 locs_7 p_7 hT_7 hk_7 hS_7 => ?_)
  have p_7 : H = H_7 ∧ (r_7 = 0 ∨ r_7 = 1) ∧ ((r_7.toInt = 1 ∧ x_3.toInt ≤ x_1.toInt ∧ x_1.toInt ≤ x_6.toInt) ∨ (r_7.toInt = 0 ∧ (x_1.toInt < x_3.toInt ∨ x_6.toInt < x_1.toInt))) := p_7
  obtain ⟨rfl, p_7_0, p_7_1⟩ := p_7
  have z_7 := b_iv p_7_0
  exact th_zret E hr hlk hs p_7_0 hT_7 hS_7 ⟨rfl, p_7_0, (by have : (ai H (ρ a0 0) 5).toInt = (r_2 : Int32).toInt := congrArg Int32.toInt p_2_0; omega)⟩ dX12_isWanted_22
set_option maxHeartbeats 4000000 in
set_option maxRecDepth 100000 in
/-- the reference: set -/
theorem y_set_v32 (l : Launch) (D : va_G) (cI cS : ClassId) (τ : Nat → Option Nat) (ρ : Nat → Nat → Nat) (hW : WF τ ρ) (H : Heap) (hT : TH D cI cS τ ρ H) (a0 : Nat) (x2 : Int32) (ha0 : τ a0 = some 12) : MV l D cI cS τ ρ yX12_set cX12_set 4 none 0 0 H [.ref a0, .int 0, .int 17, .int x2] (fun (u : Heap) => (AU 985 H u (ρ a0 0) 17 x2)) (fun q => q = ρ a0 0) := by
  refine MV.of (by decide) (Nat.le_of_ble_eq_true rfl) ?_
  intro p e s m args below meth c E hml hr hlk hs ls hl
  have hx := E.1
  have hb := E.2.1
  have hown := E.2.2.1
  have hts := E.2.2.2.1
  have hS : SS (fun q => q = ρ a0 0) H H [] := SS.rf
  have hl : lv_has ls 4 [(0, .ref a0), (1, .int 0), (2, .int 17), (3, .int x2)] := hl
  refine lv_aload_n hx hb dX12_set_0 rfl (lv_at hl 0 rfl) ?_
  refine gf_X12_7 E hT hW ha0 dX12_set_1 (fun h_1 => ?_)
  refine lv_sipush (v := 288) hx hb dX12_set_4 (by decide) ?_
  refine lv_iload_n hx hb dX12_set_7 rfl (lv_at hl 1 rfl) ?_
  refine lv_imul hx hb dX12_set_8 ?_
  refine th_topi (y := 0) (by decide) ?_
  refine lv_iload_n hx hb dX12_set_9 rfl (lv_at hl 2 rfl) ?_
  refine lv_iadd hx hb dX12_set_10 ?_
  refine th_topi (y := 17) (by decide) ?_
  refine lv_iload_n hx hb dX12_set_11 rfl (lv_at hl 3 rfl) ?_
  refine th_iast E hT hS h_1 rfl (by decide) (vp_in_iff.mpr ⟨by decide, by decide⟩) dX12_set_12 (fun H_2 locs_2 hT_2 hU_2 hS_2 => ?_)
  have hU_2 : AU 985 H H_2 (ρ a0 0) 17 x2 := hU_2
  exact th_vret E hr hlk hs hT_2 hS_2 hU_2 dX12_set_13
set_option maxHeartbeats 4000000 in
set_option maxRecDepth 100000 in
/-- the reference: set -/
theorem y_set_v33 (l : Launch) (D : va_G) (cI cS : ClassId) (τ : Nat → Option Nat) (ρ : Nat → Nat → Nat) (hW : WF τ ρ) (H : Heap) (hT : TH D cI cS τ ρ H) (a0 : Nat) (x2 : Int32) (ha0 : τ a0 = some 12) : MV l D cI cS τ ρ yX12_set cX12_set 4 none 0 0 H [.ref a0, .int 0, .int 5, .int x2] (fun (u : Heap) => (AU 985 H u (ρ a0 0) 5 x2)) (fun q => q = ρ a0 0) := by
  refine MV.of (by decide) (Nat.le_of_ble_eq_true rfl) ?_
  intro p e s m args below meth c E hml hr hlk hs ls hl
  have hx := E.1
  have hb := E.2.1
  have hown := E.2.2.1
  have hts := E.2.2.2.1
  have hS : SS (fun q => q = ρ a0 0) H H [] := SS.rf
  have hl : lv_has ls 4 [(0, .ref a0), (1, .int 0), (2, .int 5), (3, .int x2)] := hl
  refine lv_aload_n hx hb dX12_set_0 rfl (lv_at hl 0 rfl) ?_
  refine gf_X12_7 E hT hW ha0 dX12_set_1 (fun h_1 => ?_)
  refine lv_sipush (v := 288) hx hb dX12_set_4 (by decide) ?_
  refine lv_iload_n hx hb dX12_set_7 rfl (lv_at hl 1 rfl) ?_
  refine lv_imul hx hb dX12_set_8 ?_
  refine th_topi (y := 0) (by decide) ?_
  refine lv_iload_n hx hb dX12_set_9 rfl (lv_at hl 2 rfl) ?_
  refine lv_iadd hx hb dX12_set_10 ?_
  refine th_topi (y := 5) (by decide) ?_
  refine lv_iload_n hx hb dX12_set_11 rfl (lv_at hl 3 rfl) ?_
  refine th_iast E hT hS h_1 rfl (by decide) (vp_in_iff.mpr ⟨by decide, by decide⟩) dX12_set_12 (fun H_2 locs_2 hT_2 hU_2 hS_2 => ?_)
  have hU_2 : AU 985 H H_2 (ρ a0 0) 5 x2 := hU_2
  exact th_vret E hr hlk hs hT_2 hS_2 hU_2 dX12_set_13
set_option maxHeartbeats 4000000 in
set_option maxRecDepth 100000 in
/-- the reference: set -/
theorem y_set_v34 (l : Launch) (D : va_G) (cI cS : ClassId) (τ : Nat → Option Nat) (ρ : Nat → Nat → Nat) (hW : WF τ ρ) (H : Heap) (hT : TH D cI cS τ ρ H) (a0 : Nat) (ha0 : τ a0 = some 12) : MV l D cI cS τ ρ yX12_set cX12_set 4 none 0 0 H [.ref a0, .int 0, .int 0, .int 8] (fun (u : Heap) => (AU 985 H u (ρ a0 0) 0 (8))) (fun q => q = ρ a0 0) := by
  refine MV.of (by decide) (Nat.le_of_ble_eq_true rfl) ?_
  intro p e s m args below meth c E hml hr hlk hs ls hl
  have hx := E.1
  have hb := E.2.1
  have hown := E.2.2.1
  have hts := E.2.2.2.1
  have hS : SS (fun q => q = ρ a0 0) H H [] := SS.rf
  have hl : lv_has ls 4 [(0, .ref a0), (1, .int 0), (2, .int 0), (3, .int 8)] := hl
  refine lv_aload_n hx hb dX12_set_0 rfl (lv_at hl 0 rfl) ?_
  refine gf_X12_7 E hT hW ha0 dX12_set_1 (fun h_1 => ?_)
  refine lv_sipush (v := 288) hx hb dX12_set_4 (by decide) ?_
  refine lv_iload_n hx hb dX12_set_7 rfl (lv_at hl 1 rfl) ?_
  refine lv_imul hx hb dX12_set_8 ?_
  refine th_topi (y := 0) (by decide) ?_
  refine lv_iload_n hx hb dX12_set_9 rfl (lv_at hl 2 rfl) ?_
  refine lv_iadd hx hb dX12_set_10 ?_
  refine th_topi (y := 0) (by decide) ?_
  refine lv_iload_n hx hb dX12_set_11 rfl (lv_at hl 3 rfl) ?_
  refine th_iast E hT hS h_1 rfl (by decide) (vp_in_iff.mpr ⟨by decide, by decide⟩) dX12_set_12 (fun H_2 locs_2 hT_2 hU_2 hS_2 => ?_)
  have hU_2 : AU 985 H H_2 (ρ a0 0) 0 (8) := hU_2
  exact th_vret E hr hlk hs hT_2 hS_2 hU_2 dX12_set_13
set_option maxHeartbeats 4000000 in
set_option maxRecDepth 100000 in
/-- the reference: set -/
theorem y_set_v35 (l : Launch) (D : va_G) (cI cS : ClassId) (τ : Nat → Option Nat) (ρ : Nat → Nat → Nat) (hW : WF τ ρ) (H : Heap) (hT : TH D cI cS τ ρ H) (a0 : Nat) (ha0 : τ a0 = some 12) : MV l D cI cS τ ρ yX12_set cX12_set 4 none 0 0 H [.ref a0, .int 0, .int 0, .int 7] (fun (u : Heap) => (AU 985 H u (ρ a0 0) 0 (7))) (fun q => q = ρ a0 0) := by
  refine MV.of (by decide) (Nat.le_of_ble_eq_true rfl) ?_
  intro p e s m args below meth c E hml hr hlk hs ls hl
  have hx := E.1
  have hb := E.2.1
  have hown := E.2.2.1
  have hts := E.2.2.2.1
  have hS : SS (fun q => q = ρ a0 0) H H [] := SS.rf
  have hl : lv_has ls 4 [(0, .ref a0), (1, .int 0), (2, .int 0), (3, .int 7)] := hl
  refine lv_aload_n hx hb dX12_set_0 rfl (lv_at hl 0 rfl) ?_
  refine gf_X12_7 E hT hW ha0 dX12_set_1 (fun h_1 => ?_)
  refine lv_sipush (v := 288) hx hb dX12_set_4 (by decide) ?_
  refine lv_iload_n hx hb dX12_set_7 rfl (lv_at hl 1 rfl) ?_
  refine lv_imul hx hb dX12_set_8 ?_
  refine th_topi (y := 0) (by decide) ?_
  refine lv_iload_n hx hb dX12_set_9 rfl (lv_at hl 2 rfl) ?_
  refine lv_iadd hx hb dX12_set_10 ?_
  refine th_topi (y := 0) (by decide) ?_
  refine lv_iload_n hx hb dX12_set_11 rfl (lv_at hl 3 rfl) ?_
  refine th_iast E hT hS h_1 rfl (by decide) (vp_in_iff.mpr ⟨by decide, by decide⟩) dX12_set_12 (fun H_2 locs_2 hT_2 hU_2 hS_2 => ?_)
  have hU_2 : AU 985 H H_2 (ρ a0 0) 0 (7) := hU_2
  exact th_vret E hr hlk hs hT_2 hS_2 hU_2 dX12_set_13
set_option maxHeartbeats 4000000 in
set_option maxRecDepth 100000 in
/-- the reference: keeps -/
theorem y_keeps_v2 (l : Launch) (D : va_G) (cI cS : ClassId) (τ : Nat → Option Nat) (ρ : Nat → Nat → Nat) (hW : WF τ ρ) (H : Heap) (hT : TH D cI cS τ ρ H) (a0 : Nat) (x1 : Int32) (ha0 : τ a0 = some 12) (N : Int) (hN0 : 0 ≤ N) (hN1 : N ≤ 600) (hI : IM D ρ N H a0) (hp0 : -128 ≤ x1.toInt ∧ x1.toInt ≤ 827) : MV l D cI cS τ ρ yX12_keeps cX12_keeps 5 none 2 47 H [.ref a0, .int 0, .int x1] (fun (u : Heap) => (IM D ρ N u a0) ∧ ((ai H (ρ a0 0) 976).toInt ≤ (ai u (ρ a0 0) 976).toInt)) (fun q => q = ρ a0 0) := by
  refine MV.of (by decide) (Nat.le_of_ble_eq_true rfl) ?_
  intro p e s m args below meth c E hml hr hlk hs ls hl
  have hx := E.1
  have hb := E.2.1
  have hown := E.2.2.1
  have hts := E.2.2.2.1
  have hS : SS (fun q => q = ρ a0 0) H H [] := SS.rf
  have hl : lv_has ls 5 [(0, .ref a0), (1, .int 0), (2, .int x1)] := hl
  have n01 := hI.2.2.2.2.2.1
  have n23 := hI.2.2.2.2.2.2.1
  have L_135 : ∀ (n : Nat) (H_c135 : Heap) (lc_c135 : List Loc) (ls : Array Slot) (y135_3 : Int32) (g135_0 : Int32), TH D cI cS τ ρ H_c135 → SS (fun q => q = ρ a0 0) H H_c135 lc_c135 → lv_has ls 5 [(0, .ref a0), (1, .int 0), (2, .int x1), (3, .int y135_3)] → -128 ≤ x1.toInt → x1.toInt ≤ 827 → 0 ≤ y135_3.toInt → ai H_c135 (ρ a0 0) 5 = g135_0 → IM D ρ N H_c135 a0 → (ai H (ρ a0 0) 976).toInt ≤ (ai H_c135 (ρ a0 0) 976).toInt → (N + 33 - g135_0.toInt).toNat < n → W p l e (rmO 2 47) s m args below meth c H_c135 lc_c135 0 0 (MQ below (va_Qv (fun (u : Heap) => (IM D ρ N u a0) ∧ ((ai H (ρ a0 0) 976).toInt ≤ (ai u (ρ a0 0) 976).toInt)) (Bt D cI cS τ ρ H) (fun q => q = ρ a0 0)) args s 0 0 (fun q => q = ρ a0 0)) (F0 m 135 ls []) := by
    intro n
    induction n with
    | zero => intro H_c135 lc_c135 ls y135_3 g135_0 hT_c135 hS_c135 hl ly135_2 uy135_2 ly135_3 hg135_0 hI_c135 hmn_c135 hm; exact absurd hm (Nat.not_lt_zero _)
    | succ n ih_135 =>
      intro H_c135 lc_c135 ls y135_3 g135_0 hT_c135 hS_c135 hl ly135_2 uy135_2 ly135_3 hg135_0 hI_c135 hmn_c135 hm_135
      have bb_g135_0 : 0 ≤ g135_0.toInt ∧ g135_0.toInt ≤ N + 33 := by rw [← hg135_0]; exact hI_c135.1 5 (by decide)
      have cg_g135_0 := congrArg Int32.toInt hg135_0
      refine lv_aload_n hx hb dX12_keeps_135 rfl (lv_at hl 0 rfl) ?_
      refine lv_iload_n hx hb dX12_keeps_136 rfl (lv_at hl 1 rfl) ?_
      refine lv_aload_n hx hb dX12_keeps_137 rfl (lv_at hl 0 rfl) ?_
      refine lv_iload_n hx hb dX12_keeps_138 rfl (lv_at hl 1 rfl) ?_
      refine lv_iconst (v := 5) hx hb dX12_keeps_139 (by decide) ?_
      refine th_Vi (As := [.int 0, .int 5]) (rest := [.int 0, .ref a0]) E hml hl.1 (y_get_v22 l D cI cS τ ρ hW H_c135 hT_c135 a0 ha0) lk_X12_99 yd_X12_get hT_c135 ha0 rfl (by decide) hS_c135 (fun _ h => h.elim) ⟨by decide, by decide⟩ (Nat.le_of_ble_eq_true rfl) ⟨by decide, by decide⟩ rfl dX12_keeps_140 (fun r_1 H_1 locs_1 p_1 hT_1 hk_1 hS_1 => ?_)
      have p_1 : H_c135 = H_1 ∧ (ai H_c135 (ρ a0 0) 5 = r_1) := p_1
      obtain ⟨rfl, p_1_0⟩ := p_1
      have s_1 : r_1 = g135_0 := p_1_0.symm.trans hg135_0
      refine th_topi s_1 ?_
      refine th_Vi (As := [.int 0, .int g135_0]) (rest := []) E hml hl.1 (y_isHeld_v2 l D cI cS τ ρ hW H_c135 hT_1 a0 g135_0 ha0 (by omega)) lk_X12_118 yd_X12_isHeld hT_1 ha0 rfl (by decide) hS_1 (fun _ h => h.elim) ⟨by decide, by decide⟩ (Nat.le_of_ble_eq_true rfl) ⟨by decide, by decide⟩ rfl dX12_keeps_143 (fun r_2 H_2 locs_2 p_2 hT_2 hk_2 hS_2 => ?_)
      have p_2 : H_c135 = H_2 ∧ (r_2 = 0 ∨ r_2 = 1) ∧ ((r_2.toInt = 1 ∧ heldP 0 H_c135 (ρ a0 0) g135_0) ∨ (r_2.toInt = 0 ∧ ¬ heldP 0 H_c135 (ρ a0 0) g135_0)) := p_2
      obtain ⟨rfl, p_2_0, p_2_1⟩ := p_2
      have z_2 := b_iv p_2_0
      refine lv_if_eq (tgt := 166) hx hb dX12_keeps_146 (by decide) (fun c_3 => ?_) (fun c_3 => ?_)
      · have f_3 : r_2.toInt = 0 := r_eq rfl (by decide) c_3
        refine lv_aload_n hx hb dX12_keeps_166 rfl (lv_at hl 0 rfl) ?_
        refine lv_iload_n hx hb dX12_keeps_167 rfl (lv_at hl 1 rfl) ?_
        refine lv_iconst (v := 5) hx hb dX12_keeps_168 (by decide) ?_
        refine th_Vi (As := [.int 0, .int 5]) (rest := []) E hml hl.1 (y_get_v22 l D cI cS τ ρ hW H_c135 hT_2 a0 ha0) lk_X12_99 yd_X12_get hT_2 ha0 rfl (by decide) hS_2 (fun _ h => h.elim) ⟨by decide, by decide⟩ (Nat.le_of_ble_eq_true rfl) ⟨by decide, by decide⟩ rfl dX12_keeps_169 (fun r_4 H_4 locs_4 p_4 hT_4 hk_4 hS_4 => ?_)
        have p_4 : H_c135 = H_4 ∧ (ai H_c135 (ρ a0 0) 5 = r_4) := p_4
        obtain ⟨rfl, p_4_0⟩ := p_4
        have s_4 : r_4 = g135_0 := p_4_0.symm.trans hg135_0
        refine th_topi s_4 ?_
        refine lv_aload_n hx hb dX12_keeps_172 rfl (lv_at hl 0 rfl) ?_
        refine lv_iload_n hx hb dX12_keeps_173 rfl (lv_at hl 1 rfl) ?_
        refine lv_bipush (v := 17) hx hb dX12_keeps_174 (by decide) ?_
        refine th_Vi (As := [.int 0, .int 17]) (rest := [.int g135_0]) E hml hl.1 (y_get_v28 l D cI cS τ ρ hW H_c135 hT_4 a0 ha0) lk_X12_99 yd_X12_get hT_4 ha0 rfl (by decide) hS_4 (fun _ h => h.elim) ⟨by decide, by decide⟩ (Nat.le_of_ble_eq_true rfl) ⟨by decide, by decide⟩ rfl dX12_keeps_176 (fun r_5 H_5 locs_5 p_5 hT_5 hk_5 hS_5 => ?_)
        have p_5 : H_c135 = H_5 ∧ (ai H_c135 (ρ a0 0) 17 = r_5) := p_5
        obtain ⟨rfl, p_5_0⟩ := p_5
        have b_r_5 : (-2147483648 : Int) ≤ r_5.toInt ∧ r_5.toInt ≤ N + 32 := by rw [← p_5_0]; exact hI_c135.1 17 (by decide)
        have c_r_5 := congrArg Int32.toInt p_5_0
        refine lv_icmp_ne (tgt := 231) hx hb dX12_keeps_179 (by decide) (fun c_6 => ?_) (fun c_6 => ?_)
        · have f_6 : ¬ g135_0.toInt = r_5.toInt := r_ne rfl rfl c_6
          exact th_vret E hr hlk hs hT_5 hS_5 ⟨⟨hI_c135.1, hI_c135.2.1, hI_c135.2.2.1, hI_c135.2.2.2.1, hI_c135.2.2.2.2.1, hI_c135.2.2.2.2.2⟩, (by omega)⟩ dX12_keeps_231
        · have f_6 : g135_0.toInt = r_5.toInt := r_eq rfl rfl c_6
          refine lv_aload_n hx hb dX12_keeps_182 rfl (lv_at hl 0 rfl) ?_
          refine lv_iload_n hx hb dX12_keeps_183 rfl (lv_at hl 1 rfl) ?_
          refine lv_iconst (v := 5) hx hb dX12_keeps_184 (by decide) ?_
          refine lv_aload_n hx hb dX12_keeps_185 rfl (lv_at hl 0 rfl) ?_
          refine lv_iload_n hx hb dX12_keeps_186 rfl (lv_at hl 1 rfl) ?_
          refine lv_iconst (v := 5) hx hb dX12_keeps_187 (by decide) ?_
          refine th_Vi (As := [.int 0, .int 5]) (rest := [.int 5, .int 0, .ref a0]) E hml hl.1 (y_get_v22 l D cI cS τ ρ hW H_c135 hT_5 a0 ha0) lk_X12_99 yd_X12_get hT_5 ha0 rfl (by decide) hS_5 (fun _ h => h.elim) ⟨by decide, by decide⟩ (Nat.le_of_ble_eq_true rfl) ⟨by decide, by decide⟩ rfl dX12_keeps_188 (fun r_7 H_7 locs_7 p_7 hT_7 hk_7 hS_7 => ?_)
          have p_7 : H_c135 = H_7 ∧ (ai H_c135 (ρ a0 0) 5 = r_7) := p_7
          obtain ⟨rfl, p_7_0⟩ := p_7
          have s_7 : r_7 = g135_0 := p_7_0.symm.trans hg135_0
          refine th_topi s_7 ?_
          refine lv_iconst (v := 1) hx hb dX12_keeps_191 (by decide) ?_
          refine lv_iadd hx hb dX12_keeps_192 ?_
          refine lv_topi (fun x_8 ex_8 => ?_)
          have q_8 : x_8.toInt = g135_0.toInt + 1 := i_pl rfl (by decide) ex_8 (by omega) (by omega)
          refine th_Vv (As := [.int 0, .int 5, .int x_8]) (rest := []) E hml hl.1 (y_set_v33 l D cI cS τ ρ hW H_c135 hT_7 a0 x_8 ha0) lk_X12_95 yd_X12_set hT_7 ha0 rfl (by decide) hS_7 (fun q h => h) ⟨by decide, by decide⟩ (Nat.le_of_ble_eq_true rfl) ⟨by decide, by decide⟩ rfl dX12_keeps_193 (fun H_9 locs_9 p_9 hT_9 hk_9 hS_9 => ?_)
          have p_9 : (AU 985 H_c135 H_9 (ρ a0 0) 5 x_8) := p_9
          have hW_9 : PW N H_9 (ρ a0 0) := PW.put hI_c135.1 p_9 (by show (0 : Int) ≤ x_8.toInt; omega) (by show x_8.toInt ≤ (N + 33 : Int); omega)
          refine lv_aload_n hx hb dX12_keeps_196 rfl (lv_at hl 0 rfl) ?_
          refine lv_iload_n hx hb dX12_keeps_197 rfl (lv_at hl 1 rfl) ?_
          refine lv_iconst (v := 0) hx hb dX12_keeps_198 (by decide) ?_
          refine th_Vi (As := [.int 0, .int 0]) (rest := []) E hml hl.1 (y_get_v21 l D cI cS τ ρ hW H_9 hT_9 a0 ha0) lk_X12_99 yd_X12_get hT_9 ha0 rfl (by decide) hS_9 (fun _ h => h.elim) ⟨by decide, by decide⟩ (Nat.le_of_ble_eq_true rfl) ⟨by decide, by decide⟩ rfl dX12_keeps_199 (fun r_10 H_10 locs_10 p_10 hT_10 hk_10 hS_10 => ?_)
          have p_10 : H_9 = H_10 ∧ (ai H_9 (ρ a0 0) 0 = r_10) := p_10
          obtain ⟨rfl, p_10_0⟩ := p_10
          have t_10 : ai H_c135 (ρ a0 0) 0 = r_10 := (AU.o p_9 (by decide) (by decide)).symm.trans p_10_0
          have c_r_10 := congrArg Int32.toInt t_10
          refine lv_istore_n (lv' := [(3, .int r_10), (0, .ref a0), (1, .int 0), (2, .int x1)]) hx hb dX12_keeps_202 rfl hl (by decide) rfl (fun ls hl => ?_)
          refine lv_aload_n hx hb dX12_keeps_203 rfl (lv_at hl 1 rfl) ?_
          refine lv_iload_n hx hb dX12_keeps_204 rfl (lv_at hl 2 rfl) ?_
          refine lv_iconst (v := 0) hx hb dX12_keeps_205 (by decide) ?_
          refine lv_iload_n hx hb dX12_keeps_206 rfl (lv_at hl 0 rfl) ?_
          refine lv_iconst (v := 4) hx hb dX12_keeps_207 (by decide) ?_
          refine lv_icmp_ne (tgt := 216) hx hb dX12_keeps_208 (by decide) (fun c_11 => ?_) (fun c_11 => ?_)
          · have f_11 : ¬ r_10.toInt = 4 := r_ne rfl (by decide) c_11
            refine lv_iload_n hx hb dX12_keeps_216 rfl (lv_at hl 0 rfl) ?_
            refine lv_iconst (v := 5) hx hb dX12_keeps_217 (by decide) ?_
            refine lv_icmp_ne (tgt := 226) hx hb dX12_keeps_218 (by decide) (fun c_12 => ?_) (fun c_12 => ?_)
            · have f_12 : ¬ r_10.toInt = 5 := r_ne rfl (by decide) c_12
              refine lv_bipush (v := 10) hx hb dX12_keeps_226 (by decide) ?_
              refine th_Vv (As := [.int 0, .int 0, .int 10]) (rest := []) E hml hl.1 (y_set_v27 l D cI cS τ ρ hW H_9 hT_10 a0 ha0) lk_X12_95 yd_X12_set hT_10 ha0 rfl (by decide) hS_10 (fun q h => h) ⟨by decide, by decide⟩ (Nat.le_of_ble_eq_true rfl) ⟨by decide, by decide⟩ rfl dX12_keeps_228 (fun H_13 locs_13 p_13 hT_13 hk_13 hS_13 => ?_)
              have p_13 : (AU 985 H_9 H_13 (ρ a0 0) 0 (10)) := p_13
              have hW_13 : PW N H_13 (ρ a0 0) := PW.put hW_9 p_13 (by show (-2147483648 : Int) ≤ _; exact i_min _) (by show _ ≤ (2147483647 : Int); exact i_max _)
              exact th_vret E hr hlk hs hT_13 hS_13 ⟨⟨hW_13, (QS.of (s := (10 : Int32)) (t := (ai H_c135 (ρ a0 0) 2 : Int32)) (AU.s p_13 (by decide)) (Eq.trans (AU.o p_13 (by decide) (by decide)) (AU.o p_9 (by decide) (by decide))) (by have j := hI_c135.2.1; unfold QS at j; have : (ai H_c135 (ρ a0 0) 0).toInt = (r_10 : Int32).toInt := congrArg Int32.toInt t_10; have : (10 : Int32).toInt = 10 := (by decide); omega)), (QS.same (Eq.trans (AU.o p_13 (by decide) (by decide)) (AU.o p_9 (by decide) (by decide))) (Eq.trans (AU.o p_13 (by decide) (by decide)) (AU.o p_9 (by decide) (by decide))) hI_c135.2.2.1), (PL.q (p_13.2 _ (th_ne (hW _ 12 2 ha0 (by decide) (by decide) (by decide)) (hW _ 12 0 ha0 (by decide) (by decide) (by decide)) (by decide))) (PL.q (p_9.2 _ (th_ne (hW _ 12 2 ha0 (by decide) (by decide) (by decide)) (hW _ 12 0 ha0 (by decide) (by decide) (by decide)) (by decide))) hI_c135.2.2.2.1)), (PL.q (p_13.2 _ (th_ne (hW _ 12 3 ha0 (by decide) (by decide) (by decide)) (hW _ 12 0 ha0 (by decide) (by decide) (by decide)) (by decide))) (PL.q (p_9.2 _ (th_ne (hW _ 12 3 ha0 (by decide) (by decide) (by decide)) (hW _ 12 0 ha0 (by decide) (by decide) (by decide)) (by decide))) hI_c135.2.2.2.2.1)), (IF.q (p_13.2 _ (th_ne ha0 (hW _ 12 0 ha0 (by decide) (by decide) (by decide)) (by decide))) (IF.q (p_9.2 _ (th_ne ha0 (hW _ 12 0 ha0 (by decide) (by decide) (by decide)) (by decide))) hI_c135.2.2.2.2.2))⟩, (by rw [(Eq.trans (AU.o p_13 (by decide) (by decide)) (AU.o p_9 (by decide) (by decide)))]; omega)⟩ dX12_keeps_231
            · have f_12 : r_10.toInt = 5 := r_eq rfl (by decide) c_12
              refine lv_bipush (v := 8) hx hb dX12_keeps_221 (by decide) ?_
              refine lv_goto (tgt := 228) hx hb dX12_keeps_223 (by decide) ?_
              refine th_Vv (As := [.int 0, .int 0, .int 8]) (rest := []) E hml hl.1 (y_set_v34 l D cI cS τ ρ hW H_9 hT_10 a0 ha0) lk_X12_95 yd_X12_set hT_10 ha0 rfl (by decide) hS_10 (fun q h => h) ⟨by decide, by decide⟩ (Nat.le_of_ble_eq_true rfl) ⟨by decide, by decide⟩ rfl dX12_keeps_228 (fun H_14 locs_14 p_14 hT_14 hk_14 hS_14 => ?_)
              have p_14 : (AU 985 H_9 H_14 (ρ a0 0) 0 (8)) := p_14
              have hW_14 : PW N H_14 (ρ a0 0) := PW.put hW_9 p_14 (by show (-2147483648 : Int) ≤ _; exact i_min _) (by show _ ≤ (2147483647 : Int); exact i_max _)
              exact th_vret E hr hlk hs hT_14 hS_14 ⟨⟨hW_14, (QS.of (s := (8 : Int32)) (t := (ai H_c135 (ρ a0 0) 2 : Int32)) (AU.s p_14 (by decide)) (Eq.trans (AU.o p_14 (by decide) (by decide)) (AU.o p_9 (by decide) (by decide))) (by have j := hI_c135.2.1; unfold QS at j; have : (ai H_c135 (ρ a0 0) 0).toInt = (r_10 : Int32).toInt := congrArg Int32.toInt t_10; have : (8 : Int32).toInt = 8 := (by decide); omega)), (QS.same (Eq.trans (AU.o p_14 (by decide) (by decide)) (AU.o p_9 (by decide) (by decide))) (Eq.trans (AU.o p_14 (by decide) (by decide)) (AU.o p_9 (by decide) (by decide))) hI_c135.2.2.1), (PL.q (p_14.2 _ (th_ne (hW _ 12 2 ha0 (by decide) (by decide) (by decide)) (hW _ 12 0 ha0 (by decide) (by decide) (by decide)) (by decide))) (PL.q (p_9.2 _ (th_ne (hW _ 12 2 ha0 (by decide) (by decide) (by decide)) (hW _ 12 0 ha0 (by decide) (by decide) (by decide)) (by decide))) hI_c135.2.2.2.1)), (PL.q (p_14.2 _ (th_ne (hW _ 12 3 ha0 (by decide) (by decide) (by decide)) (hW _ 12 0 ha0 (by decide) (by decide) (by decide)) (by decide))) (PL.q (p_9.2 _ (th_ne (hW _ 12 3 ha0 (by decide) (by decide) (by decide)) (hW _ 12 0 ha0 (by decide) (by decide) (by decide)) (by decide))) hI_c135.2.2.2.2.1)), (IF.q (p_14.2 _ (th_ne ha0 (hW _ 12 0 ha0 (by decide) (by decide) (by decide)) (by decide))) (IF.q (p_9.2 _ (th_ne ha0 (hW _ 12 0 ha0 (by decide) (by decide) (by decide)) (by decide))) hI_c135.2.2.2.2.2))⟩, (by rw [(Eq.trans (AU.o p_14 (by decide) (by decide)) (AU.o p_9 (by decide) (by decide)))]; omega)⟩ dX12_keeps_231
          · have f_11 : r_10.toInt = 4 := r_eq rfl (by decide) c_11
            refine lv_bipush (v := 7) hx hb dX12_keeps_211 (by decide) ?_
            refine lv_goto (tgt := 228) hx hb dX12_keeps_213 (by decide) ?_
            refine th_Vv (As := [.int 0, .int 0, .int 7]) (rest := []) E hml hl.1 (y_set_v35 l D cI cS τ ρ hW H_9 hT_10 a0 ha0) lk_X12_95 yd_X12_set hT_10 ha0 rfl (by decide) hS_10 (fun q h => h) ⟨by decide, by decide⟩ (Nat.le_of_ble_eq_true rfl) ⟨by decide, by decide⟩ rfl dX12_keeps_228 (fun H_15 locs_15 p_15 hT_15 hk_15 hS_15 => ?_)
            have p_15 : (AU 985 H_9 H_15 (ρ a0 0) 0 (7)) := p_15
            have hW_15 : PW N H_15 (ρ a0 0) := PW.put hW_9 p_15 (by show (-2147483648 : Int) ≤ _; exact i_min _) (by show _ ≤ (2147483647 : Int); exact i_max _)
            exact th_vret E hr hlk hs hT_15 hS_15 ⟨⟨hW_15, (QS.of (s := (7 : Int32)) (t := (ai H_c135 (ρ a0 0) 2 : Int32)) (AU.s p_15 (by decide)) (Eq.trans (AU.o p_15 (by decide) (by decide)) (AU.o p_9 (by decide) (by decide))) (by have j := hI_c135.2.1; unfold QS at j; have : (ai H_c135 (ρ a0 0) 0).toInt = (r_10 : Int32).toInt := congrArg Int32.toInt t_10; have : (7 : Int32).toInt = 7 := (by decide); omega)), (QS.same (Eq.trans (AU.o p_15 (by decide) (by decide)) (AU.o p_9 (by decide) (by decide))) (Eq.trans (AU.o p_15 (by decide) (by decide)) (AU.o p_9 (by decide) (by decide))) hI_c135.2.2.1), (PL.q (p_15.2 _ (th_ne (hW _ 12 2 ha0 (by decide) (by decide) (by decide)) (hW _ 12 0 ha0 (by decide) (by decide) (by decide)) (by decide))) (PL.q (p_9.2 _ (th_ne (hW _ 12 2 ha0 (by decide) (by decide) (by decide)) (hW _ 12 0 ha0 (by decide) (by decide) (by decide)) (by decide))) hI_c135.2.2.2.1)), (PL.q (p_15.2 _ (th_ne (hW _ 12 3 ha0 (by decide) (by decide) (by decide)) (hW _ 12 0 ha0 (by decide) (by decide) (by decide)) (by decide))) (PL.q (p_9.2 _ (th_ne (hW _ 12 3 ha0 (by decide) (by decide) (by decide)) (hW _ 12 0 ha0 (by decide) (by decide) (by decide)) (by decide))) hI_c135.2.2.2.2.1)), (IF.q (p_15.2 _ (th_ne ha0 (hW _ 12 0 ha0 (by decide) (by decide) (by decide)) (by decide))) (IF.q (p_9.2 _ (th_ne ha0 (hW _ 12 0 ha0 (by decide) (by decide) (by decide)) (by decide))) hI_c135.2.2.2.2.2))⟩, (by rw [(Eq.trans (AU.o p_15 (by decide) (by decide)) (AU.o p_9 (by decide) (by decide)))]; omega)⟩ dX12_keeps_231
      · have f_3 : ¬ r_2.toInt = 0 := r_ne rfl (by decide) c_3
        have nz_r_2 : ¬ r_2 = 0 := c_3
        have w_3 : g135_0.toInt + 1 ≤ N + 33 := held_le (c := 0) (by decide) hI_c135.1 (by rcases p_2_1 with h | h; exact h.2; exfalso; omega) (by omega) (by omega)
        refine lv_aload_n hx hb dX12_keeps_149 rfl (lv_at hl 0 rfl) ?_
        refine lv_iload_n hx hb dX12_keeps_150 rfl (lv_at hl 1 rfl) ?_
        refine lv_iconst (v := 5) hx hb dX12_keeps_151 (by decide) ?_
        refine lv_aload_n hx hb dX12_keeps_152 rfl (lv_at hl 0 rfl) ?_
        refine lv_iload_n hx hb dX12_keeps_153 rfl (lv_at hl 1 rfl) ?_
        refine lv_iconst (v := 5) hx hb dX12_keeps_154 (by decide) ?_
        refine th_Vi (As := [.int 0, .int 5]) (rest := [.int 5, .int 0, .ref a0]) E hml hl.1 (y_get_v22 l D cI cS τ ρ hW H_c135 hT_2 a0 ha0) lk_X12_99 yd_X12_get hT_2 ha0 rfl (by decide) hS_2 (fun _ h => h.elim) ⟨by decide, by decide⟩ (Nat.le_of_ble_eq_true rfl) ⟨by decide, by decide⟩ rfl dX12_keeps_155 (fun r_16 H_16 locs_16 p_16 hT_16 hk_16 hS_16 => ?_)
        have p_16 : H_c135 = H_16 ∧ (ai H_c135 (ρ a0 0) 5 = r_16) := p_16
        obtain ⟨rfl, p_16_0⟩ := p_16
        have s_16 : r_16 = g135_0 := p_16_0.symm.trans hg135_0
        refine th_topi s_16 ?_
        refine lv_iconst (v := 1) hx hb dX12_keeps_158 (by decide) ?_
        refine lv_iadd hx hb dX12_keeps_159 ?_
        refine lv_topi (fun x_17 ex_17 => ?_)
        have q_17 : x_17.toInt = g135_0.toInt + 1 := i_pl rfl (by decide) ex_17 (by omega) (by omega)
        refine th_Vv (As := [.int 0, .int 5, .int x_17]) (rest := []) E hml hl.1 (y_set_v33 l D cI cS τ ρ hW H_c135 hT_16 a0 x_17 ha0) lk_X12_95 yd_X12_set hT_16 ha0 rfl (by decide) hS_16 (fun q h => h) ⟨by decide, by decide⟩ (Nat.le_of_ble_eq_true rfl) ⟨by decide, by decide⟩ rfl dX12_keeps_160 (fun H_18 locs_18 p_18 hT_18 hk_18 hS_18 => ?_)
        have p_18 : (AU 985 H_c135 H_18 (ρ a0 0) 5 x_17) := p_18
        have hW_18 : PW N H_18 (ρ a0 0) := PW.put hI_c135.1 p_18 (by show (0 : Int) ≤ x_17.toInt; omega) (by show x_17.toInt ≤ (N + 33 : Int); omega)
        refine lv_goto (tgt := 135) hx hb dX12_keeps_163 (by decide) ?_
        exact ih_135 H_18 locs_18 _ y135_3 x_17 hT_18 hS_18 hl (by omega) (by omega) (by omega) (AU.s p_18 (by decide)) ⟨hW_18, (QS.same (AU.o p_18 (by decide) (by decide)) (AU.o p_18 (by decide) (by decide)) hI_c135.2.1), (QS.same (AU.o p_18 (by decide) (by decide)) (AU.o p_18 (by decide) (by decide)) hI_c135.2.2.1), (PL.q (p_18.2 _ (th_ne (hW _ 12 2 ha0 (by decide) (by decide) (by decide)) (hW _ 12 0 ha0 (by decide) (by decide) (by decide)) (by decide))) hI_c135.2.2.2.1), (PL.q (p_18.2 _ (th_ne (hW _ 12 3 ha0 (by decide) (by decide) (by decide)) (hW _ 12 0 ha0 (by decide) (by decide) (by decide)) (by decide))) hI_c135.2.2.2.2.1), (IF.q (p_18.2 _ (th_ne ha0 (hW _ 12 0 ha0 (by decide) (by decide) (by decide)) (by decide))) hI_c135.2.2.2.2.2)⟩ (by rw [(AU.o p_18 (by decide) (by decide))]; omega) (by omega)
  have L_2 : ∀ (n : Nat) (H_c2 : Heap) (lc_c2 : List Loc) (ls : Array Slot) (y2_3 : Int32), TH D cI cS τ ρ H_c2 → SS (fun q => q = ρ a0 0) H H_c2 lc_c2 → lv_has ls 5 [(0, .ref a0), (1, .int 0), (2, .int x1), (3, .int y2_3)] → -128 ≤ x1.toInt → x1.toInt ≤ 827 → 0 ≤ y2_3.toInt → ai H_c2 (ρ a0 3) 5 = ai H (ρ a0 3) 5 → IM D ρ N H_c2 a0 → (ai H (ρ a0 0) 976).toInt ≤ (ai H_c2 (ρ a0 0) 976).toInt → ((ai H (ρ a0 3) 5).toInt - y2_3.toInt).toNat < n → W p l e (rmO 2 47) s m args below meth c H_c2 lc_c2 0 0 (MQ below (va_Qv (fun (u : Heap) => (IM D ρ N u a0) ∧ ((ai H (ρ a0 0) 976).toInt ≤ (ai u (ρ a0 0) 976).toInt)) (Bt D cI cS τ ρ H) (fun q => q = ρ a0 0)) args s 0 0 (fun q => q = ρ a0 0)) (F0 m 2 ls []) := by
    intro n
    induction n with
    | zero => intro H_c2 lc_c2 ls y2_3 hT_c2 hS_c2 hl ly2_2 uy2_2 ly2_3 hg2_0 hI_c2 hmn_c2 hm; exact absurd hm (Nat.not_lt_zero _)
    | succ n ih_2 =>
      intro H_c2 lc_c2 ls y2_3 hT_c2 hS_c2 hl ly2_2 uy2_2 ly2_3 hg2_0 hI_c2 hmn_c2 hm_2
      have bb_g2_0 : 0 ≤ (ai H (ρ a0 3) 5).toInt ∧ (ai H (ρ a0 3) 5).toInt ≤ 8 := by rw [← hg2_0]; exact hI_c2.2.2.2.2.1 5 (by decide)
      have cg_g2_0 := congrArg Int32.toInt hg2_0
      refine lv_iload_n hx hb dX12_keeps_2 rfl (lv_at hl 3 rfl) ?_
      refine lv_aload_n hx hb dX12_keeps_3 rfl (lv_at hl 0 rfl) ?_
      refine gf_X12_19 E hT_c2 hW ha0 dX12_keeps_4 (fun h_19 => ?_)
      refine lv_iconst (v := 5) hx hb dX12_keeps_7 (by decide) ?_
      refine th_iald E hT_c2 h_19 (by decide) (vp_in_iff.mpr ⟨by decide, by decide⟩) dX12_keeps_8 ?_
      refine th_topi (y := ai H_c2 (ρ a0 3) 5) rfl ?_
      refine th_topi (y := ai H (ρ a0 3) 5) hg2_0 ?_
      refine lv_topi (fun x_20 ex_20 => ?_)
      have c_x_20 := congrArg Int32.toInt ex_20.symm
      have b_x_20 : 0 ≤ x_20.toInt ∧ x_20.toInt ≤ 8 := by rw [← ex_20.symm]; exact hI.2.2.2.2.1 5 (by decide)
      refine lv_icmp_ge (tgt := 84) hx hb dX12_keeps_9 (by decide) (fun c_21 => ?_) (fun c_21 => ?_)
      · have f_21 : x_20.toInt ≤ y2_3.toInt := r_le rfl rfl c_21
        refine lv_aload_n hx hb dX12_keeps_84 rfl (lv_at hl 0 rfl) ?_
        refine lv_iconst (v := 2) hx hb dX12_keeps_85 (by decide) ?_
        refine th_Vi (As := [.int 2]) (rest := []) E hml hl.1 (y_has l D cI cS τ ρ hW H_c2 hT_c2 a0 ha0) lk_X12_202 yd_X12_has hT_c2 ha0 rfl (by decide) hS_c2 (fun _ h => h.elim) ⟨by decide, by decide⟩ (Nat.le_of_ble_eq_true rfl) ⟨by decide, by decide⟩ rfl dX12_keeps_86 (fun r_22 H_22 locs_22 p_22 hT_22 hk_22 hS_22 => ?_)
        have p_22 : H_c2 = H_22 ∧ (r_22 = 0 ∨ r_22 = 1) := p_22
        obtain ⟨rfl, p_22_0⟩ := p_22
        have z_22 := b_iv p_22_0
        refine lv_if_eq (tgt := 135) hx hb dX12_keeps_89 (by decide) (fun c_23 => ?_) (fun c_23 => ?_)
        · have f_23 : r_22.toInt = 0 := r_eq rfl (by decide) c_23
          exact L_135 _ H_c2 locs_22 _ y2_3 (ai H_c2 (ρ a0 0) 5) hT_22 hS_22 hl (by omega) (by omega) (by omega) rfl ⟨hI_c2.1, hI_c2.2.1, hI_c2.2.2.1, hI_c2.2.2.2.1, hI_c2.2.2.2.2.1, hI_c2.2.2.2.2.2⟩ (by omega) (Nat.lt_succ_self _)
        · have f_23 : ¬ r_22.toInt = 0 := r_ne rfl (by decide) c_23
          have nz_r_22 : ¬ r_22 = 0 := c_23
          refine lv_aload_n hx hb dX12_keeps_92 rfl (lv_at hl 0 rfl) ?_
          refine lv_iload_n hx hb dX12_keeps_93 rfl (lv_at hl 1 rfl) ?_
          refine lv_bipush (v := 17) hx hb dX12_keeps_94 (by decide) ?_
          refine th_Vi (As := [.int 0, .int 17]) (rest := []) E hml hl.1 (y_get_v28 l D cI cS τ ρ hW H_c2 hT_22 a0 ha0) lk_X12_99 yd_X12_get hT_22 ha0 rfl (by decide) hS_22 (fun _ h => h.elim) ⟨by decide, by decide⟩ (Nat.le_of_ble_eq_true rfl) ⟨by decide, by decide⟩ rfl dX12_keeps_96 (fun r_24 H_24 locs_24 p_24 hT_24 hk_24 hS_24 => ?_)
          have p_24 : H_c2 = H_24 ∧ (ai H_c2 (ρ a0 0) 17 = r_24) := p_24
          obtain ⟨rfl, p_24_0⟩ := p_24
          have b_r_24 : (-2147483648 : Int) ≤ r_24.toInt ∧ r_24.toInt ≤ N + 32 := by rw [← p_24_0]; exact hI_c2.1 17 (by decide)
          have c_r_24 := congrArg Int32.toInt p_24_0
          refine lv_bipush (v := (-4)) hx hb dX12_keeps_99 (by decide) ?_
          refine lv_icmp_ne (tgt := 135) hx hb dX12_keeps_101 (by decide) (fun c_25 => ?_) (fun c_25 => ?_)
          · have f_25 : ¬ r_24.toInt = -4 := r_ne rfl (by decide) c_25
            exact L_135 _ H_c2 locs_24 _ y2_3 (ai H_c2 (ρ a0 0) 5) hT_24 hS_24 hl (by omega) (by omega) (by omega) rfl ⟨hI_c2.1, hI_c2.2.1, hI_c2.2.2.1, hI_c2.2.2.2.1, hI_c2.2.2.2.2.1, hI_c2.2.2.2.2.2⟩ (by omega) (Nat.lt_succ_self _)
          · have f_25 : r_24.toInt = -4 := r_eq rfl (by decide) c_25
            refine lv_aload_n hx hb dX12_keeps_104 rfl (lv_at hl 0 rfl) ?_
            refine lv_iload_n hx hb dX12_keeps_105 rfl (lv_at hl 1 rfl) ?_
            refine lv_iload_n hx hb dX12_keeps_106 rfl (lv_at hl 2 rfl) ?_
            refine lv_aload_n hx hb dX12_keeps_107 rfl (lv_at hl 0 rfl) ?_
            refine gf_X12_19 E hT_24 hW ha0 dX12_keeps_108 (fun h_26 => ?_)
            refine lv_iconst (v := 5) hx hb dX12_keeps_111 (by decide) ?_
            refine th_iald E hT_24 h_26 (by decide) (vp_in_iff.mpr ⟨by decide, by decide⟩) dX12_keeps_112 ?_
            refine th_topi (y := ai H_c2 (ρ a0 3) 5) rfl ?_
            refine th_topi (y := x_20) (hg2_0.trans ex_20.symm) ?_
            refine lv_iadd hx hb dX12_keeps_113 ?_
            refine lv_topi (fun x_28 ex_28 => ?_)
            have q_28 : x_28.toInt = x1.toInt + x_20.toInt := i_pl rfl rfl ex_28 (by omega) (by omega)
            refine th_Vi (As := [.int 0, .int x_28]) (rest := []) E hml hl.1 (y_isWanted_v2 l D cI cS τ ρ hW H_c2 hT_24 a0 x_28 ha0 N hN0 hN1 ⟨hI_c2.1, hI_c2.2.1, hI_c2.2.2.1, hI_c2.2.2.2.1, hI_c2.2.2.2.2.1, hI_c2.2.2.2.2.2⟩) lk_X12_218 yd_X12_isWanted hT_24 ha0 rfl (by decide) hS_24 (fun _ h => h.elim) ⟨by decide, by decide⟩ (Nat.le_of_ble_eq_true rfl) ⟨by decide, by decide⟩ rfl dX12_keeps_114 (fun r_29 H_29 locs_29 p_29 hT_29 hk_29 hS_29 => ?_)
            have p_29 : H_c2 = H_29 ∧ (r_29 = 0 ∨ r_29 = 1) ∧ (r_29.toInt = 1 → (0 ≤ x_28.toInt ∧ (ai H_c2 (ρ a0 0) 5).toInt ≤ x_28.toInt ∧ x_28.toInt ≤ N + 32)) := p_29
            obtain ⟨rfl, p_29_0, p_29_1⟩ := p_29
            have z_29 := b_iv p_29_0
            refine lv_if_eq (tgt := 135) hx hb dX12_keeps_117 (by decide) (fun c_30 => ?_) (fun c_30 => ?_)
            · have f_30 : r_29.toInt = 0 := r_eq rfl (by decide) c_30
              exact L_135 _ H_c2 locs_29 _ y2_3 (ai H_c2 (ρ a0 0) 5) hT_29 hS_29 hl (by omega) (by omega) (by omega) rfl ⟨hI_c2.1, hI_c2.2.1, hI_c2.2.2.1, hI_c2.2.2.2.1, hI_c2.2.2.2.2.1, hI_c2.2.2.2.2.2⟩ (by omega) (Nat.lt_succ_self _)
            · have f_30 : ¬ r_29.toInt = 0 := r_ne rfl (by decide) c_30
              have nz_r_29 : ¬ r_29 = 0 := c_30
              refine lv_aload_n hx hb dX12_keeps_120 rfl (lv_at hl 0 rfl) ?_
              refine lv_iload_n hx hb dX12_keeps_121 rfl (lv_at hl 1 rfl) ?_
              refine lv_bipush (v := 17) hx hb dX12_keeps_122 (by decide) ?_
              refine lv_iload_n hx hb dX12_keeps_124 rfl (lv_at hl 2 rfl) ?_
              refine lv_aload_n hx hb dX12_keeps_125 rfl (lv_at hl 0 rfl) ?_
              refine gf_X12_19 E hT_29 hW ha0 dX12_keeps_126 (fun h_31 => ?_)
              refine lv_iconst (v := 5) hx hb dX12_keeps_129 (by decide) ?_
              refine th_iald E hT_29 h_31 (by decide) (vp_in_iff.mpr ⟨by decide, by decide⟩) dX12_keeps_130 ?_
              refine th_topi (y := ai H_c2 (ρ a0 3) 5) rfl ?_
              refine th_topi (y := x_20) (hg2_0.trans ex_20.symm) ?_
              refine lv_iadd hx hb dX12_keeps_131 ?_
              refine lv_topi (fun x_33 ex_33 => ?_)
              have q_33 : x_33.toInt = x1.toInt + x_20.toInt := i_pl rfl rfl ex_33 (by omega) (by omega)
              refine th_Vv (As := [.int 0, .int 17, .int x_33]) (rest := []) E hml hl.1 (y_set_v32 l D cI cS τ ρ hW H_c2 hT_29 a0 x_33 ha0) lk_X12_95 yd_X12_set hT_29 ha0 rfl (by decide) hS_29 (fun q h => h) ⟨by decide, by decide⟩ (Nat.le_of_ble_eq_true rfl) ⟨by decide, by decide⟩ rfl dX12_keeps_132 (fun H_34 locs_34 p_34 hT_34 hk_34 hS_34 => ?_)
              have p_34 : (AU 985 H_c2 H_34 (ρ a0 0) 17 x_33) := p_34
              have hW_34 : PW N H_34 (ρ a0 0) := PW.put hI_c2.1 p_34 (by show (-2147483648 : Int) ≤ _; exact i_min _) (by show x_33.toInt ≤ (N + 32 : Int); omega)
              exact L_135 _ H_34 locs_34 _ y2_3 (ai H_c2 (ρ a0 0) 5) hT_34 hS_34 hl (by omega) (by omega) (by omega) (AU.o p_34 (by decide) (by decide)) ⟨hW_34, (QS.same (AU.o p_34 (by decide) (by decide)) (AU.o p_34 (by decide) (by decide)) hI_c2.2.1), (QS.same (AU.o p_34 (by decide) (by decide)) (AU.o p_34 (by decide) (by decide)) hI_c2.2.2.1), (PL.q (p_34.2 _ (th_ne (hW _ 12 2 ha0 (by decide) (by decide) (by decide)) (hW _ 12 0 ha0 (by decide) (by decide) (by decide)) (by decide))) hI_c2.2.2.2.1), (PL.q (p_34.2 _ (th_ne (hW _ 12 3 ha0 (by decide) (by decide) (by decide)) (hW _ 12 0 ha0 (by decide) (by decide) (by decide)) (by decide))) hI_c2.2.2.2.2.1), (IF.q (p_34.2 _ (th_ne ha0 (hW _ 12 0 ha0 (by decide) (by decide) (by decide)) (by decide))) hI_c2.2.2.2.2.2)⟩ (by rw [(AU.o p_34 (by decide) (by decide))]; omega) (Nat.lt_succ_self _)
      · have f_21 : y2_3.toInt < x_20.toInt := r_nle rfl rfl c_21
        refine lv_iload_n hx hb dX12_keeps_12 rfl (lv_at hl 2 rfl) ?_
        refine lv_iload_n hx hb dX12_keeps_13 rfl (lv_at hl 3 rfl) ?_
        refine lv_iadd hx hb dX12_keeps_14 ?_
        refine lv_topi (fun x_35 ex_35 => ?_)
        have q_35 : x_35.toInt = x1.toInt + y2_3.toInt := i_pl rfl rfl ex_35 (by omega) (by omega)
        refine lv_istore (lv' := [(4, .int x_35), (0, .ref a0), (1, .int 0), (2, .int x1), (3, .int y2_3)]) hx hb dX12_keeps_15 hl (by decide) rfl (fun ls hl => ?_)
        refine lv_aload_n hx hb dX12_keeps_17 rfl (lv_at hl 1 rfl) ?_
        refine lv_iload_n hx hb dX12_keeps_18 rfl (lv_at hl 2 rfl) ?_
        refine lv_iload hx hb dX12_keeps_19 (lv_at hl 0 rfl) ?_
        refine th_Vi (As := [.int 0, .int x_35]) (rest := []) E hml hl.1 (y_isWanted_v2 l D cI cS τ ρ hW H_c2 hT_c2 a0 x_35 ha0 N hN0 hN1 ⟨hI_c2.1, hI_c2.2.1, hI_c2.2.2.1, hI_c2.2.2.2.1, hI_c2.2.2.2.2.1, hI_c2.2.2.2.2.2⟩) lk_X12_218 yd_X12_isWanted hT_c2 ha0 rfl (by decide) hS_c2 (fun _ h => h.elim) ⟨by decide, by decide⟩ (Nat.le_of_ble_eq_true rfl) ⟨by decide, by decide⟩ rfl dX12_keeps_21 (fun r_36 H_36 locs_36 p_36 hT_36 hk_36 hS_36 => ?_)
        have p_36 : H_c2 = H_36 ∧ (r_36 = 0 ∨ r_36 = 1) ∧ (r_36.toInt = 1 → (0 ≤ x_35.toInt ∧ (ai H_c2 (ρ a0 0) 5).toInt ≤ x_35.toInt ∧ x_35.toInt ≤ N + 32)) := p_36
        obtain ⟨rfl, p_36_0, p_36_1⟩ := p_36
        have z_36 := b_iv p_36_0
        refine lv_if_eq (tgt := 78) hx hb dX12_keeps_24 (by decide) (fun c_37 => ?_) (fun c_37 => ?_)
        · have f_37 : r_36.toInt = 0 := r_eq rfl (by decide) c_37
          obtain ⟨x_38, ex_38⟩ : ∃ y : Int32, y2_3 + 1 = y := ⟨_, rfl⟩
          have q_x_38 : x_38.toInt = y2_3.toInt + 1 := i_add (k := 1) (by decide) ex_38 (by have := i_min y2_3; omega) (by have := i_max y2_3; omega)
          refine lv_iinc (v := x_38) (lv' := [(3, .int x_38), (4, .int x_35), (0, .ref a0), (1, .int 0), (2, .int x1)]) hx hb dX12_keeps_78 hl (k := 4) rfl (by rw [← ex_38]; rfl) (by decide) rfl (fun ls hl => ?_)
          refine lv_goto (tgt := 2) hx hb dX12_keeps_81 (by decide) ?_
          exact ih_2 H_c2 locs_36 _ x_38 hT_36 hS_36 (lv_sub hl [2, 3, 4, 0] rfl) (by omega) (by omega) (by omega) ((hg2_0.trans ex_20.symm).trans ex_20.symm.symm) ⟨hI_c2.1, hI_c2.2.1, hI_c2.2.2.1, hI_c2.2.2.2.1, hI_c2.2.2.2.2.1, hI_c2.2.2.2.2.2⟩ (by omega) (by omega)
        · have f_37 : ¬ r_36.toInt = 0 := r_ne rfl (by decide) c_37
          have nz_r_36 : ¬ r_36 = 0 := c_37
          refine lv_aload_n hx hb dX12_keeps_27 rfl (lv_at hl 1 rfl) ?_
          refine lv_iload_n hx hb dX12_keeps_28 rfl (lv_at hl 2 rfl) ?_
          refine lv_iload hx hb dX12_keeps_29 (lv_at hl 0 rfl) ?_
          refine th_Vi (As := [.int 0, .int x_35]) (rest := []) E hml hl.1 (y_isHeld_v2 l D cI cS τ ρ hW H_c2 hT_36 a0 x_35 ha0 (by omega)) lk_X12_118 yd_X12_isHeld hT_36 ha0 rfl (by decide) hS_36 (fun _ h => h.elim) ⟨by decide, by decide⟩ (Nat.le_of_ble_eq_true rfl) ⟨by decide, by decide⟩ rfl dX12_keeps_31 (fun r_39 H_39 locs_39 p_39 hT_39 hk_39 hS_39 => ?_)
          have p_39 : H_c2 = H_39 ∧ (r_39 = 0 ∨ r_39 = 1) ∧ ((r_39.toInt = 1 ∧ heldP 0 H_c2 (ρ a0 0) x_35) ∨ (r_39.toInt = 0 ∧ ¬ heldP 0 H_c2 (ρ a0 0) x_35)) := p_39
          obtain ⟨rfl, p_39_0, p_39_1⟩ := p_39
          have z_39 := b_iv p_39_0
          refine lv_if_ne (tgt := 78) hx hb dX12_keeps_34 (by decide) (fun c_40 => ?_) (fun c_40 => ?_)
          · have f_40 : ¬ r_39.toInt = 0 := r_ne rfl (by decide) c_40
            have nz_r_39 : ¬ r_39 = 0 := c_40
            have w_40 : x_35.toInt + 1 ≤ N + 33 := held_le (c := 0) (by decide) hI_c2.1 (by rcases p_39_1 with h | h; exact h.2; exfalso; omega) (by omega) (by omega)
            obtain ⟨x_41, ex_41⟩ : ∃ y : Int32, y2_3 + 1 = y := ⟨_, rfl⟩
            have q_x_41 : x_41.toInt = y2_3.toInt + 1 := i_add (k := 1) (by decide) ex_41 (by have := i_min y2_3; omega) (by have := i_max y2_3; omega)
            refine lv_iinc (v := x_41) (lv' := [(3, .int x_41), (4, .int x_35), (0, .ref a0), (1, .int 0), (2, .int x1)]) hx hb dX12_keeps_78 hl (k := 4) rfl (by rw [← ex_41]; rfl) (by decide) rfl (fun ls hl => ?_)
            refine lv_goto (tgt := 2) hx hb dX12_keeps_81 (by decide) ?_
            exact ih_2 H_c2 locs_39 _ x_41 hT_39 hS_39 (lv_sub hl [2, 3, 4, 0] rfl) (by omega) (by omega) (by omega) ((hg2_0.trans ex_20.symm).trans ex_20.symm.symm) ⟨hI_c2.1, hI_c2.2.1, hI_c2.2.2.1, hI_c2.2.2.2.1, hI_c2.2.2.2.2.1, hI_c2.2.2.2.2.2⟩ (by omega) (by omega)
          · have f_40 : r_39.toInt = 0 := r_eq rfl (by decide) c_40
            refine lv_aload_n hx hb dX12_keeps_37 rfl (lv_at hl 1 rfl) ?_
            refine lv_iload_n hx hb dX12_keeps_38 rfl (lv_at hl 2 rfl) ?_
            refine lv_sipush (v := 160) hx hb dX12_keeps_39 (by decide) ?_
            refine lv_iload hx hb dX12_keeps_42 (lv_at hl 0 rfl) ?_
            refine lv_bipush (v := 64) hx hb dX12_keeps_44 (by decide) ?_
            refine lv_irem hx hb dX12_keeps_46 (by decide) ?_
            refine lv_topi (fun x_42 ex_42 => ?_)
            have q_42 := i_rem (k := 64) (x := x_35) (by decide) (by decide) ex_42
            refine lv_iadd hx hb dX12_keeps_47 ?_
            refine lv_topi (fun x_43 ex_43 => ?_)
            have q_43 : x_43.toInt = 160 + x_42.toInt := i_pl (by decide) rfl ex_43 (by omega) (by omega)
            refine lv_iload hx hb dX12_keeps_48 (lv_at hl 0 rfl) ?_
            refine lv_iconst (v := 1) hx hb dX12_keeps_50 (by decide) ?_
            refine lv_iadd hx hb dX12_keeps_51 ?_
            refine lv_topi (fun x_44 ex_44 => ?_)
            have q_44 : x_44.toInt = x_35.toInt + 1 := i_pl rfl (by decide) ex_44 (by omega) (by omega)
            refine th_Vv (As := [.int 0, .int x_43, .int x_44]) (rest := []) E hml hl.1 (y_set_v16 l D cI cS τ ρ hW H_c2 hT_39 a0 x_43 x_44 ha0 (by omega)) lk_X12_95 yd_X12_set hT_39 ha0 rfl (by decide) hS_39 (fun q h => h) ⟨by decide, by decide⟩ (Nat.le_of_ble_eq_true rfl) ⟨by decide, by decide⟩ rfl dX12_keeps_52 (fun H_45 locs_45 p_45 hT_45 hk_45 hS_45 => ?_)
            have p_45 : (AU 985 H_c2 H_45 (ρ a0 0) (0 + x_43.toInt).toNat x_44) := p_45
            have hW_45 : PW N H_45 (ρ a0 0) := PW.held hI_c2.1 p_45 (by omega) (by omega)
            refine lv_aload_n hx hb dX12_keeps_55 rfl (lv_at hl 1 rfl) ?_
            refine lv_iload_n hx hb dX12_keeps_56 rfl (lv_at hl 2 rfl) ?_
            refine lv_sipush (v := 224) hx hb dX12_keeps_57 (by decide) ?_
            refine lv_iload hx hb dX12_keeps_60 (lv_at hl 0 rfl) ?_
            refine lv_bipush (v := 64) hx hb dX12_keeps_62 (by decide) ?_
            refine lv_irem hx hb dX12_keeps_64 (by decide) ?_
            refine lv_topi (fun x_46 ex_46 => ?_)
            have q_46 := i_rem (k := 64) (x := x_35) (by decide) (by decide) ex_46
            refine lv_iadd hx hb dX12_keeps_65 ?_
            refine lv_topi (fun x_47 ex_47 => ?_)
            have q_47 : x_47.toInt = 224 + x_46.toInt := i_pl (by decide) rfl ex_47 (by omega) (by omega)
            refine lv_aload_n hx hb dX12_keeps_66 rfl (lv_at hl 1 rfl) ?_
            refine gf_X12_19 E hT_45 hW ha0 dX12_keeps_67 (fun h_48 => ?_)
            refine lv_bipush (v := 12) hx hb dX12_keeps_70 (by decide) ?_
            refine lv_iload_n hx hb dX12_keeps_72 rfl (lv_at hl 4 rfl) ?_
            refine lv_iadd hx hb dX12_keeps_73 ?_
            refine lv_topi (fun x_49 ex_49 => ?_)
            have q_49 : x_49.toInt = 12 + y2_3.toInt := i_pl (by decide) rfl ex_49 (by omega) (by omega)
            refine th_iald E hT_45 h_48 (by decide) (vp_in_iff.mpr ⟨by omega, by omega⟩) dX12_keeps_74 ?_
            refine th_topi (y := ai H_45 (ρ a0 3) x_49.toInt.toNat) rfl ?_
            refine lv_topi (fun x_50 ex_50 => ?_)
            have cl_50 : bL (x_49.toInt.toNat) ≤ x_50.toInt ∧ x_50.toInt ≤ uL (x_49.toInt.toNat) := by rw [ex_50]; exact (PL.q (p_45.2 _ (th_ne (hW _ 12 3 ha0 (by decide) (by decide) (by decide)) (hW _ 12 0 ha0 (by decide) (by decide) (by decide)) (by decide))) hI_c2.2.2.2.2.1) _ (by omega)
            refine th_Vv (As := [.int 0, .int x_47, .int x_50]) (rest := []) E hml hl.1 (y_set_v16 l D cI cS τ ρ hW H_45 hT_45 a0 x_47 x_50 ha0 (by omega)) lk_X12_95 yd_X12_set hT_45 ha0 rfl (by decide) hS_45 (fun q h => h) ⟨by decide, by decide⟩ (Nat.le_of_ble_eq_true rfl) ⟨by decide, by decide⟩ rfl dX12_keeps_75 (fun H_51 locs_51 p_51 hT_51 hk_51 hS_51 => ?_)
            have p_51 : (AU 985 H_45 H_51 (ρ a0 0) (0 + x_47.toInt).toNat x_50) := p_51
            have hW_51 : PW N H_51 (ρ a0 0) := PW.free hW_45 p_51 (by omega)
            obtain ⟨x_52, ex_52⟩ : ∃ y : Int32, y2_3 + 1 = y := ⟨_, rfl⟩
            have q_x_52 : x_52.toInt = y2_3.toInt + 1 := i_add (k := 1) (by decide) ex_52 (by have := i_min y2_3; omega) (by have := i_max y2_3; omega)
            refine lv_iinc (v := x_52) (lv' := [(3, .int x_52), (4, .int x_35), (0, .ref a0), (1, .int 0), (2, .int x1)]) hx hb dX12_keeps_78 hl (k := 4) rfl (by rw [← ex_52]; rfl) (by decide) rfl (fun ls hl => ?_)
            refine lv_goto (tgt := 2) hx hb dX12_keeps_81 (by decide) ?_
            exact ih_2 H_51 locs_51 _ x_52 hT_51 hS_51 (lv_sub hl [2, 3, 4, 0] rfl) (by omega) (by omega) (by omega) ((Eq.trans (ai_q (p_51.2 _ (th_ne (hW _ 12 3 ha0 (by decide) (by decide) (by decide)) (hW _ 12 0 ha0 (by decide) (by decide) (by decide)) (by decide)))) (Eq.trans (ai_q (p_45.2 _ (th_ne (hW _ 12 3 ha0 (by decide) (by decide) (by decide)) (hW _ 12 0 ha0 (by decide) (by decide) (by decide)) (by decide)))) (hg2_0.trans ex_20.symm))).trans ex_20.symm.symm) ⟨hW_51, (QS.same (Eq.trans (AU.o p_51 (by decide) (by omega)) (AU.o p_45 (by decide) (by omega))) (Eq.trans (AU.o p_51 (by decide) (by omega)) (AU.o p_45 (by decide) (by omega))) hI_c2.2.1), (QS.same (Eq.trans (AU.o p_51 (by decide) (by omega)) (AU.o p_45 (by decide) (by omega))) (Eq.trans (AU.o p_51 (by decide) (by omega)) (AU.o p_45 (by decide) (by omega))) hI_c2.2.2.1), (PL.q (p_51.2 _ (th_ne (hW _ 12 2 ha0 (by decide) (by decide) (by decide)) (hW _ 12 0 ha0 (by decide) (by decide) (by decide)) (by decide))) (PL.q (p_45.2 _ (th_ne (hW _ 12 2 ha0 (by decide) (by decide) (by decide)) (hW _ 12 0 ha0 (by decide) (by decide) (by decide)) (by decide))) hI_c2.2.2.2.1)), (PL.q (p_51.2 _ (th_ne (hW _ 12 3 ha0 (by decide) (by decide) (by decide)) (hW _ 12 0 ha0 (by decide) (by decide) (by decide)) (by decide))) (PL.q (p_45.2 _ (th_ne (hW _ 12 3 ha0 (by decide) (by decide) (by decide)) (hW _ 12 0 ha0 (by decide) (by decide) (by decide)) (by decide))) hI_c2.2.2.2.2.1)), (IF.q (p_51.2 _ (th_ne ha0 (hW _ 12 0 ha0 (by decide) (by decide) (by decide)) (by decide))) (IF.q (p_45.2 _ (th_ne ha0 (hW _ 12 0 ha0 (by decide) (by decide) (by decide)) (by decide))) hI_c2.2.2.2.2.2))⟩ (by rw [(Eq.trans (AU.o p_51 (by decide) (by omega)) (AU.o p_45 (by decide) (by omega)))]; omega) (by omega)
  refine lv_iconst (v := 0) hx hb dX12_keeps_0 (by decide) ?_
  refine lv_istore_n (lv' := [(3, .int 0), (0, .ref a0), (1, .int 0), (2, .int x1)]) hx hb dX12_keeps_1 rfl hl (by decide) rfl (fun ls hl => ?_)
  exact L_2 _ H [] _ 0 hT hS (lv_sub hl [1, 2, 3, 0] rfl) (by omega) (by omega) (by decide) rfl ⟨hI.1, hI.2.1, hI.2.2.1, hI.2.2.2.1, hI.2.2.2.2.1, hI.2.2.2.2.2⟩ (by omega) (Nat.lt_succ_self _)
set_option maxHeartbeats 4000000 in
set_option maxRecDepth 100000 in
/-- the reference: set -/
theorem y_set_v36 (l : Launch) (D : va_G) (cI cS : ClassId) (τ : Nat → Option Nat) (ρ : Nat → Nat → Nat) (hW : WF τ ρ) (H : Heap) (hT : TH D cI cS τ ρ H) (a0 : Nat) (x2 : Int32) (ha0 : τ a0 = some 12) : MV l D cI cS τ ρ yX12_set cX12_set 4 none 0 0 H [.ref a0, .int 0, .int 12, .int x2] (fun (u : Heap) => (AU 985 H u (ρ a0 0) 12 x2)) (fun q => q = ρ a0 0) := by
  refine MV.of (by decide) (Nat.le_of_ble_eq_true rfl) ?_
  intro p e s m args below meth c E hml hr hlk hs ls hl
  have hx := E.1
  have hb := E.2.1
  have hown := E.2.2.1
  have hts := E.2.2.2.1
  have hS : SS (fun q => q = ρ a0 0) H H [] := SS.rf
  have hl : lv_has ls 4 [(0, .ref a0), (1, .int 0), (2, .int 12), (3, .int x2)] := hl
  refine lv_aload_n hx hb dX12_set_0 rfl (lv_at hl 0 rfl) ?_
  refine gf_X12_7 E hT hW ha0 dX12_set_1 (fun h_1 => ?_)
  refine lv_sipush (v := 288) hx hb dX12_set_4 (by decide) ?_
  refine lv_iload_n hx hb dX12_set_7 rfl (lv_at hl 1 rfl) ?_
  refine lv_imul hx hb dX12_set_8 ?_
  refine th_topi (y := 0) (by decide) ?_
  refine lv_iload_n hx hb dX12_set_9 rfl (lv_at hl 2 rfl) ?_
  refine lv_iadd hx hb dX12_set_10 ?_
  refine th_topi (y := 12) (by decide) ?_
  refine lv_iload_n hx hb dX12_set_11 rfl (lv_at hl 3 rfl) ?_
  refine th_iast E hT hS h_1 rfl (by decide) (vp_in_iff.mpr ⟨by decide, by decide⟩) dX12_set_12 (fun H_2 locs_2 hT_2 hU_2 hS_2 => ?_)
  have hU_2 : AU 985 H H_2 (ρ a0 0) 12 x2 := hU_2
  exact th_vret E hr hlk hs hT_2 hS_2 hU_2 dX12_set_13
set_option maxHeartbeats 4000000 in
set_option maxRecDepth 100000 in
/-- the reference: lengthOfIt -/
theorem y_lengthOfIt (l : Launch) (D : va_G) (cI cS : ClassId) (τ : Nat → Option Nat) (ρ : Nat → Nat → Nat) (hW : WF τ ρ) (H : Heap) (hT : TH D cI cS τ ρ H) (a0 : Nat) (ha0 : τ a0 = some 12) : MI l D cI cS τ ρ yX12_lengthOfIt cX12_lengthOfIt 1 (some .int) 0 0 H [.ref a0] (fun (r : Int32) (u : Heap) => (H = u)) (fun q => False) := by
  refine MI.of (by decide) (Nat.le_of_ble_eq_true rfl) ?_
  intro p e s m args below meth c E hml hr hlk hs ls hl
  have hx := E.1
  have hb := E.2.1
  have hown := E.2.2.1
  have hts := E.2.2.2.1
  have hS : SS (fun q => False) H H [] := SS.rf
  have hl : lv_has ls 1 [(0, .ref a0)] := hl
  refine lv_aload_n hx hb dX12_lengthOfIt_0 rfl (lv_at hl 0 rfl) ?_
  refine gf_X12_19 E hT hW ha0 dX12_lengthOfIt_1 (fun h_1 => ?_)
  refine lv_iconst (v := 5) hx hb dX12_lengthOfIt_4 (by decide) ?_
  refine th_iald E hT h_1 (by decide) (vp_in_iff.mpr ⟨by decide, by decide⟩) dX12_lengthOfIt_5 ?_
  refine th_topi (y := ai H (ρ a0 3) 5) rfl ?_
  refine lv_topi (fun x_2 ex_2 => ?_)
  have c_x_2 := congrArg Int32.toInt ex_2.symm
  refine lv_aload_n hx hb dX12_lengthOfIt_6 rfl (lv_at hl 0 rfl) ?_
  refine gf_X12_19 E hT hW ha0 dX12_lengthOfIt_7 (fun h_3 => ?_)
  refine lv_iconst (v := 1) hx hb dX12_lengthOfIt_10 (by decide) ?_
  refine th_iald E hT h_3 (by decide) (vp_in_iff.mpr ⟨by decide, by decide⟩) dX12_lengthOfIt_11 ?_
  refine th_topi (y := ai H (ρ a0 3) 1) rfl ?_
  refine lv_topi (fun x_4 ex_4 => ?_)
  have c_x_4 := congrArg Int32.toInt ex_4.symm
  refine lv_iconst (v := 1) hx hb dX12_lengthOfIt_12 (by decide) ?_
  refine lv_iand hx hb dX12_lengthOfIt_13 ?_
  refine lv_topi (fun x_5 ex_5 => ?_)
  have q_5 := i_msk (k := 1) (x := x_4) (by decide) (by decide) ex_5
  refine lv_iadd hx hb dX12_lengthOfIt_14 ?_
  refine lv_topi (fun x_6 ex_6 => ?_)
  refine lv_aload_n hx hb dX12_lengthOfIt_15 rfl (lv_at hl 0 rfl) ?_
  refine gf_X12_19 E hT hW ha0 dX12_lengthOfIt_16 (fun h_7 => ?_)
  refine lv_iconst (v := 1) hx hb dX12_lengthOfIt_19 (by decide) ?_
  refine th_iald E hT h_7 (by decide) (vp_in_iff.mpr ⟨by decide, by decide⟩) dX12_lengthOfIt_20 ?_
  refine th_topi (y := ai H (ρ a0 3) 1) rfl ?_
  refine th_topi (y := x_4) ex_4.symm ?_
  refine lv_iconst (v := 2) hx hb dX12_lengthOfIt_21 (by decide) ?_
  refine lv_iand hx hb dX12_lengthOfIt_22 ?_
  refine lv_topi (fun x_9 ex_9 => ?_)
  have q_9 := i_msk (k := 2) (x := x_4) (by decide) (by decide) ex_9
  refine lv_iconst (v := 1) hx hb dX12_lengthOfIt_23 (by decide) ?_
  refine lv_ishr hx hb dX12_lengthOfIt_24 ?_
  refine lv_topi (fun x_10 ex_10 => ?_)
  refine lv_iadd hx hb dX12_lengthOfIt_25 ?_
  refine lv_topi (fun x_11 ex_11 => ?_)
  exact th_iret E hr hlk hs hT hS rfl dX12_lengthOfIt_26
set_option maxHeartbeats 4000000 in
set_option maxRecDepth 100000 in
/-- the reference: makes -/
theorem y_makes_v3 (l : Launch) (D : va_G) (cI cS : ClassId) (τ : Nat → Option Nat) (ρ : Nat → Nat → Nat) (hW : WF τ ρ) (H : Heap) (hT : TH D cI cS τ ρ H) (a0 : Nat) (x2 : Int32) (ha0 : τ a0 = some 12) (N : Int) (hN0 : 0 ≤ N) (hN1 : N ≤ 600) (hI : IM D ρ N H a0) : MV l D cI cS τ ρ yX12_makes cX12_makes 5 none 4 91 H [.ref a0, .int 0, .int 4, .int x2] (fun (u : Heap) => (IM D ρ N u a0) ∧ ((ai H (ρ a0 0) 976).toInt ≤ (ai u (ρ a0 0) 976).toInt)) (fun q => q = ρ a0 2) := by
  refine MV.of (by decide) (Nat.le_of_ble_eq_true rfl) ?_
  intro p e s m args below meth c E hml hr hlk hs ls hl
  have hx := E.1
  have hb := E.2.1
  have hown := E.2.2.1
  have hts := E.2.2.2.1
  have hS : SS (fun q => q = ρ a0 2) H H [] := SS.rf
  have hl : lv_has ls 5 [(0, .ref a0), (1, .int 0), (2, .int 4), (3, .int x2)] := hl
  have n01 := hI.2.2.2.2.2.1
  have n23 := hI.2.2.2.2.2.2.1
  have L_3 : ∀ (n : Nat) (H_c3 : Heap) (lc_c3 : List Loc) (ls : Array Slot) (y3_4 : Int32), TH D cI cS τ ρ H_c3 → SS (fun q => q = ρ a0 2) H H_c3 lc_c3 → lv_has ls 5 [(0, .ref a0), (1, .int 0), (2, .int 4), (3, .int x2), (4, .int y3_4)] → 0 ≤ y3_4.toInt → IM D ρ N H_c3 a0 → (ai H (ρ a0 0) 976).toInt ≤ (ai H_c3 (ρ a0 0) 976).toInt → (20 - y3_4.toInt).toNat < n → W p l e (rmO 4 91) s m args below meth c H_c3 lc_c3 0 0 (MQ below (va_Qv (fun (u : Heap) => (IM D ρ N u a0) ∧ ((ai H (ρ a0 0) 976).toInt ≤ (ai u (ρ a0 0) 976).toInt)) (Bt D cI cS τ ρ H) (fun q => q = ρ a0 2)) args s 0 0 (fun q => q = ρ a0 2)) (F0 m 3 ls []) := by
    intro n
    induction n with
    | zero => intro H_c3 lc_c3 ls y3_4 hT_c3 hS_c3 hl ly3_4 hI_c3 hmn_c3 hm; exact absurd hm (Nat.not_lt_zero _)
    | succ n ih_3 =>
      intro H_c3 lc_c3 ls y3_4 hT_c3 hS_c3 hl ly3_4 hI_c3 hmn_c3 hm_3
      refine lv_iload hx hb dX12_makes_3 (lv_at hl 4 rfl) ?_
      refine lv_bipush (v := 20) hx hb dX12_makes_5 (by decide) ?_
      refine lv_icmp_ge (tgt := 55) hx hb dX12_makes_7 (by decide) (fun c_1 => ?_) (fun c_1 => ?_)
      · have f_1 : 20 ≤ y3_4.toInt := r_le (by decide) rfl c_1
        refine lv_aload_n hx hb dX12_makes_55 rfl (lv_at hl 0 rfl) ?_
        refine gf_X12_16 E hT_c3 hW ha0 dX12_makes_56 (fun h_2 => ?_)
        refine lv_iconst (v := 0) hx hb dX12_makes_59 (by decide) ?_
        refine lv_iload_n hx hb dX12_makes_60 rfl (lv_at hl 1 rfl) ?_
        refine th_iast E hT_c3 hS_c3 h_2 rfl (by decide) (vp_in_iff.mpr ⟨by decide, by decide⟩) dX12_makes_61 (fun H_3 locs_3 hT_3 hU_3 hS_3 => ?_)
        have hU_3 : AU 20 H_c3 H_3 (ρ a0 2) 0 (0) := hU_3
        have hL_3 : PL H_3 (ρ a0 2) := PL.put hI_c3.2.2.2.1 hU_3 (by show (0 : Int) ≤ (0 : Int32).toInt; have : (0 : Int32).toInt = 0 := (by decide); omega) (by show (0 : Int32).toInt ≤ (1 : Int); have : (0 : Int32).toInt = 0 := (by decide); omega)
        refine lv_aload_n hx hb dX12_makes_62 rfl (lv_at hl 0 rfl) ?_
        refine gf_X12_16 E hT_3 hW ha0 dX12_makes_63 (fun h_4 => ?_)
        refine lv_iconst (v := 1) hx hb dX12_makes_66 (by decide) ?_
        refine lv_iload_n hx hb dX12_makes_67 rfl (lv_at hl 2 rfl) ?_
        refine th_iast E hT_3 hS_3 h_4 rfl (by decide) (vp_in_iff.mpr ⟨by decide, by decide⟩) dX12_makes_68 (fun H_5 locs_5 hT_5 hU_5 hS_5 => ?_)
        have hU_5 : AU 20 H_3 H_5 (ρ a0 2) 1 (4) := hU_5
        have hL_5 : PL H_5 (ρ a0 2) := PL.put hL_3 hU_5 (by show (-2147483648 : Int) ≤ _; exact i_min _) (by show _ ≤ (2147483647 : Int); exact i_max _)
        refine lv_aload_n hx hb dX12_makes_69 rfl (lv_at hl 0 rfl) ?_
        refine gf_X12_16 E hT_5 hW ha0 dX12_makes_70 (fun h_6 => ?_)
        refine lv_iconst (v := 2) hx hb dX12_makes_73 (by decide) ?_
        refine lv_iload_n hx hb dX12_makes_74 rfl (lv_at hl 3 rfl) ?_
        refine th_iast E hT_5 hS_5 h_6 rfl (by decide) (vp_in_iff.mpr ⟨by decide, by decide⟩) dX12_makes_75 (fun H_7 locs_7 hT_7 hU_7 hS_7 => ?_)
        have hU_7 : AU 20 H_5 H_7 (ρ a0 2) 2 x2 := hU_7
        have hL_7 : PL H_7 (ρ a0 2) := PL.put hL_5 hU_7 (by show (-2147483648 : Int) ≤ _; exact i_min _) (by show _ ≤ (2147483647 : Int); exact i_max _)
        refine lv_iload_n hx hb dX12_makes_76 rfl (lv_at hl 2 rfl) ?_
        refine lv_iconst (v := 4) hx hb dX12_makes_77 (by decide) ?_
        refine lv_iand hx hb dX12_makes_78 ?_
        refine th_topi (y := 4) (by decide) ?_
        refine lv_if_le (tgt := 133) hx hb dX12_makes_79 (by decide) (fun c_8 => absurd c_8 (by decide)) (fun c_8 => ?_)
        refine lv_iload_n hx hb dX12_makes_82 rfl (lv_at hl 2 rfl) ?_
        refine lv_bipush (v := 8) hx hb dX12_makes_83 (by decide) ?_
        refine lv_iand hx hb dX12_makes_85 ?_
        refine th_topi (y := 0) (by decide) ?_
        refine lv_if_ne (tgt := 133) hx hb dX12_makes_86 (by decide) (fun c_9 => absurd (by decide) c_9) (fun c_9 => ?_)
        refine lv_aload_n hx hb dX12_makes_89 rfl (lv_at hl 0 rfl) ?_
        refine gf_X12_16 E hT_7 hW ha0 dX12_makes_90 (fun h_10 => ?_)
        refine lv_iconst (v := 3) hx hb dX12_makes_93 (by decide) ?_
        refine lv_aload_n hx hb dX12_makes_94 rfl (lv_at hl 0 rfl) ?_
        refine lv_iconst (v := 1) hx hb dX12_makes_95 (by decide) ?_
        refine lv_iload_n hx hb dX12_makes_96 rfl (lv_at hl 1 rfl) ?_
        refine lv_isub hx hb dX12_makes_97 ?_
        refine th_topi (y := 1) (by decide) ?_
        refine lv_aload_n hx hb dX12_makes_98 rfl (lv_at hl 0 rfl) ?_
        refine lv_iload_n hx hb dX12_makes_99 rfl (lv_at hl 1 rfl) ?_
        refine lv_iconst (v := 5) hx hb dX12_makes_100 (by decide) ?_
        refine th_Vi (As := [.int 0, .int 5]) (rest := [.int 1, .ref a0, .int 3, .ref (ρ a0 2)]) E hml hl.1 (y_get_v22 l D cI cS τ ρ hW H_7 hT_7 a0 ha0) lk_X12_99 yd_X12_get hT_7 ha0 rfl (by decide) hS_7 (fun _ h => h.elim) ⟨by decide, by decide⟩ (Nat.le_of_ble_eq_true rfl) ⟨by decide, by decide⟩ rfl dX12_makes_101 (fun r_11 H_11 locs_11 p_11 hT_11 hk_11 hS_11 => ?_)
        have p_11 : H_7 = H_11 ∧ (ai H_7 (ρ a0 0) 5 = r_11) := p_11
        obtain ⟨rfl, p_11_0⟩ := p_11
        have t_11 : ai H_c3 (ρ a0 0) 5 = r_11 := (Eq.trans (ai_q (hU_7.2 _ (th_ne (hW _ 12 0 ha0 (by decide) (by decide) (by decide)) (hW _ 12 2 ha0 (by decide) (by decide) (by decide)) (by decide)))) (Eq.trans (ai_q (hU_5.2 _ (th_ne (hW _ 12 0 ha0 (by decide) (by decide) (by decide)) (hW _ 12 2 ha0 (by decide) (by decide) (by decide)) (by decide)))) (ai_q (hU_3.2 _ (th_ne (hW _ 12 0 ha0 (by decide) (by decide) (by decide)) (hW _ 12 2 ha0 (by decide) (by decide) (by decide)) (by decide)))))).symm.trans p_11_0
        have b_r_11 : 0 ≤ r_11.toInt ∧ r_11.toInt ≤ N + 33 := by rw [← t_11]; exact hI_c3.1 5 (by decide)
        have c_r_11 := congrArg Int32.toInt t_11
        refine th_Vi (As := [.int 1, .int r_11]) (rest := [.int 3, .ref (ρ a0 2)]) E hml hl.1 (y_number_v2 l D cI cS τ ρ hW H_7 hT_11 a0 r_11 ha0) lk_X12_112 yd_X12_number hT_11 ha0 rfl (by decide) hS_11 (fun _ h => h.elim) ⟨by decide, by decide⟩ (Nat.le_of_ble_eq_true rfl) ⟨by decide, by decide⟩ rfl dX12_makes_104 (fun r_12 H_12 locs_12 p_12 hT_12 hk_12 hS_12 => ?_)
        have p_12 : H_7 = H_12 := p_12
        obtain rfl := p_12
        refine th_iast E hT_12 hS_12 h_10 rfl (by decide) (vp_in_iff.mpr ⟨by decide, by decide⟩) dX12_makes_107 (fun H_13 locs_13 hT_13 hU_13 hS_13 => ?_)
        have hU_13 : AU 20 H_7 H_13 (ρ a0 2) 3 r_12 := hU_13
        have hL_13 : PL H_13 (ρ a0 2) := PL.put hL_7 hU_13 (by show (-2147483648 : Int) ≤ _; exact i_min _) (by show _ ≤ (2147483647 : Int); exact i_max _)
        refine lv_aload_n hx hb dX12_makes_108 rfl (lv_at hl 0 rfl) ?_
        refine gf_X12_16 E hT_13 hW ha0 dX12_makes_109 (fun h_14 => ?_)
        refine lv_iconst (v := 4) hx hb dX12_makes_112 (by decide) ?_
        refine lv_aload_n hx hb dX12_makes_113 rfl (lv_at hl 0 rfl) ?_
        refine lv_iload_n hx hb dX12_makes_114 rfl (lv_at hl 1 rfl) ?_
        refine lv_bipush (v := 7) hx hb dX12_makes_115 (by decide) ?_
        refine th_Vi (As := [.int 0, .int 7]) (rest := [.int 4, .ref (ρ a0 2)]) E hml hl.1 (y_get_v23 l D cI cS τ ρ hW H_13 hT_13 a0 ha0) lk_X12_99 yd_X12_get hT_13 ha0 rfl (by decide) hS_13 (fun _ h => h.elim) ⟨by decide, by decide⟩ (Nat.le_of_ble_eq_true rfl) ⟨by decide, by decide⟩ rfl dX12_makes_117 (fun r_15 H_15 locs_15 p_15 hT_15 hk_15 hS_15 => ?_)
        have p_15 : H_13 = H_15 ∧ (ai H_13 (ρ a0 0) 7 = r_15) := p_15
        obtain ⟨rfl, p_15_0⟩ := p_15
        have t_15 : ai H_c3 (ρ a0 0) 7 = r_15 := (Eq.trans (ai_q (hU_13.2 _ (th_ne (hW _ 12 0 ha0 (by decide) (by decide) (by decide)) (hW _ 12 2 ha0 (by decide) (by decide) (by decide)) (by decide)))) (Eq.trans (ai_q (hU_7.2 _ (th_ne (hW _ 12 0 ha0 (by decide) (by decide) (by decide)) (hW _ 12 2 ha0 (by decide) (by decide) (by decide)) (by decide)))) (Eq.trans (ai_q (hU_5.2 _ (th_ne (hW _ 12 0 ha0 (by decide) (by decide) (by decide)) (hW _ 12 2 ha0 (by decide) (by decide) (by decide)) (by decide)))) (ai_q (hU_3.2 _ (th_ne (hW _ 12 0 ha0 (by decide) (by decide) (by decide)) (hW _ 12 2 ha0 (by decide) (by decide) (by decide)) (by decide))))))).symm.trans p_15_0
        have b_r_15 : 0 ≤ r_15.toInt ∧ r_15.toInt ≤ N + 33 := by rw [← t_15]; exact hI_c3.1 7 (by decide)
        have c_r_15 := congrArg Int32.toInt t_15
        refine lv_aload_n hx hb dX12_makes_120 rfl (lv_at hl 0 rfl) ?_
        refine lv_iload_n hx hb dX12_makes_121 rfl (lv_at hl 1 rfl) ?_
        refine lv_iconst (v := 5) hx hb dX12_makes_122 (by decide) ?_
        refine th_Vi (As := [.int 0, .int 5]) (rest := [.int r_15, .int 4, .ref (ρ a0 2)]) E hml hl.1 (y_get_v22 l D cI cS τ ρ hW H_13 hT_15 a0 ha0) lk_X12_99 yd_X12_get hT_15 ha0 rfl (by decide) hS_15 (fun _ h => h.elim) ⟨by decide, by decide⟩ (Nat.le_of_ble_eq_true rfl) ⟨by decide, by decide⟩ rfl dX12_makes_123 (fun r_16 H_16 locs_16 p_16 hT_16 hk_16 hS_16 => ?_)
        have p_16 : H_13 = H_16 ∧ (ai H_13 (ρ a0 0) 5 = r_16) := p_16
        obtain ⟨rfl, p_16_0⟩ := p_16
        have s_16 : r_16 = r_11 := p_16_0.symm.trans (Eq.trans (ai_q (hU_13.2 _ (th_ne (hW _ 12 0 ha0 (by decide) (by decide) (by decide)) (hW _ 12 2 ha0 (by decide) (by decide) (by decide)) (by decide)))) ((Eq.trans (ai_q (hU_7.2 _ (th_ne (hW _ 12 0 ha0 (by decide) (by decide) (by decide)) (hW _ 12 2 ha0 (by decide) (by decide) (by decide)) (by decide)))) (Eq.trans (ai_q (hU_5.2 _ (th_ne (hW _ 12 0 ha0 (by decide) (by decide) (by decide)) (hW _ 12 2 ha0 (by decide) (by decide) (by decide)) (by decide)))) (ai_q (hU_3.2 _ (th_ne (hW _ 12 0 ha0 (by decide) (by decide) (by decide)) (hW _ 12 2 ha0 (by decide) (by decide) (by decide)) (by decide)))))).trans t_11))
        refine th_topi s_16 ?_
        refine lv_isub hx hb dX12_makes_126 ?_
        refine lv_topi (fun x_17 ex_17 => ?_)
        have q_17 : x_17.toInt = r_15.toInt - r_11.toInt := i_mi rfl rfl ex_17 (by omega) (by omega)
        refine th_iast E hT_16 hS_16 h_14 rfl (by decide) (vp_in_iff.mpr ⟨by decide, by decide⟩) dX12_makes_127 (fun H_18 locs_18 hT_18 hU_18 hS_18 => ?_)
        have hU_18 : AU 20 H_13 H_18 (ρ a0 2) 4 x_17 := hU_18
        have hL_18 : PL H_18 (ρ a0 2) := PL.put hL_13 hU_18 (by show (-2147483648 : Int) ≤ _; exact i_min _) (by show _ ≤ (2147483647 : Int); exact i_max _)
        refine lv_aload_n hx hb dX12_makes_128 rfl (lv_at hl 0 rfl) ?_
        refine lv_iload_n hx hb dX12_makes_129 rfl (lv_at hl 1 rfl) ?_
        refine th_Vv (As := [.int 0]) (rest := []) E hml hl.1 (y_spans l D cI cS τ ρ hW H_18 hT_18 a0 ha0 N hN0 hN1 ⟨(PW.q (hU_18.2 _ (th_ne (hW _ 12 0 ha0 (by decide) (by decide) (by decide)) (hW _ 12 2 ha0 (by decide) (by decide) (by decide)) (by decide))) (PW.q (hU_13.2 _ (th_ne (hW _ 12 0 ha0 (by decide) (by decide) (by decide)) (hW _ 12 2 ha0 (by decide) (by decide) (by decide)) (by decide))) (PW.q (hU_7.2 _ (th_ne (hW _ 12 0 ha0 (by decide) (by decide) (by decide)) (hW _ 12 2 ha0 (by decide) (by decide) (by decide)) (by decide))) (PW.q (hU_5.2 _ (th_ne (hW _ 12 0 ha0 (by decide) (by decide) (by decide)) (hW _ 12 2 ha0 (by decide) (by decide) (by decide)) (by decide))) (PW.q (hU_3.2 _ (th_ne (hW _ 12 0 ha0 (by decide) (by decide) (by decide)) (hW _ 12 2 ha0 (by decide) (by decide) (by decide)) (by decide))) hI_c3.1))))), (QS.same (Eq.trans (ai_q (hU_18.2 _ (th_ne (hW _ 12 0 ha0 (by decide) (by decide) (by decide)) (hW _ 12 2 ha0 (by decide) (by decide) (by decide)) (by decide)))) (Eq.trans (ai_q (hU_13.2 _ (th_ne (hW _ 12 0 ha0 (by decide) (by decide) (by decide)) (hW _ 12 2 ha0 (by decide) (by decide) (by decide)) (by decide)))) (Eq.trans (ai_q (hU_7.2 _ (th_ne (hW _ 12 0 ha0 (by decide) (by decide) (by decide)) (hW _ 12 2 ha0 (by decide) (by decide) (by decide)) (by decide)))) (Eq.trans (ai_q (hU_5.2 _ (th_ne (hW _ 12 0 ha0 (by decide) (by decide) (by decide)) (hW _ 12 2 ha0 (by decide) (by decide) (by decide)) (by decide)))) (ai_q (hU_3.2 _ (th_ne (hW _ 12 0 ha0 (by decide) (by decide) (by decide)) (hW _ 12 2 ha0 (by decide) (by decide) (by decide)) (by decide)))))))) (Eq.trans (ai_q (hU_18.2 _ (th_ne (hW _ 12 0 ha0 (by decide) (by decide) (by decide)) (hW _ 12 2 ha0 (by decide) (by decide) (by decide)) (by decide)))) (Eq.trans (ai_q (hU_13.2 _ (th_ne (hW _ 12 0 ha0 (by decide) (by decide) (by decide)) (hW _ 12 2 ha0 (by decide) (by decide) (by decide)) (by decide)))) (Eq.trans (ai_q (hU_7.2 _ (th_ne (hW _ 12 0 ha0 (by decide) (by decide) (by decide)) (hW _ 12 2 ha0 (by decide) (by decide) (by decide)) (by decide)))) (Eq.trans (ai_q (hU_5.2 _ (th_ne (hW _ 12 0 ha0 (by decide) (by decide) (by decide)) (hW _ 12 2 ha0 (by decide) (by decide) (by decide)) (by decide)))) (ai_q (hU_3.2 _ (th_ne (hW _ 12 0 ha0 (by decide) (by decide) (by decide)) (hW _ 12 2 ha0 (by decide) (by decide) (by decide)) (by decide)))))))) hI_c3.2.1), (QS.same (Eq.trans (ai_q (hU_18.2 _ (th_ne (hW _ 12 0 ha0 (by decide) (by decide) (by decide)) (hW _ 12 2 ha0 (by decide) (by decide) (by decide)) (by decide)))) (Eq.trans (ai_q (hU_13.2 _ (th_ne (hW _ 12 0 ha0 (by decide) (by decide) (by decide)) (hW _ 12 2 ha0 (by decide) (by decide) (by decide)) (by decide)))) (Eq.trans (ai_q (hU_7.2 _ (th_ne (hW _ 12 0 ha0 (by decide) (by decide) (by decide)) (hW _ 12 2 ha0 (by decide) (by decide) (by decide)) (by decide)))) (Eq.trans (ai_q (hU_5.2 _ (th_ne (hW _ 12 0 ha0 (by decide) (by decide) (by decide)) (hW _ 12 2 ha0 (by decide) (by decide) (by decide)) (by decide)))) (ai_q (hU_3.2 _ (th_ne (hW _ 12 0 ha0 (by decide) (by decide) (by decide)) (hW _ 12 2 ha0 (by decide) (by decide) (by decide)) (by decide)))))))) (Eq.trans (ai_q (hU_18.2 _ (th_ne (hW _ 12 0 ha0 (by decide) (by decide) (by decide)) (hW _ 12 2 ha0 (by decide) (by decide) (by decide)) (by decide)))) (Eq.trans (ai_q (hU_13.2 _ (th_ne (hW _ 12 0 ha0 (by decide) (by decide) (by decide)) (hW _ 12 2 ha0 (by decide) (by decide) (by decide)) (by decide)))) (Eq.trans (ai_q (hU_7.2 _ (th_ne (hW _ 12 0 ha0 (by decide) (by decide) (by decide)) (hW _ 12 2 ha0 (by decide) (by decide) (by decide)) (by decide)))) (Eq.trans (ai_q (hU_5.2 _ (th_ne (hW _ 12 0 ha0 (by decide) (by decide) (by decide)) (hW _ 12 2 ha0 (by decide) (by decide) (by decide)) (by decide)))) (ai_q (hU_3.2 _ (th_ne (hW _ 12 0 ha0 (by decide) (by decide) (by decide)) (hW _ 12 2 ha0 (by decide) (by decide) (by decide)) (by decide)))))))) hI_c3.2.2.1), hL_18, (PL.q (hU_18.2 _ (Ne.symm n23)) (PL.q (hU_13.2 _ (Ne.symm n23)) (PL.q (hU_7.2 _ (Ne.symm n23)) (PL.q (hU_5.2 _ (Ne.symm n23)) (PL.q (hU_3.2 _ (Ne.symm n23)) hI_c3.2.2.2.2.1))))), (IF.q (hU_18.2 _ (th_ne ha0 (hW _ 12 2 ha0 (by decide) (by decide) (by decide)) (by decide))) (IF.q (hU_13.2 _ (th_ne ha0 (hW _ 12 2 ha0 (by decide) (by decide) (by decide)) (by decide))) (IF.q (hU_7.2 _ (th_ne ha0 (hW _ 12 2 ha0 (by decide) (by decide) (by decide)) (by decide))) (IF.q (hU_5.2 _ (th_ne ha0 (hW _ 12 2 ha0 (by decide) (by decide) (by decide)) (by decide))) (IF.q (hU_3.2 _ (th_ne ha0 (hW _ 12 2 ha0 (by decide) (by decide) (by decide)) (by decide))) hI_c3.2.2.2.2.2)))))⟩) lk_X12_115 yd_X12_spans hT_18 ha0 rfl (by decide) hS_18 (fun q h => h) ⟨by decide, by decide⟩ (Nat.le_of_ble_eq_true rfl) ⟨by decide, by decide⟩ rfl dX12_makes_130 (fun H_19 locs_19 p_19 hT_19 hk_19 hS_19 => ?_)
        have p_19 : (IM D ρ N H_19 a0) ∧ ((ai H_18 (ρ a0 0) 976).toInt ≤ (ai H_19 (ρ a0 0) 976).toInt) := p_19
        obtain ⟨p_19_0, p_19_1⟩ := p_19
        have mn_19 : (ai H_c3 (ρ a0 0) 976).toInt ≤ (ai H_19 (ρ a0 0) 976).toInt := by have h := p_19_1; rw [(Eq.trans (ai_q (hU_18.2 _ (th_ne (hW _ 12 0 ha0 (by decide) (by decide) (by decide)) (hW _ 12 2 ha0 (by decide) (by decide) (by decide)) (by decide)))) (Eq.trans (ai_q (hU_13.2 _ (th_ne (hW _ 12 0 ha0 (by decide) (by decide) (by decide)) (hW _ 12 2 ha0 (by decide) (by decide) (by decide)) (by decide)))) (Eq.trans (ai_q (hU_7.2 _ (th_ne (hW _ 12 0 ha0 (by decide) (by decide) (by decide)) (hW _ 12 2 ha0 (by decide) (by decide) (by decide)) (by decide)))) (Eq.trans (ai_q (hU_5.2 _ (th_ne (hW _ 12 0 ha0 (by decide) (by decide) (by decide)) (hW _ 12 2 ha0 (by decide) (by decide) (by decide)) (by decide)))) (ai_q (hU_3.2 _ (th_ne (hW _ 12 0 ha0 (by decide) (by decide) (by decide)) (hW _ 12 2 ha0 (by decide) (by decide) (by decide)) (by decide))))))))] at h; exact h
        exact th_vret E hr hlk hs hT_19 hS_19 ⟨⟨p_19_0.1, p_19_0.2.1, p_19_0.2.2.1, p_19_0.2.2.2.1, p_19_0.2.2.2.2.1, p_19_0.2.2.2.2.2⟩, (by rw [(Eq.trans (ai_q (hk_19 _ (th_ne (hW _ 12 0 ha0 (by decide) (by decide) (by decide)) (hW _ 12 2 ha0 (by decide) (by decide) (by decide)) (by decide)))) (Eq.trans (ai_q (hU_18.2 _ (th_ne (hW _ 12 0 ha0 (by decide) (by decide) (by decide)) (hW _ 12 2 ha0 (by decide) (by decide) (by decide)) (by decide)))) (Eq.trans (ai_q (hU_13.2 _ (th_ne (hW _ 12 0 ha0 (by decide) (by decide) (by decide)) (hW _ 12 2 ha0 (by decide) (by decide) (by decide)) (by decide)))) (Eq.trans (ai_q (hU_7.2 _ (th_ne (hW _ 12 0 ha0 (by decide) (by decide) (by decide)) (hW _ 12 2 ha0 (by decide) (by decide) (by decide)) (by decide)))) (Eq.trans (ai_q (hU_5.2 _ (th_ne (hW _ 12 0 ha0 (by decide) (by decide) (by decide)) (hW _ 12 2 ha0 (by decide) (by decide) (by decide)) (by decide)))) (ai_q (hU_3.2 _ (th_ne (hW _ 12 0 ha0 (by decide) (by decide) (by decide)) (hW _ 12 2 ha0 (by decide) (by decide) (by decide)) (by decide)))))))))]; omega)⟩ dX12_makes_133
      · have f_1 : y3_4.toInt < 20 := r_nle (by decide) rfl c_1
        refine lv_aload_n hx hb dX12_makes_10 rfl (lv_at hl 0 rfl) ?_
        refine gf_X12_16 E hT_c3 hW ha0 dX12_makes_11 (fun h_20 => ?_)
        refine lv_iload hx hb dX12_makes_14 (lv_at hl 4 rfl) ?_
        refine lv_iload hx hb dX12_makes_16 (lv_at hl 4 rfl) ?_
        refine lv_iconst (v := 3) hx hb dX12_makes_18 (by decide) ?_
        refine lv_icmp_lt (tgt := 42) hx hb dX12_makes_19 (by decide) (fun c_21 => ?_) (fun c_21 => ?_)
        · have f_21 : y3_4.toInt < 3 := r_lt rfl (by decide) c_21
          refine lv_iconst (v := 0) hx hb dX12_makes_42 (by decide) ?_
          refine lv_goto (tgt := 48) hx hb dX12_makes_43 (by decide) ?_
          refine th_iast E hT_c3 hS_c3 h_20 rfl (by decide) (vp_in_iff.mpr ⟨by omega, by omega⟩) dX12_makes_48 (fun H_22 locs_22 hT_22 hU_22 hS_22 => ?_)
          have hU_22 : AU 20 H_c3 H_22 (ρ a0 2) y3_4.toInt.toNat (0) := hU_22
          have hL_22 : PL H_22 (ρ a0 2) := PL.zero hI_c3.2.2.2.1 hU_22
          obtain ⟨x_23, ex_23⟩ : ∃ y : Int32, y3_4 + 1 = y := ⟨_, rfl⟩
          have q_x_23 : x_23.toInt = y3_4.toInt + 1 := i_add (k := 1) (by decide) ex_23 (by have := i_min y3_4; omega) (by have := i_max y3_4; omega)
          refine lv_iinc (v := x_23) (lv' := [(4, .int x_23), (0, .ref a0), (1, .int 0), (2, .int 4), (3, .int x2)]) hx hb dX12_makes_49 hl (k := 4) rfl (by rw [← ex_23]; rfl) (by decide) rfl (fun ls hl => ?_)
          refine lv_goto (tgt := 3) hx hb dX12_makes_52 (by decide) ?_
          exact ih_3 H_22 locs_22 _ x_23 hT_22 hS_22 (lv_sub hl [1, 2, 3, 4, 0] rfl) (by omega) ⟨(PW.q (hU_22.2 _ (th_ne (hW _ 12 0 ha0 (by decide) (by decide) (by decide)) (hW _ 12 2 ha0 (by decide) (by decide) (by decide)) (by decide))) hI_c3.1), (QS.same (ai_q (hU_22.2 _ (th_ne (hW _ 12 0 ha0 (by decide) (by decide) (by decide)) (hW _ 12 2 ha0 (by decide) (by decide) (by decide)) (by decide)))) (ai_q (hU_22.2 _ (th_ne (hW _ 12 0 ha0 (by decide) (by decide) (by decide)) (hW _ 12 2 ha0 (by decide) (by decide) (by decide)) (by decide)))) hI_c3.2.1), (QS.same (ai_q (hU_22.2 _ (th_ne (hW _ 12 0 ha0 (by decide) (by decide) (by decide)) (hW _ 12 2 ha0 (by decide) (by decide) (by decide)) (by decide)))) (ai_q (hU_22.2 _ (th_ne (hW _ 12 0 ha0 (by decide) (by decide) (by decide)) (hW _ 12 2 ha0 (by decide) (by decide) (by decide)) (by decide)))) hI_c3.2.2.1), hL_22, (PL.q (hU_22.2 _ (Ne.symm n23)) hI_c3.2.2.2.2.1), (IF.q (hU_22.2 _ (th_ne ha0 (hW _ 12 2 ha0 (by decide) (by decide) (by decide)) (by decide))) hI_c3.2.2.2.2.2)⟩ (by rw [(ai_q (hU_22.2 _ (th_ne (hW _ 12 0 ha0 (by decide) (by decide) (by decide)) (hW _ 12 2 ha0 (by decide) (by decide) (by decide)) (by decide))))]; omega) (by omega)
        · have f_21 : 3 ≤ y3_4.toInt := r_nlt rfl (by decide) c_21
          refine lv_iload hx hb dX12_makes_22 (lv_at hl 4 rfl) ?_
          refine lv_iconst (v := 5) hx hb dX12_makes_24 (by decide) ?_
          refine lv_icmp_eq (tgt := 42) hx hb dX12_makes_25 (by decide) (fun c_24 => ?_) (fun c_24 => ?_)
          · have f_24 : y3_4.toInt = 5 := r_eq rfl (by decide) c_24
            refine lv_iconst (v := 0) hx hb dX12_makes_42 (by decide) ?_
            refine lv_goto (tgt := 48) hx hb dX12_makes_43 (by decide) ?_
            refine th_iast E hT_c3 hS_c3 h_20 rfl (by decide) (vp_in_iff.mpr ⟨by omega, by omega⟩) dX12_makes_48 (fun H_25 locs_25 hT_25 hU_25 hS_25 => ?_)
            have hU_25 : AU 20 H_c3 H_25 (ρ a0 2) y3_4.toInt.toNat (0) := hU_25
            have hL_25 : PL H_25 (ρ a0 2) := PL.zero hI_c3.2.2.2.1 hU_25
            obtain ⟨x_26, ex_26⟩ : ∃ y : Int32, y3_4 + 1 = y := ⟨_, rfl⟩
            have q_x_26 : x_26.toInt = y3_4.toInt + 1 := i_add (k := 1) (by decide) ex_26 (by have := i_min y3_4; omega) (by have := i_max y3_4; omega)
            refine lv_iinc (v := x_26) (lv' := [(4, .int x_26), (0, .ref a0), (1, .int 0), (2, .int 4), (3, .int x2)]) hx hb dX12_makes_49 hl (k := 4) rfl (by rw [← ex_26]; rfl) (by decide) rfl (fun ls hl => ?_)
            refine lv_goto (tgt := 3) hx hb dX12_makes_52 (by decide) ?_
            exact ih_3 H_25 locs_25 _ x_26 hT_25 hS_25 (lv_sub hl [1, 2, 3, 4, 0] rfl) (by omega) ⟨(PW.q (hU_25.2 _ (th_ne (hW _ 12 0 ha0 (by decide) (by decide) (by decide)) (hW _ 12 2 ha0 (by decide) (by decide) (by decide)) (by decide))) hI_c3.1), (QS.same (ai_q (hU_25.2 _ (th_ne (hW _ 12 0 ha0 (by decide) (by decide) (by decide)) (hW _ 12 2 ha0 (by decide) (by decide) (by decide)) (by decide)))) (ai_q (hU_25.2 _ (th_ne (hW _ 12 0 ha0 (by decide) (by decide) (by decide)) (hW _ 12 2 ha0 (by decide) (by decide) (by decide)) (by decide)))) hI_c3.2.1), (QS.same (ai_q (hU_25.2 _ (th_ne (hW _ 12 0 ha0 (by decide) (by decide) (by decide)) (hW _ 12 2 ha0 (by decide) (by decide) (by decide)) (by decide)))) (ai_q (hU_25.2 _ (th_ne (hW _ 12 0 ha0 (by decide) (by decide) (by decide)) (hW _ 12 2 ha0 (by decide) (by decide) (by decide)) (by decide)))) hI_c3.2.2.1), hL_25, (PL.q (hU_25.2 _ (Ne.symm n23)) hI_c3.2.2.2.2.1), (IF.q (hU_25.2 _ (th_ne ha0 (hW _ 12 2 ha0 (by decide) (by decide) (by decide)) (by decide))) hI_c3.2.2.2.2.2)⟩ (by rw [(ai_q (hU_25.2 _ (th_ne (hW _ 12 0 ha0 (by decide) (by decide) (by decide)) (hW _ 12 2 ha0 (by decide) (by decide) (by decide)) (by decide))))]; omega) (by omega)
          · have f_24 : ¬ y3_4.toInt = 5 := r_ne rfl (by decide) c_24
            refine lv_iload hx hb dX12_makes_28 (lv_at hl 4 rfl) ?_
            refine lv_bipush (v := 6) hx hb dX12_makes_30 (by decide) ?_
            refine lv_icmp_eq (tgt := 42) hx hb dX12_makes_32 (by decide) (fun c_27 => ?_) (fun c_27 => ?_)
            · have f_27 : y3_4.toInt = 6 := r_eq rfl (by decide) c_27
              refine lv_iconst (v := 0) hx hb dX12_makes_42 (by decide) ?_
              refine lv_goto (tgt := 48) hx hb dX12_makes_43 (by decide) ?_
              refine th_iast E hT_c3 hS_c3 h_20 rfl (by decide) (vp_in_iff.mpr ⟨by omega, by omega⟩) dX12_makes_48 (fun H_28 locs_28 hT_28 hU_28 hS_28 => ?_)
              have hU_28 : AU 20 H_c3 H_28 (ρ a0 2) y3_4.toInt.toNat (0) := hU_28
              have hL_28 : PL H_28 (ρ a0 2) := PL.zero hI_c3.2.2.2.1 hU_28
              obtain ⟨x_29, ex_29⟩ : ∃ y : Int32, y3_4 + 1 = y := ⟨_, rfl⟩
              have q_x_29 : x_29.toInt = y3_4.toInt + 1 := i_add (k := 1) (by decide) ex_29 (by have := i_min y3_4; omega) (by have := i_max y3_4; omega)
              refine lv_iinc (v := x_29) (lv' := [(4, .int x_29), (0, .ref a0), (1, .int 0), (2, .int 4), (3, .int x2)]) hx hb dX12_makes_49 hl (k := 4) rfl (by rw [← ex_29]; rfl) (by decide) rfl (fun ls hl => ?_)
              refine lv_goto (tgt := 3) hx hb dX12_makes_52 (by decide) ?_
              exact ih_3 H_28 locs_28 _ x_29 hT_28 hS_28 (lv_sub hl [1, 2, 3, 4, 0] rfl) (by omega) ⟨(PW.q (hU_28.2 _ (th_ne (hW _ 12 0 ha0 (by decide) (by decide) (by decide)) (hW _ 12 2 ha0 (by decide) (by decide) (by decide)) (by decide))) hI_c3.1), (QS.same (ai_q (hU_28.2 _ (th_ne (hW _ 12 0 ha0 (by decide) (by decide) (by decide)) (hW _ 12 2 ha0 (by decide) (by decide) (by decide)) (by decide)))) (ai_q (hU_28.2 _ (th_ne (hW _ 12 0 ha0 (by decide) (by decide) (by decide)) (hW _ 12 2 ha0 (by decide) (by decide) (by decide)) (by decide)))) hI_c3.2.1), (QS.same (ai_q (hU_28.2 _ (th_ne (hW _ 12 0 ha0 (by decide) (by decide) (by decide)) (hW _ 12 2 ha0 (by decide) (by decide) (by decide)) (by decide)))) (ai_q (hU_28.2 _ (th_ne (hW _ 12 0 ha0 (by decide) (by decide) (by decide)) (hW _ 12 2 ha0 (by decide) (by decide) (by decide)) (by decide)))) hI_c3.2.2.1), hL_28, (PL.q (hU_28.2 _ (Ne.symm n23)) hI_c3.2.2.2.2.1), (IF.q (hU_28.2 _ (th_ne ha0 (hW _ 12 2 ha0 (by decide) (by decide) (by decide)) (by decide))) hI_c3.2.2.2.2.2)⟩ (by rw [(ai_q (hU_28.2 _ (th_ne (hW _ 12 0 ha0 (by decide) (by decide) (by decide)) (hW _ 12 2 ha0 (by decide) (by decide) (by decide)) (by decide))))]; omega) (by omega)
            · have f_27 : ¬ y3_4.toInt = 6 := r_ne rfl (by decide) c_27
              refine lv_iload hx hb dX12_makes_35 (lv_at hl 4 rfl) ?_
              refine lv_bipush (v := 12) hx hb dX12_makes_37 (by decide) ?_
              refine lv_icmp_lt (tgt := 46) hx hb dX12_makes_39 (by decide) (fun c_30 => ?_) (fun c_30 => ?_)
              · have f_30 : y3_4.toInt < 12 := r_lt rfl (by decide) c_30
                refine lv_bipush (v := (-4)) hx hb dX12_makes_46 (by decide) ?_
                refine th_iast E hT_c3 hS_c3 h_20 rfl (by decide) (vp_in_iff.mpr ⟨by omega, by omega⟩) dX12_makes_48 (fun H_31 locs_31 hT_31 hU_31 hS_31 => ?_)
                have hU_31 : AU 20 H_c3 H_31 (ρ a0 2) y3_4.toInt.toNat ((-4)) := hU_31
                have hL_31 : PL H_31 (ρ a0 2) := PL.free hI_c3.2.2.2.1 hU_31 (by omega)
                obtain ⟨x_32, ex_32⟩ : ∃ y : Int32, y3_4 + 1 = y := ⟨_, rfl⟩
                have q_x_32 : x_32.toInt = y3_4.toInt + 1 := i_add (k := 1) (by decide) ex_32 (by have := i_min y3_4; omega) (by have := i_max y3_4; omega)
                refine lv_iinc (v := x_32) (lv' := [(4, .int x_32), (0, .ref a0), (1, .int 0), (2, .int 4), (3, .int x2)]) hx hb dX12_makes_49 hl (k := 4) rfl (by rw [← ex_32]; rfl) (by decide) rfl (fun ls hl => ?_)
                refine lv_goto (tgt := 3) hx hb dX12_makes_52 (by decide) ?_
                exact ih_3 H_31 locs_31 _ x_32 hT_31 hS_31 (lv_sub hl [1, 2, 3, 4, 0] rfl) (by omega) ⟨(PW.q (hU_31.2 _ (th_ne (hW _ 12 0 ha0 (by decide) (by decide) (by decide)) (hW _ 12 2 ha0 (by decide) (by decide) (by decide)) (by decide))) hI_c3.1), (QS.same (ai_q (hU_31.2 _ (th_ne (hW _ 12 0 ha0 (by decide) (by decide) (by decide)) (hW _ 12 2 ha0 (by decide) (by decide) (by decide)) (by decide)))) (ai_q (hU_31.2 _ (th_ne (hW _ 12 0 ha0 (by decide) (by decide) (by decide)) (hW _ 12 2 ha0 (by decide) (by decide) (by decide)) (by decide)))) hI_c3.2.1), (QS.same (ai_q (hU_31.2 _ (th_ne (hW _ 12 0 ha0 (by decide) (by decide) (by decide)) (hW _ 12 2 ha0 (by decide) (by decide) (by decide)) (by decide)))) (ai_q (hU_31.2 _ (th_ne (hW _ 12 0 ha0 (by decide) (by decide) (by decide)) (hW _ 12 2 ha0 (by decide) (by decide) (by decide)) (by decide)))) hI_c3.2.2.1), hL_31, (PL.q (hU_31.2 _ (Ne.symm n23)) hI_c3.2.2.2.2.1), (IF.q (hU_31.2 _ (th_ne ha0 (hW _ 12 2 ha0 (by decide) (by decide) (by decide)) (by decide))) hI_c3.2.2.2.2.2)⟩ (by rw [(ai_q (hU_31.2 _ (th_ne (hW _ 12 0 ha0 (by decide) (by decide) (by decide)) (hW _ 12 2 ha0 (by decide) (by decide) (by decide)) (by decide))))]; omega) (by omega)
              · have f_30 : 12 ≤ y3_4.toInt := r_nlt rfl (by decide) c_30
                refine lv_iconst (v := 0) hx hb dX12_makes_42 (by decide) ?_
                refine lv_goto (tgt := 48) hx hb dX12_makes_43 (by decide) ?_
                refine th_iast E hT_c3 hS_c3 h_20 rfl (by decide) (vp_in_iff.mpr ⟨by omega, by omega⟩) dX12_makes_48 (fun H_33 locs_33 hT_33 hU_33 hS_33 => ?_)
                have hU_33 : AU 20 H_c3 H_33 (ρ a0 2) y3_4.toInt.toNat (0) := hU_33
                have hL_33 : PL H_33 (ρ a0 2) := PL.zero hI_c3.2.2.2.1 hU_33
                obtain ⟨x_34, ex_34⟩ : ∃ y : Int32, y3_4 + 1 = y := ⟨_, rfl⟩
                have q_x_34 : x_34.toInt = y3_4.toInt + 1 := i_add (k := 1) (by decide) ex_34 (by have := i_min y3_4; omega) (by have := i_max y3_4; omega)
                refine lv_iinc (v := x_34) (lv' := [(4, .int x_34), (0, .ref a0), (1, .int 0), (2, .int 4), (3, .int x2)]) hx hb dX12_makes_49 hl (k := 4) rfl (by rw [← ex_34]; rfl) (by decide) rfl (fun ls hl => ?_)
                refine lv_goto (tgt := 3) hx hb dX12_makes_52 (by decide) ?_
                exact ih_3 H_33 locs_33 _ x_34 hT_33 hS_33 (lv_sub hl [1, 2, 3, 4, 0] rfl) (by omega) ⟨(PW.q (hU_33.2 _ (th_ne (hW _ 12 0 ha0 (by decide) (by decide) (by decide)) (hW _ 12 2 ha0 (by decide) (by decide) (by decide)) (by decide))) hI_c3.1), (QS.same (ai_q (hU_33.2 _ (th_ne (hW _ 12 0 ha0 (by decide) (by decide) (by decide)) (hW _ 12 2 ha0 (by decide) (by decide) (by decide)) (by decide)))) (ai_q (hU_33.2 _ (th_ne (hW _ 12 0 ha0 (by decide) (by decide) (by decide)) (hW _ 12 2 ha0 (by decide) (by decide) (by decide)) (by decide)))) hI_c3.2.1), (QS.same (ai_q (hU_33.2 _ (th_ne (hW _ 12 0 ha0 (by decide) (by decide) (by decide)) (hW _ 12 2 ha0 (by decide) (by decide) (by decide)) (by decide)))) (ai_q (hU_33.2 _ (th_ne (hW _ 12 0 ha0 (by decide) (by decide) (by decide)) (hW _ 12 2 ha0 (by decide) (by decide) (by decide)) (by decide)))) hI_c3.2.2.1), hL_33, (PL.q (hU_33.2 _ (Ne.symm n23)) hI_c3.2.2.2.2.1), (IF.q (hU_33.2 _ (th_ne ha0 (hW _ 12 2 ha0 (by decide) (by decide) (by decide)) (by decide))) hI_c3.2.2.2.2.2)⟩ (by rw [(ai_q (hU_33.2 _ (th_ne (hW _ 12 0 ha0 (by decide) (by decide) (by decide)) (hW _ 12 2 ha0 (by decide) (by decide) (by decide)) (by decide))))]; omega) (by omega)
  refine lv_iconst (v := 0) hx hb dX12_makes_0 (by decide) ?_
  refine lv_istore (lv' := [(4, .int 0), (0, .ref a0), (1, .int 0), (2, .int 4), (3, .int x2)]) hx hb dX12_makes_1 hl (by decide) rfl (fun ls hl => ?_)
  exact L_3 _ H [] _ 0 hT hS (lv_sub hl [1, 2, 3, 4, 0] rfl) (by decide) ⟨hI.1, hI.2.1, hI.2.2.1, hI.2.2.2.1, hI.2.2.2.2.1, hI.2.2.2.2.2⟩ (by omega) (Nat.lt_succ_self _)
set_option maxHeartbeats 4000000 in
set_option maxRecDepth 100000 in
/-- the reference: yes -/
theorem y_yes (l : Launch) (D : va_G) (cI cS : ClassId) (τ : Nat → Option Nat) (ρ : Nat → Nat → Nat) (hW : WF τ ρ) (H : Heap) (hT : TH D cI cS τ ρ H) (a0 : Nat) (ha0 : τ a0 = some 12) (N : Int) (hN0 : 0 ≤ N) (hN1 : N ≤ 600) (hI : IM D ρ N H a0) : MV l D cI cS τ ρ yX12_yes cX12_yes 2 none 5 115 H [.ref a0, .int 0] (fun (u : Heap) => (IM D ρ N u a0) ∧ ((ai H (ρ a0 0) 976).toInt ≤ (ai u (ρ a0 0) 976).toInt)) (fun q => q = ρ a0 2 ∨ q = ρ a0 0) := by
  refine MV.of (by decide) (Nat.le_of_ble_eq_true rfl) ?_
  intro p e s m args below meth c E hml hr hlk hs ls hl
  have hx := E.1
  have hb := E.2.1
  have hown := E.2.2.1
  have hts := E.2.2.2.1
  have hS : SS (fun q => q = ρ a0 2 ∨ q = ρ a0 0) H H [] := SS.rf
  have hl : lv_has ls 2 [(0, .ref a0), (1, .int 0)] := hl
  have n01 := hI.2.2.2.2.2.1
  have n23 := hI.2.2.2.2.2.2.1
  refine lv_aload_n hx hb dX12_yes_0 rfl (lv_at hl 0 rfl) ?_
  refine lv_iload_n hx hb dX12_yes_1 rfl (lv_at hl 1 rfl) ?_
  refine lv_iconst (v := 4) hx hb dX12_yes_2 (by decide) ?_
  refine lv_aload_n hx hb dX12_yes_3 rfl (lv_at hl 0 rfl) ?_
  refine lv_iload_n hx hb dX12_yes_4 rfl (lv_at hl 1 rfl) ?_
  refine lv_aload_n hx hb dX12_yes_5 rfl (lv_at hl 0 rfl) ?_
  refine lv_iload_n hx hb dX12_yes_6 rfl (lv_at hl 1 rfl) ?_
  refine lv_iconst (v := 2) hx hb dX12_yes_7 (by decide) ?_
  refine th_Vi (As := [.int 0, .int 2]) (rest := [.int 0, .ref a0, .int 4, .int 0, .ref a0]) E hml hl.1 (y_get_v16 l D cI cS τ ρ hW H hT a0 ha0) lk_X12_99 yd_X12_get hT ha0 rfl (by decide) hS (fun _ h => h.elim) ⟨by decide, by decide⟩ (Nat.le_of_ble_eq_true rfl) ⟨by decide, by decide⟩ rfl dX12_yes_8 (fun r_1 H_1 locs_1 p_1 hT_1 hk_1 hS_1 => ?_)
  have p_1 : H = H_1 ∧ (ai H (ρ a0 0) 2 = r_1) := p_1
  obtain ⟨rfl, p_1_0⟩ := p_1
  have b_r_1 : 0 ≤ r_1.toInt ∧ r_1.toInt ≤ N + 2 := by rw [← p_1_0]; exact hI.1 2 (by decide)
  have c_r_1 := congrArg Int32.toInt p_1_0
  refine th_Vi (As := [.int 0, .int r_1]) (rest := [.int 4, .int 0, .ref a0]) E hml hl.1 (y_number_v3 l D cI cS τ ρ hW H hT_1 a0 r_1 ha0) lk_X12_112 yd_X12_number hT_1 ha0 rfl (by decide) hS_1 (fun _ h => h.elim) ⟨by decide, by decide⟩ (Nat.le_of_ble_eq_true rfl) ⟨by decide, by decide⟩ rfl dX12_yes_11 (fun r_2 H_2 locs_2 p_2 hT_2 hk_2 hS_2 => ?_)
  have p_2 : H = H_2 := p_2
  obtain rfl := p_2
  refine th_Vv (As := [.int 0, .int 4, .int r_2]) (rest := []) E hml hl.1 (y_makes_v3 l D cI cS τ ρ hW H hT_2 a0 r_2 ha0 N hN0 hN1 ⟨hI.1, hI.2.1, hI.2.2.1, hI.2.2.2.1, hI.2.2.2.2.1, hI.2.2.2.2.2⟩) lk_X12_126 yd_X12_makes hT_2 ha0 rfl (by decide) hS_2 (fun q h => (Or.inl h)) ⟨by decide, by decide⟩ (Nat.le_of_ble_eq_true rfl) ⟨by decide, by decide⟩ rfl dX12_yes_14 (fun H_3 locs_3 p_3 hT_3 hk_3 hS_3 => ?_)
  have p_3 : (IM D ρ N H_3 a0) ∧ ((ai H (ρ a0 0) 976).toInt ≤ (ai H_3 (ρ a0 0) 976).toInt) := p_3
  obtain ⟨p_3_0, p_3_1⟩ := p_3
  have mn_3 : (ai H (ρ a0 0) 976).toInt ≤ (ai H_3 (ρ a0 0) 976).toInt := by exact p_3_1
  refine lv_aload_n hx hb dX12_yes_17 rfl (lv_at hl 0 rfl) ?_
  refine th_Vv (As := []) (rest := []) E hml hl.1 (y_posts l D cI cS τ ρ hW H_3 hT_3 a0 ha0 N hN0 hN1 ⟨p_3_0.1, p_3_0.2.1, p_3_0.2.2.1, p_3_0.2.2.2.1, p_3_0.2.2.2.2.1, p_3_0.2.2.2.2.2⟩) lk_X12_129 yd_X12_posts hT_3 ha0 rfl (by decide) hS_3 (fun q h => (Or.inr h)) ⟨by decide, by decide⟩ (Nat.le_of_ble_eq_true rfl) ⟨by decide, by decide⟩ rfl dX12_yes_18 (fun H_4 locs_4 p_4 hT_4 hk_4 hS_4 => ?_)
  have p_4 : (IM D ρ N H_4 a0) ∧ ((ai H_3 (ρ a0 0) 976).toInt ≤ (ai H_4 (ρ a0 0) 976).toInt) := p_4
  obtain ⟨p_4_0, p_4_1⟩ := p_4
  have mn_4 : (ai H (ρ a0 0) 976).toInt ≤ (ai H_4 (ρ a0 0) 976).toInt := by have h := p_4_1; rw [(ai_q (hk_3 _ (th_ne (hW _ 12 0 ha0 (by decide) (by decide) (by decide)) (hW _ 12 2 ha0 (by decide) (by decide) (by decide)) (by decide))))] at h; exact h
  exact th_vret E hr hlk hs hT_4 hS_4 ⟨⟨p_4_0.1, p_4_0.2.1, p_4_0.2.2.1, p_4_0.2.2.2.1, p_4_0.2.2.2.2.1, p_4_0.2.2.2.2.2⟩, (by omega)⟩ dX12_yes_21
set_option maxHeartbeats 4000000 in
set_option maxRecDepth 100000 in
/-- the reference: greater -/
theorem y_greater_v4 (l : Launch) (D : va_G) (cI cS : ClassId) (τ : Nat → Option Nat) (ρ : Nat → Nat → Nat) (hW : WF τ ρ) (H : Heap) (hT : TH D cI cS τ ρ H) (x0 : Int32) : MI l D cI cS τ ρ yX12_greater cX12_greater 2 (some .int) 0 0 H [.int x0, .int 1] (fun (r : Int32) (u : Heap) => (H = u) ∧ (x0.toInt ≤ r.toInt ∧ 1 ≤ r.toInt ∧ (r.toInt = x0.toInt ∨ r.toInt = 1))) (fun q => False) := by
  refine MI.of (by decide) (Nat.le_of_ble_eq_true rfl) ?_
  intro p e s m args below meth c E hml hr hlk hs ls hl
  have hx := E.1
  have hb := E.2.1
  have hown := E.2.2.1
  have hts := E.2.2.2.1
  have hS : SS (fun q => False) H H [] := SS.rf
  have hl : lv_has ls 2 [(0, .int x0), (1, .int 1)] := hl
  refine lv_iload_n hx hb dX12_greater_0 rfl (lv_at hl 0 rfl) ?_
  refine lv_iload_n hx hb dX12_greater_1 rfl (lv_at hl 1 rfl) ?_
  refine lv_icmp_le (tgt := 9) hx hb dX12_greater_2 (by decide) (fun c_1 => ?_) (fun c_1 => ?_)
  · have f_1 : x0.toInt ≤ 1 := r_le rfl (by decide) c_1
    refine lv_iload_n hx hb dX12_greater_9 rfl (lv_at hl 1 rfl) ?_
    exact th_iret E hr hlk hs hT hS ⟨rfl, (by have : (1 : Int32).toInt = 1 := (by decide); omega)⟩ dX12_greater_10
  · have f_1 : 1 < x0.toInt := r_nle rfl (by decide) c_1
    refine lv_iload_n hx hb dX12_greater_5 rfl (lv_at hl 0 rfl) ?_
    refine lv_goto (tgt := 10) hx hb dX12_greater_6 (by decide) ?_
    exact th_iret E hr hlk hs hT hS ⟨rfl, (by omega)⟩ dX12_greater_10
set_option maxHeartbeats 4000000 in
set_option maxRecDepth 100000 in
/-- the reference: greater -/
theorem y_greater_v5 (l : Launch) (D : va_G) (cI cS : ClassId) (τ : Nat → Option Nat) (ρ : Nat → Nat → Nat) (hW : WF τ ρ) (H : Heap) (hT : TH D cI cS τ ρ H) (x1 : Int32) : MI l D cI cS τ ρ yX12_greater cX12_greater 2 (some .int) 0 0 H [.int 0, .int x1] (fun (r : Int32) (u : Heap) => (H = u) ∧ (0 ≤ r.toInt ∧ x1.toInt ≤ r.toInt ∧ (r.toInt = 0 ∨ r.toInt = x1.toInt))) (fun q => False) := by
  refine MI.of (by decide) (Nat.le_of_ble_eq_true rfl) ?_
  intro p e s m args below meth c E hml hr hlk hs ls hl
  have hx := E.1
  have hb := E.2.1
  have hown := E.2.2.1
  have hts := E.2.2.2.1
  have hS : SS (fun q => False) H H [] := SS.rf
  have hl : lv_has ls 2 [(0, .int 0), (1, .int x1)] := hl
  refine lv_iload_n hx hb dX12_greater_0 rfl (lv_at hl 0 rfl) ?_
  refine lv_iload_n hx hb dX12_greater_1 rfl (lv_at hl 1 rfl) ?_
  refine lv_icmp_le (tgt := 9) hx hb dX12_greater_2 (by decide) (fun c_1 => ?_) (fun c_1 => ?_)
  · have f_1 : 0 ≤ x1.toInt := r_le (by decide) rfl c_1
    refine lv_iload_n hx hb dX12_greater_9 rfl (lv_at hl 1 rfl) ?_
    exact th_iret E hr hlk hs hT hS ⟨rfl, (by omega)⟩ dX12_greater_10
  · have f_1 : x1.toInt < 0 := r_nle (by decide) rfl c_1
    refine lv_iload_n hx hb dX12_greater_5 rfl (lv_at hl 0 rfl) ?_
    refine lv_goto (tgt := 10) hx hb dX12_greater_6 (by decide) ?_
    exact th_iret E hr hlk hs hT hS ⟨rfl, (by have : (0 : Int32).toInt = 0 := (by decide); omega)⟩ dX12_greater_10
set_option maxHeartbeats 4000000 in
set_option maxRecDepth 100000 in
/-- the reference: saidFrom -/
theorem y_saidFrom (l : Launch) (D : va_G) (cI cS : ClassId) (τ : Nat → Option Nat) (ρ : Nat → Nat → Nat) (hW : WF τ ρ) (H : Heap) (hT : TH D cI cS τ ρ H) (a0 : Nat) (x1 : Int32) (ha0 : τ a0 = some 12) (N : Int) (hN0 : 0 ≤ N) (hN1 : N ≤ 600) (hI : IM D ρ N H a0) (hp0 : 0 ≤ x1.toInt ∧ x1.toInt ≤ 700) : MI l D cI cS τ ρ yX12_saidFrom cX12_saidFrom 3 (some .int) 1 22 H [.ref a0, .int 0, .int x1] (fun (r : Int32) (u : Heap) => (H = u) ∧ (0 ≤ r.toInt ∧ (r.toInt = 0 ∨ (1 ≤ x1.toInt ∧ r.toInt = (ai H (ρ a0 0) 4).toInt + 1 - x1.toInt) ∨ (x1.toInt < 1 ∧ r.toInt = (ai H (ρ a0 0) 4).toInt)) ∧ (ai H (ρ a0 0) 4).toInt ≤ N)) (fun q => False) := by
  refine MI.of (by decide) (Nat.le_of_ble_eq_true rfl) ?_
  intro p e s m args below meth c E hml hr hlk hs ls hl
  have hx := E.1
  have hb := E.2.1
  have hown := E.2.2.1
  have hts := E.2.2.2.1
  have hS : SS (fun q => False) H H [] := SS.rf
  have hl : lv_has ls 3 [(0, .ref a0), (1, .int 0), (2, .int x1)] := hl
  have n01 := hI.2.2.2.2.2.1
  have n23 := hI.2.2.2.2.2.2.1
  refine lv_iconst (v := 0) hx hb dX12_saidFrom_0 (by decide) ?_
  refine lv_aload_n hx hb dX12_saidFrom_1 rfl (lv_at hl 0 rfl) ?_
  refine lv_iload_n hx hb dX12_saidFrom_2 rfl (lv_at hl 1 rfl) ?_
  refine lv_iconst (v := 4) hx hb dX12_saidFrom_3 (by decide) ?_
  refine th_Vi (As := [.int 0, .int 4]) (rest := [.int 0]) E hml hl.1 (y_get_v24 l D cI cS τ ρ hW H hT a0 ha0) lk_X12_99 yd_X12_get hT ha0 rfl (by decide) hS (fun _ h => h.elim) ⟨by decide, by decide⟩ (Nat.le_of_ble_eq_true rfl) ⟨by decide, by decide⟩ rfl dX12_saidFrom_4 (fun r_1 H_1 locs_1 p_1 hT_1 hk_1 hS_1 => ?_)
  have p_1 : H = H_1 ∧ (ai H (ρ a0 0) 4 = r_1) := p_1
  obtain ⟨rfl, p_1_0⟩ := p_1
  have b_r_1 : 0 ≤ r_1.toInt ∧ r_1.toInt ≤ N := by rw [← p_1_0]; exact hI.1 4 (by decide)
  have c_r_1 := congrArg Int32.toInt p_1_0
  refine lv_iconst (v := 1) hx hb dX12_saidFrom_7 (by decide) ?_
  refine lv_iadd hx hb dX12_saidFrom_8 ?_
  refine lv_topi (fun x_2 ex_2 => ?_)
  have q_2 : x_2.toInt = r_1.toInt + 1 := i_pl rfl (by decide) ex_2 (by omega) (by omega)
  refine lv_iload_n hx hb dX12_saidFrom_9 rfl (lv_at hl 2 rfl) ?_
  refine lv_iconst (v := 1) hx hb dX12_saidFrom_10 (by decide) ?_
  refine th_Si (As := [.int x1, .int 1]) (rest := [.int x_2, .int 0]) E hml hl.1 (y_greater_v4 l D cI cS τ ρ hW H hT_1 x1) lk_X12_103 yd_X12_greater hS_1 (fun _ h => h.elim) ⟨by decide, by decide⟩ (Nat.le_of_ble_eq_true rfl) ⟨by decide, by decide⟩ rfl dX12_saidFrom_11 (fun r_3 H_3 locs_3 p_3 hT_3 hk_3 hS_3 => ?_)
  have p_3 : H = H_3 ∧ (x1.toInt ≤ r_3.toInt ∧ 1 ≤ r_3.toInt ∧ (r_3.toInt = x1.toInt ∨ r_3.toInt = 1)) := p_3
  obtain ⟨rfl, p_3_0⟩ := p_3
  refine lv_isub hx hb dX12_saidFrom_14 ?_
  refine lv_topi (fun x_4 ex_4 => ?_)
  have q_4 : x_4.toInt = x_2.toInt - r_3.toInt := i_mi rfl rfl ex_4 (by omega) (by omega)
  refine th_Si (As := [.int 0, .int x_4]) (rest := []) E hml hl.1 (y_greater_v5 l D cI cS τ ρ hW H hT_3 x_4) lk_X12_103 yd_X12_greater hS_3 (fun _ h => h.elim) ⟨by decide, by decide⟩ (Nat.le_of_ble_eq_true rfl) ⟨by decide, by decide⟩ rfl dX12_saidFrom_15 (fun r_5 H_5 locs_5 p_5 hT_5 hk_5 hS_5 => ?_)
  have p_5 : H = H_5 ∧ (0 ≤ r_5.toInt ∧ x_4.toInt ≤ r_5.toInt ∧ (r_5.toInt = 0 ∨ r_5.toInt = x_4.toInt)) := p_5
  obtain ⟨rfl, p_5_0⟩ := p_5
  exact th_iret E hr hlk hs hT_5 hS_5 ⟨rfl, (by have : (ai H (ρ a0 0) 4).toInt = (r_1 : Int32).toInt := congrArg Int32.toInt p_1_0; omega)⟩ dX12_saidFrom_18
set_option maxHeartbeats 4000000 in
set_option maxRecDepth 100000 in
/-- the reference: isIn -/
theorem y_isIn (l : Launch) (D : va_G) (cI cS : ClassId) (τ : Nat → Option Nat) (ρ : Nat → Nat → Nat) (hW : WF τ ρ) (H : Heap) (hT : TH D cI cS τ ρ H) (a0 : Nat) (ha0 : τ a0 = some 12) : MI l D cI cS τ ρ yX12_isIn cX12_isIn 4 (some .boolean) 1 22 H [.ref a0, .int 0, .int 4, .int 7] (fun (r : Int32) (u : Heap) => (H = u) ∧ (r = 0 ∨ r = 1) ∧ ((r.toInt = 1 ∧ ((ai H (ρ a0 0) 0).toInt = 4 ∨ (ai H (ρ a0 0) 0).toInt = 7)) ∨ (r.toInt = 0 ∧ ¬ (ai H (ρ a0 0) 0).toInt = 4 ∧ ¬ (ai H (ρ a0 0) 0).toInt = 7))) (fun q => False) := by
  refine MI.of (by decide) (Nat.le_of_ble_eq_true rfl) ?_
  intro p e s m args below meth c E hml hr hlk hs ls hl
  have hx := E.1
  have hb := E.2.1
  have hown := E.2.2.1
  have hts := E.2.2.2.1
  have hS : SS (fun q => False) H H [] := SS.rf
  have hl : lv_has ls 4 [(0, .ref a0), (1, .int 0), (2, .int 4), (3, .int 7)] := hl
  refine lv_aload_n hx hb dX12_isIn_0 rfl (lv_at hl 0 rfl) ?_
  refine lv_iload_n hx hb dX12_isIn_1 rfl (lv_at hl 1 rfl) ?_
  refine lv_iconst (v := 0) hx hb dX12_isIn_2 (by decide) ?_
  refine th_Vi (As := [.int 0, .int 0]) (rest := []) E hml hl.1 (y_get_v21 l D cI cS τ ρ hW H hT a0 ha0) lk_X12_99 yd_X12_get hT ha0 rfl (by decide) hS (fun _ h => h.elim) ⟨by decide, by decide⟩ (Nat.le_of_ble_eq_true rfl) ⟨by decide, by decide⟩ rfl dX12_isIn_3 (fun r_1 H_1 locs_1 p_1 hT_1 hk_1 hS_1 => ?_)
  have p_1 : H = H_1 ∧ (ai H (ρ a0 0) 0 = r_1) := p_1
  obtain ⟨rfl, p_1_0⟩ := p_1
  have c_r_1 := congrArg Int32.toInt p_1_0
  refine lv_iload_n hx hb dX12_isIn_6 rfl (lv_at hl 2 rfl) ?_
  refine lv_icmp_eq (tgt := 20) hx hb dX12_isIn_7 (by decide) (fun c_2 => ?_) (fun c_2 => ?_)
  · have f_2 : r_1.toInt = 4 := r_eq rfl (by decide) c_2
    refine lv_iconst (v := 1) hx hb dX12_isIn_20 (by decide) ?_
    refine lv_goto (tgt := 25) hx hb dX12_isIn_21 (by decide) ?_
    exact th_zret E hr hlk hs (Or.inr rfl) hT_1 hS_1 ⟨rfl, (Or.inr rfl), (by have : (1 : Int32).toInt = 1 := (by decide); have : (ai H (ρ a0 0) 0).toInt = (r_1 : Int32).toInt := congrArg Int32.toInt p_1_0; omega)⟩ dX12_isIn_25
  · have f_2 : ¬ r_1.toInt = 4 := r_ne rfl (by decide) c_2
    refine lv_aload_n hx hb dX12_isIn_10 rfl (lv_at hl 0 rfl) ?_
    refine lv_iload_n hx hb dX12_isIn_11 rfl (lv_at hl 1 rfl) ?_
    refine lv_iconst (v := 0) hx hb dX12_isIn_12 (by decide) ?_
    refine th_Vi (As := [.int 0, .int 0]) (rest := []) E hml hl.1 (y_get_v21 l D cI cS τ ρ hW H hT_1 a0 ha0) lk_X12_99 yd_X12_get hT_1 ha0 rfl (by decide) hS_1 (fun _ h => h.elim) ⟨by decide, by decide⟩ (Nat.le_of_ble_eq_true rfl) ⟨by decide, by decide⟩ rfl dX12_isIn_13 (fun r_3 H_3 locs_3 p_3 hT_3 hk_3 hS_3 => ?_)
    have p_3 : H = H_3 ∧ (ai H (ρ a0 0) 0 = r_3) := p_3
    obtain ⟨rfl, p_3_0⟩ := p_3
    have s_3 : r_3 = r_1 := p_3_0.symm.trans p_1_0
    refine th_topi s_3 ?_
    refine lv_iload_n hx hb dX12_isIn_16 rfl (lv_at hl 3 rfl) ?_
    refine lv_icmp_ne (tgt := 24) hx hb dX12_isIn_17 (by decide) (fun c_4 => ?_) (fun c_4 => ?_)
    · have f_4 : ¬ r_1.toInt = 7 := r_ne rfl (by decide) c_4
      refine lv_iconst (v := 0) hx hb dX12_isIn_24 (by decide) ?_
      exact th_zret E hr hlk hs (Or.inl rfl) hT_3 hS_3 ⟨rfl, (Or.inl rfl), (by have : (0 : Int32).toInt = 0 := (by decide); have : (ai H (ρ a0 0) 0).toInt = (r_1 : Int32).toInt := congrArg Int32.toInt p_1_0; omega)⟩ dX12_isIn_25
    · have f_4 : r_1.toInt = 7 := r_eq rfl (by decide) c_4
      refine lv_iconst (v := 1) hx hb dX12_isIn_20 (by decide) ?_
      refine lv_goto (tgt := 25) hx hb dX12_isIn_21 (by decide) ?_
      exact th_zret E hr hlk hs (Or.inr rfl) hT_3 hS_3 ⟨rfl, (Or.inr rfl), (by have : (1 : Int32).toInt = 1 := (by decide); have : (ai H (ρ a0 0) 0).toInt = (r_1 : Int32).toInt := congrArg Int32.toInt p_1_0; omega)⟩ dX12_isIn_25
set_option maxHeartbeats 4000000 in
set_option maxRecDepth 100000 in
/-- the reference: data -/
theorem y_data_v3 (l : Launch) (D : va_G) (cI cS : ClassId) (τ : Nat → Option Nat) (ρ : Nat → Nat → Nat) (hW : WF τ ρ) (H : Heap) (hT : TH D cI cS τ ρ H) (a0 : Nat) (x1 : Int32) (x2 : Int32) (ha0 : τ a0 = some 12) (N : Int) (hN0 : 0 ≤ N) (hN1 : N ≤ 600) (hI : IM D ρ N H a0) (hp0 : 0 ≤ x1.toInt ∧ x1.toInt ≤ 700) (hp1 : 0 ≤ x2.toInt ∧ x2.toInt ≤ 8) : MV l D cI cS τ ρ yX12_data cX12_data 6 none 5 115 H [.ref a0, .int 0, .int x1, .int x2, .int 0] (fun (u : Heap) => (IM D ρ N u a0) ∧ ((ai H (ρ a0 0) 976).toInt ≤ (ai u (ρ a0 0) 976).toInt)) (fun q => q = ρ a0 2 ∨ q = ρ a0 0) := by
  refine MV.of (by decide) (Nat.le_of_ble_eq_true rfl) ?_
  intro p e s m args below meth c E hml hr hlk hs ls hl
  have hx := E.1
  have hb := E.2.1
  have hown := E.2.2.1
  have hts := E.2.2.2.1
  have hS : SS (fun q => q = ρ a0 2 ∨ q = ρ a0 0) H H [] := SS.rf
  have hl : lv_has ls 6 [(0, .ref a0), (1, .int 0), (2, .int x1), (3, .int x2), (4, .int 0)] := hl
  have n01 := hI.2.2.2.2.2.1
  have n23 := hI.2.2.2.2.2.2.1
  have J_103 : ∀ (H_c103 : Heap) (lc_c103 : List Loc) (ls : Array Slot) (y103_5 : Int32) (z103_2 : Int32), TH D cI cS τ ρ H_c103 → SS (fun q => q = ρ a0 2 ∨ q = ρ a0 0) H H_c103 lc_c103 → lv_has ls 6 [(0, .ref a0), (1, .int 0), (2, .int x1), (3, .int x2), (4, .int 0), (5, .int y103_5)] → 0 ≤ x1.toInt → x1.toInt ≤ 700 → 0 ≤ x2.toInt → x2.toInt ≤ 8 → 0 ≤ y103_5.toInt → y103_5.toInt ≤ 8 → IM D ρ N H_c103 a0 → (ai H (ρ a0 0) 976).toInt ≤ (ai H_c103 (ρ a0 0) 976).toInt → W p l e (rmO 5 115) s m args below meth c H_c103 lc_c103 0 0 (MQ below (va_Qv (fun (u : Heap) => (IM D ρ N u a0) ∧ ((ai H (ρ a0 0) 976).toInt ≤ (ai u (ρ a0 0) 976).toInt)) (Bt D cI cS τ ρ H) (fun q => q = ρ a0 2 ∨ q = ρ a0 0)) args s 0 0 (fun q => q = ρ a0 2 ∨ q = ρ a0 0)) (F0 m 103 ls [.int z103_2, .int 7, .ref (ρ a0 2)]) := by
    intro H_c103 lc_c103 ls y103_5 z103_2 hT_c103 hS_c103 hl ly103_2 uy103_2 ly103_3 uy103_3 ly103_5 uy103_5 hI_c103 hmn_c103
    refine th_iast E hT_c103 hS_c103 (hW _ 12 2 ha0 (by decide) (by decide) (by decide)) (Or.inl rfl) (by decide) (vp_in_iff.mpr ⟨by decide, by decide⟩) dX12_data_103 (fun H_1 locs_1 hT_1 hU_1 hS_1 => ?_)
    have hU_1 : AU 20 H_c103 H_1 (ρ a0 2) 7 z103_2 := hU_1
    have hL_1 : PL H_1 (ρ a0 2) := PL.put hI_c103.2.2.2.1 hU_1 (by show (-2147483648 : Int) ≤ _; exact i_min _) (by show _ ≤ (2147483647 : Int); exact i_max _)
    refine lv_aload_n hx hb dX12_data_104 rfl (lv_at hl 0 rfl) ?_
    refine th_Vv (As := []) (rest := []) E hml hl.1 (y_posts l D cI cS τ ρ hW H_1 hT_1 a0 ha0 N hN0 hN1 ⟨(PW.q (hU_1.2 _ (th_ne (hW _ 12 0 ha0 (by decide) (by decide) (by decide)) (hW _ 12 2 ha0 (by decide) (by decide) (by decide)) (by decide))) hI_c103.1), (QS.same (ai_q (hU_1.2 _ (th_ne (hW _ 12 0 ha0 (by decide) (by decide) (by decide)) (hW _ 12 2 ha0 (by decide) (by decide) (by decide)) (by decide)))) (ai_q (hU_1.2 _ (th_ne (hW _ 12 0 ha0 (by decide) (by decide) (by decide)) (hW _ 12 2 ha0 (by decide) (by decide) (by decide)) (by decide)))) hI_c103.2.1), (QS.same (ai_q (hU_1.2 _ (th_ne (hW _ 12 0 ha0 (by decide) (by decide) (by decide)) (hW _ 12 2 ha0 (by decide) (by decide) (by decide)) (by decide)))) (ai_q (hU_1.2 _ (th_ne (hW _ 12 0 ha0 (by decide) (by decide) (by decide)) (hW _ 12 2 ha0 (by decide) (by decide) (by decide)) (by decide)))) hI_c103.2.2.1), hL_1, (PL.q (hU_1.2 _ (Ne.symm n23)) hI_c103.2.2.2.2.1), (IF.q (hU_1.2 _ (th_ne ha0 (hW _ 12 2 ha0 (by decide) (by decide) (by decide)) (by decide))) hI_c103.2.2.2.2.2)⟩) lk_X12_129 yd_X12_posts hT_1 ha0 rfl (by decide) hS_1 (fun q h => (Or.inr h)) ⟨by decide, by decide⟩ (Nat.le_of_ble_eq_true rfl) ⟨by decide, by decide⟩ rfl dX12_data_105 (fun H_2 locs_2 p_2 hT_2 hk_2 hS_2 => ?_)
    have p_2 : (IM D ρ N H_2 a0) ∧ ((ai H_1 (ρ a0 0) 976).toInt ≤ (ai H_2 (ρ a0 0) 976).toInt) := p_2
    obtain ⟨p_2_0, p_2_1⟩ := p_2
    have mn_2 : (ai H_c103 (ρ a0 0) 976).toInt ≤ (ai H_2 (ρ a0 0) 976).toInt := by have h := p_2_1; rw [(ai_q (hU_1.2 _ (th_ne (hW _ 12 0 ha0 (by decide) (by decide) (by decide)) (hW _ 12 2 ha0 (by decide) (by decide) (by decide)) (by decide))))] at h; exact h
    exact th_vret E hr hlk hs hT_2 hS_2 ⟨⟨p_2_0.1, p_2_0.2.1, p_2_0.2.2.1, p_2_0.2.2.2.1, p_2_0.2.2.2.2.1, p_2_0.2.2.2.2.2⟩, (by omega)⟩ dX12_data_108
  have L_32 : ∀ (n : Nat) (H_c32 : Heap) (lc_c32 : List Loc) (ls : Array Slot) (y32_5 : Int32), TH D cI cS τ ρ H_c32 → SS (fun q => q = ρ a0 2 ∨ q = ρ a0 0) H H_c32 lc_c32 → lv_has ls 6 [(0, .ref a0), (1, .int 0), (2, .int x1), (3, .int x2), (4, .int 0), (5, .int y32_5)] → 0 ≤ x1.toInt → x1.toInt ≤ 700 → 0 ≤ x2.toInt → x2.toInt ≤ 8 → 0 ≤ y32_5.toInt → y32_5.toInt ≤ 8 → IM D ρ N H_c32 a0 → (ai H (ρ a0 0) 976).toInt ≤ (ai H_c32 (ρ a0 0) 976).toInt → (x2.toInt - y32_5.toInt).toNat < n → W p l e (rmO 5 115) s m args below meth c H_c32 lc_c32 0 0 (MQ below (va_Qv (fun (u : Heap) => (IM D ρ N u a0) ∧ ((ai H (ρ a0 0) 976).toInt ≤ (ai u (ρ a0 0) 976).toInt)) (Bt D cI cS τ ρ H) (fun q => q = ρ a0 2 ∨ q = ρ a0 0)) args s 0 0 (fun q => q = ρ a0 2 ∨ q = ρ a0 0)) (F0 m 32 ls []) := by
    intro n
    induction n with
    | zero => intro H_c32 lc_c32 ls y32_5 hT_c32 hS_c32 hl ly32_2 uy32_2 ly32_3 uy32_3 ly32_5 uy32_5 hI_c32 hmn_c32 hm; exact absurd hm (Nat.not_lt_zero _)
    | succ n ih_32 =>
      intro H_c32 lc_c32 ls y32_5 hT_c32 hS_c32 hl ly32_2 uy32_2 ly32_3 uy32_3 ly32_5 uy32_5 hI_c32 hmn_c32 hm_32
      refine lv_iload hx hb dX12_data_32 (lv_at hl 5 rfl) ?_
      refine lv_iload_n hx hb dX12_data_34 rfl (lv_at hl 3 rfl) ?_
      refine lv_icmp_ge (tgt := 69) hx hb dX12_data_35 (by decide) (fun c_3 => ?_) (fun c_3 => ?_)
      · have f_3 : x2.toInt ≤ y32_5.toInt := r_le rfl rfl c_3
        refine lv_aload_n hx hb dX12_data_69 rfl (lv_at hl 0 rfl) ?_
        refine gf_X12_16 E hT_c32 hW ha0 dX12_data_70 (fun h_4 => ?_)
        refine lv_bipush (v := 7) hx hb dX12_data_73 (by decide) ?_
        refine lv_iload_n hx hb dX12_data_75 rfl (lv_at hl 2 rfl) ?_
        refine lv_aload_n hx hb dX12_data_76 rfl (lv_at hl 0 rfl) ?_
        refine lv_iload_n hx hb dX12_data_77 rfl (lv_at hl 1 rfl) ?_
        refine lv_bipush (v := 14) hx hb dX12_data_78 (by decide) ?_
        refine th_Vi (As := [.int 0, .int 14]) (rest := [.int x1, .int 7, .ref (ρ a0 2)]) E hml hl.1 (y_get_v25 l D cI cS τ ρ hW H_c32 hT_c32 a0 ha0) lk_X12_99 yd_X12_get hT_c32 ha0 rfl (by decide) hS_c32 (fun _ h => h.elim) ⟨by decide, by decide⟩ (Nat.le_of_ble_eq_true rfl) ⟨by decide, by decide⟩ rfl dX12_data_80 (fun r_5 H_5 locs_5 p_5 hT_5 hk_5 hS_5 => ?_)
        have p_5 : H_c32 = H_5 ∧ (ai H_c32 (ρ a0 0) 14 = r_5) := p_5
        obtain ⟨rfl, p_5_0⟩ := p_5
        have c_r_5 := congrArg Int32.toInt p_5_0
        refine lv_icmp_ge (tgt := 101) hx hb dX12_data_83 (by decide) (fun c_6 => ?_) (fun c_6 => ?_)
        · have f_6 : r_5.toInt ≤ x1.toInt := r_le rfl rfl c_6
          refine lv_bipush (v := (-4)) hx hb dX12_data_101 (by decide) ?_
          exact J_103 H_c32 locs_5 _ y32_5 (-4) hT_5 hS_5 hl (by omega) (by omega) (by omega) (by omega) (by omega) (by omega) ⟨hI_c32.1, hI_c32.2.1, hI_c32.2.2.1, hI_c32.2.2.2.1, hI_c32.2.2.2.2.1, hI_c32.2.2.2.2.2⟩ (by omega)
        · have f_6 : x1.toInt < r_5.toInt := r_nle rfl rfl c_6
          refine lv_aload_n hx hb dX12_data_86 rfl (lv_at hl 0 rfl) ?_
          refine lv_iload_n hx hb dX12_data_87 rfl (lv_at hl 1 rfl) ?_
          refine lv_aload_n hx hb dX12_data_88 rfl (lv_at hl 0 rfl) ?_
          refine lv_iload_n hx hb dX12_data_89 rfl (lv_at hl 1 rfl) ?_
          refine lv_bipush (v := 14) hx hb dX12_data_90 (by decide) ?_
          refine th_Vi (As := [.int 0, .int 14]) (rest := [.int 0, .ref a0, .int 7, .ref (ρ a0 2)]) E hml hl.1 (y_get_v25 l D cI cS τ ρ hW H_c32 hT_5 a0 ha0) lk_X12_99 yd_X12_get hT_5 ha0 rfl (by decide) hS_5 (fun _ h => h.elim) ⟨by decide, by decide⟩ (Nat.le_of_ble_eq_true rfl) ⟨by decide, by decide⟩ rfl dX12_data_92 (fun r_7 H_7 locs_7 p_7 hT_7 hk_7 hS_7 => ?_)
          have p_7 : H_c32 = H_7 ∧ (ai H_c32 (ρ a0 0) 14 = r_7) := p_7
          obtain ⟨rfl, p_7_0⟩ := p_7
          have s_7 : r_7 = r_5 := p_7_0.symm.trans p_5_0
          refine th_topi s_7 ?_
          refine th_Vi (As := [.int 0, .int r_5]) (rest := [.int 7, .ref (ρ a0 2)]) E hml hl.1 (y_number_v3 l D cI cS τ ρ hW H_c32 hT_7 a0 r_5 ha0) lk_X12_112 yd_X12_number hT_7 ha0 rfl (by decide) hS_7 (fun _ h => h.elim) ⟨by decide, by decide⟩ (Nat.le_of_ble_eq_true rfl) ⟨by decide, by decide⟩ rfl dX12_data_95 (fun r_8 H_8 locs_8 p_8 hT_8 hk_8 hS_8 => ?_)
          have p_8 : H_c32 = H_8 := p_8
          obtain rfl := p_8
          refine lv_goto (tgt := 103) hx hb dX12_data_98 (by decide) ?_
          exact J_103 H_c32 locs_8 _ y32_5 r_8 hT_8 hS_8 hl (by omega) (by omega) (by omega) (by omega) (by omega) (by omega) ⟨hI_c32.1, hI_c32.2.1, hI_c32.2.2.1, hI_c32.2.2.2.1, hI_c32.2.2.2.2.1, hI_c32.2.2.2.2.2⟩ (by omega)
      · have f_3 : y32_5.toInt < x2.toInt := r_nle rfl rfl c_3
        refine lv_aload_n hx hb dX12_data_38 rfl (lv_at hl 0 rfl) ?_
        refine gf_X12_16 E hT_c32 hW ha0 dX12_data_39 (fun h_9 => ?_)
        refine lv_bipush (v := 12) hx hb dX12_data_42 (by decide) ?_
        refine lv_iload hx hb dX12_data_44 (lv_at hl 5 rfl) ?_
        refine lv_iadd hx hb dX12_data_46 ?_
        refine lv_topi (fun x_10 ex_10 => ?_)
        have q_10 : x_10.toInt = 12 + y32_5.toInt := i_pl (by decide) rfl ex_10 (by omega) (by omega)
        refine lv_aload_n hx hb dX12_data_47 rfl (lv_at hl 0 rfl) ?_
        refine lv_iload_n hx hb dX12_data_48 rfl (lv_at hl 1 rfl) ?_
        refine lv_bipush (v := 32) hx hb dX12_data_49 (by decide) ?_
        refine lv_iload_n hx hb dX12_data_51 rfl (lv_at hl 2 rfl) ?_
        refine lv_iload hx hb dX12_data_52 (lv_at hl 5 rfl) ?_
        refine lv_iadd hx hb dX12_data_54 ?_
        refine lv_topi (fun x_11 ex_11 => ?_)
        have q_11 : x_11.toInt = x1.toInt + y32_5.toInt := i_pl rfl rfl ex_11 (by omega) (by omega)
        refine lv_bipush (v := 64) hx hb dX12_data_55 (by decide) ?_
        refine lv_irem hx hb dX12_data_57 (by decide) ?_
        refine lv_topi (fun x_12 ex_12 => ?_)
        have q_12 := i_rem (k := 64) (x := x_11) (by decide) (by decide) ex_12
        have p_12 : 0 ≤ x_12.toInt := q_12.2.2 (by omega)
        refine lv_iadd hx hb dX12_data_58 ?_
        refine lv_topi (fun x_13 ex_13 => ?_)
        have q_13 : x_13.toInt = 32 + x_12.toInt := i_pl (by decide) rfl ex_13 (by omega) (by omega)
        refine th_Vi (As := [.int 0, .int x_13]) (rest := [.int x_10, .ref (ρ a0 2)]) E hml hl.1 (y_get_v14 l D cI cS τ ρ hW H_c32 hT_c32 a0 x_13 ha0 (by omega)) lk_X12_99 yd_X12_get hT_c32 ha0 rfl (by decide) hS_c32 (fun _ h => h.elim) ⟨by decide, by decide⟩ (Nat.le_of_ble_eq_true rfl) ⟨by decide, by decide⟩ rfl dX12_data_59 (fun r_14 H_14 locs_14 p_14 hT_14 hk_14 hS_14 => ?_)
        have p_14 : H_c32 = H_14 ∧ (ai H_c32 (ρ a0 0) (0 + x_13.toInt).toNat = r_14) := p_14
        obtain ⟨rfl, p_14_0⟩ := p_14
        refine th_iast E hT_14 hS_14 h_9 (Or.inl rfl) (by decide) (vp_in_iff.mpr ⟨by omega, by omega⟩) dX12_data_62 (fun H_15 locs_15 hT_15 hU_15 hS_15 => ?_)
        have hU_15 : AU 20 H_c32 H_15 (ρ a0 2) x_10.toInt.toNat r_14 := hU_15
        have hL_15 : PL H_15 (ρ a0 2) := PL.free hI_c32.2.2.2.1 hU_15 (by omega)
        obtain ⟨x_16, ex_16⟩ : ∃ y : Int32, y32_5 + 1 = y := ⟨_, rfl⟩
        have q_x_16 : x_16.toInt = y32_5.toInt + 1 := i_add (k := 1) (by decide) ex_16 (by have := i_min y32_5; omega) (by have := i_max y32_5; omega)
        refine lv_iinc (v := x_16) (lv' := [(5, .int x_16), (0, .ref a0), (1, .int 0), (2, .int x1), (3, .int x2), (4, .int 0)]) hx hb dX12_data_63 hl (k := 5) rfl (by rw [← ex_16]; rfl) (by decide) rfl (fun ls hl => ?_)
        refine lv_goto (tgt := 32) hx hb dX12_data_66 (by decide) ?_
        exact ih_32 H_15 locs_15 _ x_16 hT_15 hS_15 (lv_sub hl [1, 2, 3, 4, 5, 0] rfl) (by omega) (by omega) (by omega) (by omega) (by omega) (by omega) ⟨(PW.q (hU_15.2 _ (th_ne (hW _ 12 0 ha0 (by decide) (by decide) (by decide)) (hW _ 12 2 ha0 (by decide) (by decide) (by decide)) (by decide))) hI_c32.1), (QS.same (ai_q (hU_15.2 _ (th_ne (hW _ 12 0 ha0 (by decide) (by decide) (by decide)) (hW _ 12 2 ha0 (by decide) (by decide) (by decide)) (by decide)))) (ai_q (hU_15.2 _ (th_ne (hW _ 12 0 ha0 (by decide) (by decide) (by decide)) (hW _ 12 2 ha0 (by decide) (by decide) (by decide)) (by decide)))) hI_c32.2.1), (QS.same (ai_q (hU_15.2 _ (th_ne (hW _ 12 0 ha0 (by decide) (by decide) (by decide)) (hW _ 12 2 ha0 (by decide) (by decide) (by decide)) (by decide)))) (ai_q (hU_15.2 _ (th_ne (hW _ 12 0 ha0 (by decide) (by decide) (by decide)) (hW _ 12 2 ha0 (by decide) (by decide) (by decide)) (by decide)))) hI_c32.2.2.1), hL_15, (PL.q (hU_15.2 _ (Ne.symm n23)) hI_c32.2.2.2.2.1), (IF.q (hU_15.2 _ (th_ne ha0 (hW _ 12 2 ha0 (by decide) (by decide) (by decide)) (by decide))) hI_c32.2.2.2.2.2)⟩ (by rw [(ai_q (hU_15.2 _ (th_ne (hW _ 12 0 ha0 (by decide) (by decide) (by decide)) (hW _ 12 2 ha0 (by decide) (by decide) (by decide)) (by decide))))]; omega) (by omega)
  have J_13 : ∀ (H_c13 : Heap) (lc_c13 : List Loc) (ls : Array Slot), TH D cI cS τ ρ H_c13 → SS (fun q => q = ρ a0 2 ∨ q = ρ a0 0) H H_c13 lc_c13 → lv_has ls 6 [(0, .ref a0), (1, .int 0), (2, .int x1), (3, .int x2), (4, .int 0)] → 0 ≤ x1.toInt → x1.toInt ≤ 700 → 0 ≤ x2.toInt → x2.toInt ≤ 8 → IM D ρ N H_c13 a0 → (ai H (ρ a0 0) 976).toInt ≤ (ai H_c13 (ρ a0 0) 976).toInt → W p l e (rmO 5 115) s m args below meth c H_c13 lc_c13 0 0 (MQ below (va_Qv (fun (u : Heap) => (IM D ρ N u a0) ∧ ((ai H (ρ a0 0) 976).toInt ≤ (ai u (ρ a0 0) 976).toInt)) (Bt D cI cS τ ρ H) (fun q => q = ρ a0 2 ∨ q = ρ a0 0)) args s 0 0 (fun q => q = ρ a0 2 ∨ q = ρ a0 0)) (F0 m 13 ls [.int 4, .int 0, .ref a0]) := by
    intro H_c13 lc_c13 ls hT_c13 hS_c13 hl ly13_2 uy13_2 ly13_3 uy13_3 hI_c13 hmn_c13
    refine lv_aload_n hx hb dX12_data_13 rfl (lv_at hl 0 rfl) ?_
    refine lv_iload_n hx hb dX12_data_14 rfl (lv_at hl 1 rfl) ?_
    refine lv_iload_n hx hb dX12_data_15 rfl (lv_at hl 2 rfl) ?_
    refine th_Vi (As := [.int 0, .int x1]) (rest := [.int 4, .int 0, .ref a0]) E hml hl.1 (y_number_v3 l D cI cS τ ρ hW H_c13 hT_c13 a0 x1 ha0) lk_X12_112 yd_X12_number hT_c13 ha0 rfl (by decide) hS_c13 (fun _ h => h.elim) ⟨by decide, by decide⟩ (Nat.le_of_ble_eq_true rfl) ⟨by decide, by decide⟩ rfl dX12_data_16 (fun r_17 H_17 locs_17 p_17 hT_17 hk_17 hS_17 => ?_)
    have p_17 : H_c13 = H_17 := p_17
    obtain rfl := p_17
    refine th_Vv (As := [.int 0, .int 4, .int r_17]) (rest := []) E hml hl.1 (y_makes_v3 l D cI cS τ ρ hW H_c13 hT_17 a0 r_17 ha0 N hN0 hN1 ⟨hI_c13.1, hI_c13.2.1, hI_c13.2.2.1, hI_c13.2.2.2.1, hI_c13.2.2.2.2.1, hI_c13.2.2.2.2.2⟩) lk_X12_126 yd_X12_makes hT_17 ha0 rfl (by decide) hS_17 (fun q h => (Or.inl h)) ⟨by decide, by decide⟩ (Nat.le_of_ble_eq_true rfl) ⟨by decide, by decide⟩ rfl dX12_data_19 (fun H_18 locs_18 p_18 hT_18 hk_18 hS_18 => ?_)
    have p_18 : (IM D ρ N H_18 a0) ∧ ((ai H_c13 (ρ a0 0) 976).toInt ≤ (ai H_18 (ρ a0 0) 976).toInt) := p_18
    obtain ⟨p_18_0, p_18_1⟩ := p_18
    have mn_18 : (ai H_c13 (ρ a0 0) 976).toInt ≤ (ai H_18 (ρ a0 0) 976).toInt := by exact p_18_1
    refine lv_aload_n hx hb dX12_data_22 rfl (lv_at hl 0 rfl) ?_
    refine gf_X12_16 E hT_18 hW ha0 dX12_data_23 (fun h_19 => ?_)
    refine lv_iconst (v := 5) hx hb dX12_data_26 (by decide) ?_
    refine lv_iload_n hx hb dX12_data_27 rfl (lv_at hl 3 rfl) ?_
    refine th_iast E hT_18 hS_18 h_19 (Or.inl rfl) (by decide) (vp_in_iff.mpr ⟨by decide, by decide⟩) dX12_data_28 (fun H_20 locs_20 hT_20 hU_20 hS_20 => ?_)
    have hU_20 : AU 20 H_18 H_20 (ρ a0 2) 5 x2 := hU_20
    have hL_20 : PL H_20 (ρ a0 2) := PL.put p_18_0.2.2.2.1 hU_20 (by show (0 : Int) ≤ x2.toInt; omega) (by show x2.toInt ≤ (8 : Int); omega)
    refine lv_iconst (v := 0) hx hb dX12_data_29 (by decide) ?_
    refine lv_istore (lv' := [(5, .int 0), (0, .ref a0), (1, .int 0), (2, .int x1), (3, .int x2), (4, .int 0)]) hx hb dX12_data_30 hl (by decide) rfl (fun ls hl => ?_)
    exact L_32 _ H_20 locs_20 _ 0 hT_20 hS_20 (lv_sub hl [1, 2, 3, 4, 5, 0] rfl) (by omega) (by omega) (by omega) (by omega) (by decide) (by decide) ⟨(PW.q (hU_20.2 _ (th_ne (hW _ 12 0 ha0 (by decide) (by decide) (by decide)) (hW _ 12 2 ha0 (by decide) (by decide) (by decide)) (by decide))) p_18_0.1), (QS.same ((Eq.trans (ai_q (hU_20.2 _ (th_ne (hW _ 12 0 ha0 (by decide) (by decide) (by decide)) (hW _ 12 2 ha0 (by decide) (by decide) (by decide)) (by decide)))) (ai_q (hk_18 _ (th_ne (hW _ 12 0 ha0 (by decide) (by decide) (by decide)) (hW _ 12 2 ha0 (by decide) (by decide) (by decide)) (by decide))))).trans (ai_q (hk_18 _ (th_ne (hW _ 12 0 ha0 (by decide) (by decide) (by decide)) (hW _ 12 2 ha0 (by decide) (by decide) (by decide)) (by decide)))).symm) ((Eq.trans (ai_q (hU_20.2 _ (th_ne (hW _ 12 0 ha0 (by decide) (by decide) (by decide)) (hW _ 12 2 ha0 (by decide) (by decide) (by decide)) (by decide)))) (ai_q (hk_18 _ (th_ne (hW _ 12 0 ha0 (by decide) (by decide) (by decide)) (hW _ 12 2 ha0 (by decide) (by decide) (by decide)) (by decide))))).trans (ai_q (hk_18 _ (th_ne (hW _ 12 0 ha0 (by decide) (by decide) (by decide)) (hW _ 12 2 ha0 (by decide) (by decide) (by decide)) (by decide)))).symm) p_18_0.2.1), (QS.same ((Eq.trans (ai_q (hU_20.2 _ (th_ne (hW _ 12 0 ha0 (by decide) (by decide) (by decide)) (hW _ 12 2 ha0 (by decide) (by decide) (by decide)) (by decide)))) (ai_q (hk_18 _ (th_ne (hW _ 12 0 ha0 (by decide) (by decide) (by decide)) (hW _ 12 2 ha0 (by decide) (by decide) (by decide)) (by decide))))).trans (ai_q (hk_18 _ (th_ne (hW _ 12 0 ha0 (by decide) (by decide) (by decide)) (hW _ 12 2 ha0 (by decide) (by decide) (by decide)) (by decide)))).symm) ((Eq.trans (ai_q (hU_20.2 _ (th_ne (hW _ 12 0 ha0 (by decide) (by decide) (by decide)) (hW _ 12 2 ha0 (by decide) (by decide) (by decide)) (by decide)))) (ai_q (hk_18 _ (th_ne (hW _ 12 0 ha0 (by decide) (by decide) (by decide)) (hW _ 12 2 ha0 (by decide) (by decide) (by decide)) (by decide))))).trans (ai_q (hk_18 _ (th_ne (hW _ 12 0 ha0 (by decide) (by decide) (by decide)) (hW _ 12 2 ha0 (by decide) (by decide) (by decide)) (by decide)))).symm) p_18_0.2.2.1), hL_20, (PL.q (hU_20.2 _ (Ne.symm n23)) p_18_0.2.2.2.2.1), (IF.q (hU_20.2 _ (th_ne ha0 (hW _ 12 2 ha0 (by decide) (by decide) (by decide)) (by decide))) p_18_0.2.2.2.2.2)⟩ (by rw [(Eq.trans (ai_q (hU_20.2 _ (th_ne (hW _ 12 0 ha0 (by decide) (by decide) (by decide)) (hW _ 12 2 ha0 (by decide) (by decide) (by decide)) (by decide)))) (ai_q (hk_18 _ (th_ne (hW _ 12 0 ha0 (by decide) (by decide) (by decide)) (hW _ 12 2 ha0 (by decide) (by decide) (by decide)) (by decide)))))]; omega) (Nat.lt_succ_self _)
  refine lv_aload_n hx hb dX12_data_0 rfl (lv_at hl 0 rfl) ?_
  refine lv_iload_n hx hb dX12_data_1 rfl (lv_at hl 1 rfl) ?_
  refine lv_iload hx hb dX12_data_2 (lv_at hl 4 rfl) ?_
  refine lv_if_eq (tgt := 12) hx hb dX12_data_4 (by decide) (fun c_21 => ?_) (fun c_21 => absurd (by decide) c_21)
  refine lv_iconst (v := 4) hx hb dX12_data_12 (by decide) ?_
  exact J_13 H [] _ hT hS hl (by omega) (by omega) (by omega) (by omega) ⟨hI.1, hI.2.1, hI.2.2.1, hI.2.2.2.1, hI.2.2.2.2.1, hI.2.2.2.2.2⟩ (by omega)
set_option maxHeartbeats 4000000 in
set_option maxRecDepth 100000 in
/-- the reference: set -/
theorem y_set_v37 (l : Launch) (D : va_G) (cI cS : ClassId) (τ : Nat → Option Nat) (ρ : Nat → Nat → Nat) (hW : WF τ ρ) (H : Heap) (hT : TH D cI cS τ ρ H) (a0 : Nat) (x2 : Int32) (ha0 : τ a0 = some 12) : MV l D cI cS τ ρ yX12_set cX12_set 4 none 0 0 H [.ref a0, .int 0, .int 16, .int x2] (fun (u : Heap) => (AU 985 H u (ρ a0 0) 16 x2)) (fun q => q = ρ a0 0) := by
  refine MV.of (by decide) (Nat.le_of_ble_eq_true rfl) ?_
  intro p e s m args below meth c E hml hr hlk hs ls hl
  have hx := E.1
  have hb := E.2.1
  have hown := E.2.2.1
  have hts := E.2.2.2.1
  have hS : SS (fun q => q = ρ a0 0) H H [] := SS.rf
  have hl : lv_has ls 4 [(0, .ref a0), (1, .int 0), (2, .int 16), (3, .int x2)] := hl
  refine lv_aload_n hx hb dX12_set_0 rfl (lv_at hl 0 rfl) ?_
  refine gf_X12_7 E hT hW ha0 dX12_set_1 (fun h_1 => ?_)
  refine lv_sipush (v := 288) hx hb dX12_set_4 (by decide) ?_
  refine lv_iload_n hx hb dX12_set_7 rfl (lv_at hl 1 rfl) ?_
  refine lv_imul hx hb dX12_set_8 ?_
  refine th_topi (y := 0) (by decide) ?_
  refine lv_iload_n hx hb dX12_set_9 rfl (lv_at hl 2 rfl) ?_
  refine lv_iadd hx hb dX12_set_10 ?_
  refine th_topi (y := 16) (by decide) ?_
  refine lv_iload_n hx hb dX12_set_11 rfl (lv_at hl 3 rfl) ?_
  refine th_iast E hT hS h_1 rfl (by decide) (vp_in_iff.mpr ⟨by decide, by decide⟩) dX12_set_12 (fun H_2 locs_2 hT_2 hU_2 hS_2 => ?_)
  have hU_2 : AU 985 H H_2 (ρ a0 0) 16 x2 := hU_2
  exact th_vret E hr hlk hs hT_2 hS_2 hU_2 dX12_set_13
set_option maxHeartbeats 4000000 in
set_option maxRecDepth 100000 in
/-- the reference: set -/
theorem y_set_v38 (l : Launch) (D : va_G) (cI cS : ClassId) (τ : Nat → Option Nat) (ρ : Nat → Nat → Nat) (hW : WF τ ρ) (H : Heap) (hT : TH D cI cS τ ρ H) (a0 : Nat) (x2 : Int32) (ha0 : τ a0 = some 12) : MV l D cI cS τ ρ yX12_set cX12_set 4 none 0 0 H [.ref a0, .int 0, .int 18, .int x2] (fun (u : Heap) => (AU 985 H u (ρ a0 0) 18 x2)) (fun q => q = ρ a0 0) := by
  refine MV.of (by decide) (Nat.le_of_ble_eq_true rfl) ?_
  intro p e s m args below meth c E hml hr hlk hs ls hl
  have hx := E.1
  have hb := E.2.1
  have hown := E.2.2.1
  have hts := E.2.2.2.1
  have hS : SS (fun q => q = ρ a0 0) H H [] := SS.rf
  have hl : lv_has ls 4 [(0, .ref a0), (1, .int 0), (2, .int 18), (3, .int x2)] := hl
  refine lv_aload_n hx hb dX12_set_0 rfl (lv_at hl 0 rfl) ?_
  refine gf_X12_7 E hT hW ha0 dX12_set_1 (fun h_1 => ?_)
  refine lv_sipush (v := 288) hx hb dX12_set_4 (by decide) ?_
  refine lv_iload_n hx hb dX12_set_7 rfl (lv_at hl 1 rfl) ?_
  refine lv_imul hx hb dX12_set_8 ?_
  refine th_topi (y := 0) (by decide) ?_
  refine lv_iload_n hx hb dX12_set_9 rfl (lv_at hl 2 rfl) ?_
  refine lv_iadd hx hb dX12_set_10 ?_
  refine th_topi (y := 18) (by decide) ?_
  refine lv_iload_n hx hb dX12_set_11 rfl (lv_at hl 3 rfl) ?_
  refine th_iast E hT hS h_1 rfl (by decide) (vp_in_iff.mpr ⟨by decide, by decide⟩) dX12_set_12 (fun H_2 locs_2 hT_2 hU_2 hS_2 => ?_)
  have hU_2 : AU 985 H H_2 (ρ a0 0) 18 x2 := hU_2
  exact th_vret E hr hlk hs hT_2 hS_2 hU_2 dX12_set_13
set_option maxHeartbeats 4000000 in
set_option maxRecDepth 100000 in
/-- the reference: times -/
theorem y_times (l : Launch) (D : va_G) (cI cS : ClassId) (τ : Nat → Option Nat) (ρ : Nat → Nat → Nat) (hW : WF τ ρ) (H : Heap) (hT : TH D cI cS τ ρ H) (a0 : Nat) (x1 : Int32) (ha0 : τ a0 = some 12) (N : Int) (hN0 : 0 ≤ N) (hN1 : N ≤ 600) (hI : IM D ρ N H a0) : MV l D cI cS τ ρ yX12_times cX12_times 3 none 1 23 H [.ref a0, .int 0, .int x1] (fun (u : Heap) => (IM D ρ N u a0) ∧ ((ai H (ρ a0 0) 976).toInt ≤ (ai u (ρ a0 0) 976).toInt)) (fun q => q = ρ a0 0) := by
  refine MV.of (by decide) (Nat.le_of_ble_eq_true rfl) ?_
  intro p e s m args below meth c E hml hr hlk hs ls hl
  have hx := E.1
  have hb := E.2.1
  have hown := E.2.2.1
  have hts := E.2.2.2.1
  have hS : SS (fun q => q = ρ a0 0) H H [] := SS.rf
  have hl : lv_has ls 3 [(0, .ref a0), (1, .int 0), (2, .int x1)] := hl
  have n01 := hI.2.2.2.2.2.1
  have n23 := hI.2.2.2.2.2.2.1
  refine lv_aload_n hx hb dX12_times_0 rfl (lv_at hl 0 rfl) ?_
  refine lv_iload_n hx hb dX12_times_1 rfl (lv_at hl 1 rfl) ?_
  refine lv_bipush (v := 16) hx hb dX12_times_2 (by decide) ?_
  refine th_Vi (As := [.int 0, .int 16]) (rest := []) E hml hl.1 (y_get_v8 l D cI cS τ ρ hW H hT a0 ha0) lk_X12_99 yd_X12_get hT ha0 rfl (by decide) hS (fun _ h => h.elim) ⟨by decide, by decide⟩ (Nat.le_of_ble_eq_true rfl) ⟨by decide, by decide⟩ rfl dX12_times_4 (fun r_1 H_1 locs_1 p_1 hT_1 hk_1 hS_1 => ?_)
  have p_1 : H = H_1 ∧ (ai H (ρ a0 0) 16 = r_1) := p_1
  obtain ⟨rfl, p_1_0⟩ := p_1
  have c_r_1 := congrArg Int32.toInt p_1_0
  refine lv_bipush (v := (-4)) hx hb dX12_times_7 (by decide) ?_
  refine lv_icmp_ne (tgt := 35) hx hb dX12_times_9 (by decide) (fun c_2 => ?_) (fun c_2 => ?_)
  · have f_2 : ¬ r_1.toInt = -4 := r_ne rfl (by decide) c_2
    exact th_vret E hr hlk hs hT_1 hS_1 ⟨⟨hI.1, hI.2.1, hI.2.2.1, hI.2.2.2.1, hI.2.2.2.2.1, hI.2.2.2.2.2⟩, (by omega)⟩ dX12_times_35
  · have f_2 : r_1.toInt = -4 := r_eq rfl (by decide) c_2
    refine lv_aload_n hx hb dX12_times_12 rfl (lv_at hl 0 rfl) ?_
    refine lv_iload_n hx hb dX12_times_13 rfl (lv_at hl 1 rfl) ?_
    refine lv_bipush (v := 16) hx hb dX12_times_14 (by decide) ?_
    refine lv_iload_n hx hb dX12_times_16 rfl (lv_at hl 2 rfl) ?_
    refine th_Vv (As := [.int 0, .int 16, .int x1]) (rest := []) E hml hl.1 (y_set_v37 l D cI cS τ ρ hW H hT_1 a0 x1 ha0) lk_X12_95 yd_X12_set hT_1 ha0 rfl (by decide) hS_1 (fun q h => h) ⟨by decide, by decide⟩ (Nat.le_of_ble_eq_true rfl) ⟨by decide, by decide⟩ rfl dX12_times_17 (fun H_3 locs_3 p_3 hT_3 hk_3 hS_3 => ?_)
    have p_3 : (AU 985 H H_3 (ρ a0 0) 16 x1) := p_3
    have hW_3 : PW N H_3 (ρ a0 0) := PW.put hI.1 p_3 (by show (-2147483648 : Int) ≤ _; exact i_min _) (by show _ ≤ (2147483647 : Int); exact i_max _)
    refine lv_aload_n hx hb dX12_times_20 rfl (lv_at hl 0 rfl) ?_
    refine lv_iload_n hx hb dX12_times_21 rfl (lv_at hl 1 rfl) ?_
    refine lv_bipush (v := 18) hx hb dX12_times_22 (by decide) ?_
    refine lv_aload_n hx hb dX12_times_24 rfl (lv_at hl 0 rfl) ?_
    refine gf_X12_7 E hT_3 hW ha0 dX12_times_25 (fun h_4 => ?_)
    refine lv_sipush (v := 977) hx hb dX12_times_28 (by decide) ?_
    refine th_iald E hT_3 h_4 (by decide) (vp_in_iff.mpr ⟨by decide, by decide⟩) dX12_times_31 ?_
    refine th_topi (y := ai H_3 (ρ a0 0) 977) rfl ?_
    refine th_topi (y := ai H (ρ a0 0) 977) (AU.o p_3 (by decide) (by decide)) ?_
    refine lv_topi (fun x_5 ex_5 => ?_)
    have c_x_5 := congrArg Int32.toInt ex_5.symm
    refine th_Vv (As := [.int 0, .int 18, .int x_5]) (rest := []) E hml hl.1 (y_set_v38 l D cI cS τ ρ hW H_3 hT_3 a0 x_5 ha0) lk_X12_95 yd_X12_set hT_3 ha0 rfl (by decide) hS_3 (fun q h => h) ⟨by decide, by decide⟩ (Nat.le_of_ble_eq_true rfl) ⟨by decide, by decide⟩ rfl dX12_times_32 (fun H_6 locs_6 p_6 hT_6 hk_6 hS_6 => ?_)
    have p_6 : (AU 985 H_3 H_6 (ρ a0 0) 18 x_5) := p_6
    have hW_6 : PW N H_6 (ρ a0 0) := PW.put hW_3 p_6 (by show (-2147483648 : Int) ≤ _; exact i_min _) (by show _ ≤ (2147483647 : Int); exact i_max _)
    exact th_vret E hr hlk hs hT_6 hS_6 ⟨⟨hW_6, (QS.same (Eq.trans (AU.o p_6 (by decide) (by decide)) (AU.o p_3 (by decide) (by decide))) (Eq.trans (AU.o p_6 (by decide) (by decide)) (AU.o p_3 (by decide) (by decide))) hI.2.1), (QS.same (Eq.trans (AU.o p_6 (by decide) (by decide)) (AU.o p_3 (by decide) (by decide))) (Eq.trans (AU.o p_6 (by decide) (by decide)) (AU.o p_3 (by decide) (by decide))) hI.2.2.1), (PL.q (p_6.2 _ (th_ne (hW _ 12 2 ha0 (by decide) (by decide) (by decide)) (hW _ 12 0 ha0 (by decide) (by decide) (by decide)) (by decide))) (PL.q (p_3.2 _ (th_ne (hW _ 12 2 ha0 (by decide) (by decide) (by decide)) (hW _ 12 0 ha0 (by decide) (by decide) (by decide)) (by decide))) hI.2.2.2.1)), (PL.q (p_6.2 _ (th_ne (hW _ 12 3 ha0 (by decide) (by decide) (by decide)) (hW _ 12 0 ha0 (by decide) (by decide) (by decide)) (by decide))) (PL.q (p_3.2 _ (th_ne (hW _ 12 3 ha0 (by decide) (by decide) (by decide)) (hW _ 12 0 ha0 (by decide) (by decide) (by decide)) (by decide))) hI.2.2.2.2.1)), (IF.q (p_6.2 _ (th_ne ha0 (hW _ 12 0 ha0 (by decide) (by decide) (by decide)) (by decide))) (IF.q (p_3.2 _ (th_ne ha0 (hW _ 12 0 ha0 (by decide) (by decide) (by decide)) (by decide))) hI.2.2.2.2.2))⟩, (by rw [(Eq.trans (AU.o p_6 (by decide) (by decide)) (AU.o p_3 (by decide) (by decide)))]; omega)⟩ dX12_times_35
set_option maxHeartbeats 4000000 in
set_option maxRecDepth 100000 in
/-- the reference: set -/
theorem y_set_v39 (l : Launch) (D : va_G) (cI cS : ClassId) (τ : Nat → Option Nat) (ρ : Nat → Nat → Nat) (hW : WF τ ρ) (H : Heap) (hT : TH D cI cS τ ρ H) (a0 : Nat) (x2 : Int32) (ha0 : τ a0 = some 12) : MV l D cI cS τ ρ yX12_set cX12_set 4 none 0 0 H [.ref a0, .int 0, .int 2, .int x2] (fun (u : Heap) => (AU 985 H u (ρ a0 0) 2 x2)) (fun q => q = ρ a0 0) := by
  refine MV.of (by decide) (Nat.le_of_ble_eq_true rfl) ?_
  intro p e s m args below meth c E hml hr hlk hs ls hl
  have hx := E.1
  have hb := E.2.1
  have hown := E.2.2.1
  have hts := E.2.2.2.1
  have hS : SS (fun q => q = ρ a0 0) H H [] := SS.rf
  have hl : lv_has ls 4 [(0, .ref a0), (1, .int 0), (2, .int 2), (3, .int x2)] := hl
  refine lv_aload_n hx hb dX12_set_0 rfl (lv_at hl 0 rfl) ?_
  refine gf_X12_7 E hT hW ha0 dX12_set_1 (fun h_1 => ?_)
  refine lv_sipush (v := 288) hx hb dX12_set_4 (by decide) ?_
  refine lv_iload_n hx hb dX12_set_7 rfl (lv_at hl 1 rfl) ?_
  refine lv_imul hx hb dX12_set_8 ?_
  refine th_topi (y := 0) (by decide) ?_
  refine lv_iload_n hx hb dX12_set_9 rfl (lv_at hl 2 rfl) ?_
  refine lv_iadd hx hb dX12_set_10 ?_
  refine th_topi (y := 2) (by decide) ?_
  refine lv_iload_n hx hb dX12_set_11 rfl (lv_at hl 3 rfl) ?_
  refine th_iast E hT hS h_1 rfl (by decide) (vp_in_iff.mpr ⟨by decide, by decide⟩) dX12_set_12 (fun H_2 locs_2 hT_2 hU_2 hS_2 => ?_)
  have hU_2 : AU 985 H H_2 (ρ a0 0) 2 x2 := hU_2
  exact th_vret E hr hlk hs hT_2 hS_2 hU_2 dX12_set_13
set_option maxHeartbeats 4000000 in
set_option maxRecDepth 100000 in
/-- the reference: sends -/
theorem y_sends (l : Launch) (D : va_G) (cI cS : ClassId) (τ : Nat → Option Nat) (ρ : Nat → Nat → Nat) (hW : WF τ ρ) (H : Heap) (hT : TH D cI cS τ ρ H) (a0 : Nat) (x1 : Int32) (ha0 : τ a0 = some 12) (N : Int) (hN0 : 0 ≤ N) (hN1 : N ≤ 600) (hI : IM D ρ N H a0) (hp0 : 0 ≤ x1.toInt ∧ x1.toInt ≤ 8) (hp1 : (ai H (ρ a0 0) 2).toInt + x1.toInt ≤ N + 1) : MV l D cI cS τ ρ yX12_sends cX12_sends 6 none 6 140 H [.ref a0, .int 0, .int x1, .int 0] (fun (u : Heap) => (IM D ρ N u a0) ∧ ((ai u (ρ a0 0) 2).toInt = (ai H (ρ a0 0) 2).toInt + x1.toInt + 0) ∧ ((ai H (ρ a0 0) 976).toInt ≤ (ai u (ρ a0 0) 976).toInt)) (fun q => q = ρ a0 2 ∨ q = ρ a0 0) := by
  refine MV.of (by decide) (Nat.le_of_ble_eq_true rfl) ?_
  intro p e s m args below meth c E hml hr hlk hs ls hl
  have hx := E.1
  have hb := E.2.1
  have hown := E.2.2.1
  have hts := E.2.2.2.1
  have hS : SS (fun q => q = ρ a0 2 ∨ q = ρ a0 0) H H [] := SS.rf
  have hl : lv_has ls 6 [(0, .ref a0), (1, .int 0), (2, .int x1), (3, .int 0)] := hl
  have n01 := hI.2.2.2.2.2.1
  have n23 := hI.2.2.2.2.2.2.1
  refine lv_aload_n hx hb dX12_sends_0 rfl (lv_at hl 0 rfl) ?_
  refine lv_iload_n hx hb dX12_sends_1 rfl (lv_at hl 1 rfl) ?_
  refine lv_iconst (v := 2) hx hb dX12_sends_2 (by decide) ?_
  refine th_Vi (As := [.int 0, .int 2]) (rest := []) E hml hl.1 (y_get_v16 l D cI cS τ ρ hW H hT a0 ha0) lk_X12_99 yd_X12_get hT ha0 rfl (by decide) hS (fun _ h => h.elim) ⟨by decide, by decide⟩ (Nat.le_of_ble_eq_true rfl) ⟨by decide, by decide⟩ rfl dX12_sends_3 (fun r_1 H_1 locs_1 p_1 hT_1 hk_1 hS_1 => ?_)
  have p_1 : H = H_1 ∧ (ai H (ρ a0 0) 2 = r_1) := p_1
  obtain ⟨rfl, p_1_0⟩ := p_1
  have b_r_1 : 0 ≤ r_1.toInt ∧ r_1.toInt ≤ N + 2 := by rw [← p_1_0]; exact hI.1 2 (by decide)
  have c_r_1 := congrArg Int32.toInt p_1_0
  refine lv_istore (lv' := [(4, .int r_1), (0, .ref a0), (1, .int 0), (2, .int x1), (3, .int 0)]) hx hb dX12_sends_6 hl (by decide) rfl (fun ls hl => ?_)
  refine lv_iload_n hx hb dX12_sends_8 rfl (lv_at hl 3 rfl) ?_
  refine lv_iload_n hx hb dX12_sends_9 rfl (lv_at hl 4 rfl) ?_
  refine lv_if_eq (tgt := 17) hx hb dX12_sends_10 (by decide) (fun c_2 => ?_) (fun c_2 => absurd (by decide) c_2)
  refine lv_iconst (v := 0) hx hb dX12_sends_17 (by decide) ?_
  refine lv_iadd hx hb dX12_sends_18 ?_
  refine lv_topi (fun x_3 ex_3 => ?_)
  have q_3 : x_3.toInt = x1.toInt + 0 := i_pl rfl (by decide) ex_3 (by omega) (by omega)
  refine lv_istore (lv' := [(5, .int x_3), (4, .int r_1), (0, .ref a0), (1, .int 0), (2, .int x1), (3, .int 0)]) hx hb dX12_sends_19 hl (by decide) rfl (fun ls hl => ?_)
  refine lv_aload_n hx hb dX12_sends_21 rfl (lv_at hl 2 rfl) ?_
  refine lv_iload_n hx hb dX12_sends_22 rfl (lv_at hl 3 rfl) ?_
  refine lv_iload hx hb dX12_sends_23 (lv_at hl 1 rfl) ?_
  refine lv_iload_n hx hb dX12_sends_25 rfl (lv_at hl 4 rfl) ?_
  refine lv_iload_n hx hb dX12_sends_26 rfl (lv_at hl 5 rfl) ?_
  refine th_Vv (As := [.int 0, .int r_1, .int x1, .int 0]) (rest := []) E hml hl.1 (y_data_v3 l D cI cS τ ρ hW H hT_1 a0 r_1 x1 ha0 N hN0 hN1 ⟨hI.1, hI.2.1, hI.2.2.1, hI.2.2.2.1, hI.2.2.2.2.1, hI.2.2.2.2.2⟩ (by omega) (by omega)) lk_X12_139 yd_X12_data hT_1 ha0 rfl (by decide) hS_1 (fun q => (fun h => h.elim (fun h => (Or.inl h)) (fun h => (Or.inr h)))) ⟨by decide, by decide⟩ (Nat.le_of_ble_eq_true rfl) ⟨by decide, by decide⟩ rfl dX12_sends_27 (fun H_4 locs_4 p_4 hT_4 hk_4 hS_4 => ?_)
  have p_4 : (IM D ρ N H_4 a0) ∧ ((ai H (ρ a0 0) 976).toInt ≤ (ai H_4 (ρ a0 0) 976).toInt) := p_4
  obtain ⟨p_4_0, p_4_1⟩ := p_4
  have mn_4 : (ai H (ρ a0 0) 976).toInt ≤ (ai H_4 (ρ a0 0) 976).toInt := by exact p_4_1
  refine lv_aload_n hx hb dX12_sends_30 rfl (lv_at hl 2 rfl) ?_
  refine lv_iload_n hx hb dX12_sends_31 rfl (lv_at hl 3 rfl) ?_
  refine lv_iload hx hb dX12_sends_32 (lv_at hl 1 rfl) ?_
  refine lv_iload hx hb dX12_sends_34 (lv_at hl 0 rfl) ?_
  refine lv_iadd hx hb dX12_sends_36 ?_
  refine lv_topi (fun x_5 ex_5 => ?_)
  have q_5 : x_5.toInt = r_1.toInt + x_3.toInt := i_pl rfl rfl ex_5 (by omega) (by omega)
  refine lv_iconst (v := 1) hx hb dX12_sends_37 (by decide) ?_
  refine lv_isub hx hb dX12_sends_38 ?_
  refine lv_topi (fun x_6 ex_6 => ?_)
  have q_6 : x_6.toInt = x_5.toInt - 1 := i_mi rfl (by decide) ex_6 (by omega) (by omega)
  refine th_Vv (As := [.int 0, .int x_6]) (rest := []) E hml hl.1 (y_times l D cI cS τ ρ hW H_4 hT_4 a0 x_6 ha0 N hN0 hN1 ⟨p_4_0.1, p_4_0.2.1, p_4_0.2.2.1, p_4_0.2.2.2.1, p_4_0.2.2.2.2.1, p_4_0.2.2.2.2.2⟩) lk_X12_143 yd_X12_times hT_4 ha0 rfl (by decide) hS_4 (fun q h => (Or.inr h)) ⟨by decide, by decide⟩ (Nat.le_of_ble_eq_true rfl) ⟨by decide, by decide⟩ rfl dX12_sends_39 (fun H_7 locs_7 p_7 hT_7 hk_7 hS_7 => ?_)
  have p_7 : (IM D ρ N H_7 a0) ∧ ((ai H_4 (ρ a0 0) 976).toInt ≤ (ai H_7 (ρ a0 0) 976).toInt) := p_7
  obtain ⟨p_7_0, p_7_1⟩ := p_7
  have mn_7 : (ai H_4 (ρ a0 0) 976).toInt ≤ (ai H_7 (ρ a0 0) 976).toInt := by exact p_7_1
  refine lv_aload_n hx hb dX12_sends_42 rfl (lv_at hl 2 rfl) ?_
  refine lv_iload_n hx hb dX12_sends_43 rfl (lv_at hl 3 rfl) ?_
  refine lv_iconst (v := 2) hx hb dX12_sends_44 (by decide) ?_
  refine lv_iload hx hb dX12_sends_45 (lv_at hl 1 rfl) ?_
  refine lv_iload hx hb dX12_sends_47 (lv_at hl 0 rfl) ?_
  refine lv_iadd hx hb dX12_sends_49 ?_
  refine lv_topi (fun x_8 ex_8 => ?_)
  have q_8 : x_8.toInt = r_1.toInt + x_3.toInt := i_pl rfl rfl ex_8 (by omega) (by omega)
  refine th_Vv (As := [.int 0, .int 2, .int x_8]) (rest := []) E hml hl.1 (y_set_v39 l D cI cS τ ρ hW H_7 hT_7 a0 x_8 ha0) lk_X12_95 yd_X12_set hT_7 ha0 rfl (by decide) hS_7 (fun q h => (Or.inr h)) ⟨by decide, by decide⟩ (Nat.le_of_ble_eq_true rfl) ⟨by decide, by decide⟩ rfl dX12_sends_50 (fun H_9 locs_9 p_9 hT_9 hk_9 hS_9 => ?_)
  have p_9 : (AU 985 H_7 H_9 (ρ a0 0) 2 x_8) := p_9
  have hW_9 : PW N H_9 (ρ a0 0) := PW.put p_7_0.1 p_9 (by show (0 : Int) ≤ x_8.toInt; omega) (by show x_8.toInt ≤ (N + 2 : Int); omega)
  refine lv_iload_n hx hb dX12_sends_53 rfl (lv_at hl 5 rfl) ?_
  refine lv_if_eq (tgt := 79) hx hb dX12_sends_54 (by decide) (fun c_10 => ?_) (fun c_10 => absurd (by decide) c_10)
  exact th_vret E hr hlk hs hT_9 hS_9 ⟨⟨hW_9, (QS.of (s := (ai H_7 (ρ a0 0) 0 : Int32)) (t := (x_8 : Int32)) (AU.o p_9 (by decide) (by decide)) (AU.s p_9 (by decide)) (by have j := p_7_0.2.1; unfold QS at j; omega)), (QS.same (AU.o p_9 (by decide) (by decide)) (AU.o p_9 (by decide) (by decide)) p_7_0.2.2.1), (PL.q (p_9.2 _ (th_ne (hW _ 12 2 ha0 (by decide) (by decide) (by decide)) (hW _ 12 0 ha0 (by decide) (by decide) (by decide)) (by decide))) p_7_0.2.2.2.1), (PL.q (p_9.2 _ (th_ne (hW _ 12 3 ha0 (by decide) (by decide) (by decide)) (hW _ 12 0 ha0 (by decide) (by decide) (by decide)) (by decide))) p_7_0.2.2.2.2.1), (IF.q (p_9.2 _ (th_ne ha0 (hW _ 12 0 ha0 (by decide) (by decide) (by decide)) (by decide))) p_7_0.2.2.2.2.2)⟩, (by have : (ai H_9 (ρ a0 0) 2).toInt = (x_8 : Int32).toInt := congrArg Int32.toInt (AU.s p_9 (by decide)); have : (ai H (ρ a0 0) 2).toInt = (r_1 : Int32).toInt := congrArg Int32.toInt p_1_0; omega), (by rw [(AU.o p_9 (by decide) (by decide))]; omega)⟩ dX12_sends_79
set_option maxHeartbeats 4000000 in
set_option maxRecDepth 100000 in
/-- the reference: set -/
theorem y_set_v40 (l : Launch) (D : va_G) (cI cS : ClassId) (τ : Nat → Option Nat) (ρ : Nat → Nat → Nat) (hW : WF τ ρ) (H : Heap) (hT : TH D cI cS τ ρ H) (a0 : Nat) (ha0 : τ a0 = some 12) : MV l D cI cS τ ρ yX12_set cX12_set 4 none 0 0 H [.ref a0, .int 0, .int 0, .int 9] (fun (u : Heap) => (AU 985 H u (ρ a0 0) 0 (9))) (fun q => q = ρ a0 0) := by
  refine MV.of (by decide) (Nat.le_of_ble_eq_true rfl) ?_
  intro p e s m args below meth c E hml hr hlk hs ls hl
  have hx := E.1
  have hb := E.2.1
  have hown := E.2.2.1
  have hts := E.2.2.2.1
  have hS : SS (fun q => q = ρ a0 0) H H [] := SS.rf
  have hl : lv_has ls 4 [(0, .ref a0), (1, .int 0), (2, .int 0), (3, .int 9)] := hl
  refine lv_aload_n hx hb dX12_set_0 rfl (lv_at hl 0 rfl) ?_
  refine gf_X12_7 E hT hW ha0 dX12_set_1 (fun h_1 => ?_)
  refine lv_sipush (v := 288) hx hb dX12_set_4 (by decide) ?_
  refine lv_iload_n hx hb dX12_set_7 rfl (lv_at hl 1 rfl) ?_
  refine lv_imul hx hb dX12_set_8 ?_
  refine th_topi (y := 0) (by decide) ?_
  refine lv_iload_n hx hb dX12_set_9 rfl (lv_at hl 2 rfl) ?_
  refine lv_iadd hx hb dX12_set_10 ?_
  refine th_topi (y := 0) (by decide) ?_
  refine lv_iload_n hx hb dX12_set_11 rfl (lv_at hl 3 rfl) ?_
  refine th_iast E hT hS h_1 rfl (by decide) (vp_in_iff.mpr ⟨by decide, by decide⟩) dX12_set_12 (fun H_2 locs_2 hT_2 hU_2 hS_2 => ?_)
  have hU_2 : AU 985 H H_2 (ρ a0 0) 0 (9) := hU_2
  exact th_vret E hr hlk hs hT_2 hS_2 hU_2 dX12_set_13
set_option maxHeartbeats 4000000 in
set_option maxRecDepth 100000 in
/-- the reference: set -/
theorem y_set_v41 (l : Launch) (D : va_G) (cI cS : ClassId) (τ : Nat → Option Nat) (ρ : Nat → Nat → Nat) (hW : WF τ ρ) (H : Heap) (hT : TH D cI cS τ ρ H) (a0 : Nat) (ha0 : τ a0 = some 12) : MV l D cI cS τ ρ yX12_set cX12_set 4 none 0 0 H [.ref a0, .int 0, .int 0, .int 5] (fun (u : Heap) => (AU 985 H u (ρ a0 0) 0 (5))) (fun q => q = ρ a0 0) := by
  refine MV.of (by decide) (Nat.le_of_ble_eq_true rfl) ?_
  intro p e s m args below meth c E hml hr hlk hs ls hl
  have hx := E.1
  have hb := E.2.1
  have hown := E.2.2.1
  have hts := E.2.2.2.1
  have hS : SS (fun q => q = ρ a0 0) H H [] := SS.rf
  have hl : lv_has ls 4 [(0, .ref a0), (1, .int 0), (2, .int 0), (3, .int 5)] := hl
  refine lv_aload_n hx hb dX12_set_0 rfl (lv_at hl 0 rfl) ?_
  refine gf_X12_7 E hT hW ha0 dX12_set_1 (fun h_1 => ?_)
  refine lv_sipush (v := 288) hx hb dX12_set_4 (by decide) ?_
  refine lv_iload_n hx hb dX12_set_7 rfl (lv_at hl 1 rfl) ?_
  refine lv_imul hx hb dX12_set_8 ?_
  refine th_topi (y := 0) (by decide) ?_
  refine lv_iload_n hx hb dX12_set_9 rfl (lv_at hl 2 rfl) ?_
  refine lv_iadd hx hb dX12_set_10 ?_
  refine th_topi (y := 0) (by decide) ?_
  refine lv_iload_n hx hb dX12_set_11 rfl (lv_at hl 3 rfl) ?_
  refine th_iast E hT hS h_1 rfl (by decide) (vp_in_iff.mpr ⟨by decide, by decide⟩) dX12_set_12 (fun H_2 locs_2 hT_2 hU_2 hS_2 => ?_)
  have hU_2 : AU 985 H H_2 (ρ a0 0) 0 (5) := hU_2
  exact th_vret E hr hlk hs hT_2 hS_2 hU_2 dX12_set_13
set_option maxHeartbeats 4000000 in
set_option maxRecDepth 100000 in
/-- the reference: sends -/
theorem y_sends_v2 (l : Launch) (D : va_G) (cI cS : ClassId) (τ : Nat → Option Nat) (ρ : Nat → Nat → Nat) (hW : WF τ ρ) (H : Heap) (hT : TH D cI cS τ ρ H) (a0 : Nat) (x1 : Int32) (ha0 : τ a0 = some 12) (N : Int) (hN0 : 0 ≤ N) (hN1 : N ≤ 600) (hI : IM D ρ N H a0) (hp0 : 0 ≤ x1.toInt ∧ x1.toInt ≤ 8) (hp1 : (ai H (ρ a0 0) 2).toInt + x1.toInt ≤ N + 1) : MV l D cI cS τ ρ yX12_sends cX12_sends 6 none 6 140 H [.ref a0, .int 0, .int x1, .int 1] (fun (u : Heap) => (IM D ρ N u a0) ∧ ((ai u (ρ a0 0) 2).toInt = (ai H (ρ a0 0) 2).toInt + x1.toInt + 1) ∧ ((ai H (ρ a0 0) 976).toInt ≤ (ai u (ρ a0 0) 976).toInt)) (fun q => q = ρ a0 2 ∨ q = ρ a0 0) := by
  refine MV.of (by decide) (Nat.le_of_ble_eq_true rfl) ?_
  intro p e s m args below meth c E hml hr hlk hs ls hl
  have hx := E.1
  have hb := E.2.1
  have hown := E.2.2.1
  have hts := E.2.2.2.1
  have hS : SS (fun q => q = ρ a0 2 ∨ q = ρ a0 0) H H [] := SS.rf
  have hl : lv_has ls 6 [(0, .ref a0), (1, .int 0), (2, .int x1), (3, .int 1)] := hl
  have n01 := hI.2.2.2.2.2.1
  have n23 := hI.2.2.2.2.2.2.1
  refine lv_aload_n hx hb dX12_sends_0 rfl (lv_at hl 0 rfl) ?_
  refine lv_iload_n hx hb dX12_sends_1 rfl (lv_at hl 1 rfl) ?_
  refine lv_iconst (v := 2) hx hb dX12_sends_2 (by decide) ?_
  refine th_Vi (As := [.int 0, .int 2]) (rest := []) E hml hl.1 (y_get_v16 l D cI cS τ ρ hW H hT a0 ha0) lk_X12_99 yd_X12_get hT ha0 rfl (by decide) hS (fun _ h => h.elim) ⟨by decide, by decide⟩ (Nat.le_of_ble_eq_true rfl) ⟨by decide, by decide⟩ rfl dX12_sends_3 (fun r_1 H_1 locs_1 p_1 hT_1 hk_1 hS_1 => ?_)
  have p_1 : H = H_1 ∧ (ai H (ρ a0 0) 2 = r_1) := p_1
  obtain ⟨rfl, p_1_0⟩ := p_1
  have b_r_1 : 0 ≤ r_1.toInt ∧ r_1.toInt ≤ N + 2 := by rw [← p_1_0]; exact hI.1 2 (by decide)
  have c_r_1 := congrArg Int32.toInt p_1_0
  refine lv_istore (lv' := [(4, .int r_1), (0, .ref a0), (1, .int 0), (2, .int x1), (3, .int 1)]) hx hb dX12_sends_6 hl (by decide) rfl (fun ls hl => ?_)
  refine lv_iload_n hx hb dX12_sends_8 rfl (lv_at hl 3 rfl) ?_
  refine lv_iload_n hx hb dX12_sends_9 rfl (lv_at hl 4 rfl) ?_
  refine lv_if_eq (tgt := 17) hx hb dX12_sends_10 (by decide) (fun c_2 => absurd c_2 (by decide)) (fun c_2 => ?_)
  refine lv_iconst (v := 1) hx hb dX12_sends_13 (by decide) ?_
  refine lv_goto (tgt := 18) hx hb dX12_sends_14 (by decide) ?_
  refine lv_iadd hx hb dX12_sends_18 ?_
  refine lv_topi (fun x_3 ex_3 => ?_)
  have q_3 : x_3.toInt = x1.toInt + 1 := i_pl rfl (by decide) ex_3 (by omega) (by omega)
  refine lv_istore (lv' := [(5, .int x_3), (4, .int r_1), (0, .ref a0), (1, .int 0), (2, .int x1), (3, .int 1)]) hx hb dX12_sends_19 hl (by decide) rfl (fun ls hl => ?_)
  refine lv_aload_n hx hb dX12_sends_21 rfl (lv_at hl 2 rfl) ?_
  refine lv_iload_n hx hb dX12_sends_22 rfl (lv_at hl 3 rfl) ?_
  refine lv_iload hx hb dX12_sends_23 (lv_at hl 1 rfl) ?_
  refine lv_iload_n hx hb dX12_sends_25 rfl (lv_at hl 4 rfl) ?_
  refine lv_iload_n hx hb dX12_sends_26 rfl (lv_at hl 5 rfl) ?_
  refine th_Vv (As := [.int 0, .int r_1, .int x1, .int 1]) (rest := []) E hml hl.1 (y_data l D cI cS τ ρ hW H hT_1 a0 r_1 x1 ha0 N hN0 hN1 ⟨hI.1, hI.2.1, hI.2.2.1, hI.2.2.2.1, hI.2.2.2.2.1, hI.2.2.2.2.2⟩ (by omega) (by omega)) lk_X12_139 yd_X12_data hT_1 ha0 rfl (by decide) hS_1 (fun q => (fun h => h.elim (fun h => (Or.inl h)) (fun h => (Or.inr h)))) ⟨by decide, by decide⟩ (Nat.le_of_ble_eq_true rfl) ⟨by decide, by decide⟩ rfl dX12_sends_27 (fun H_4 locs_4 p_4 hT_4 hk_4 hS_4 => ?_)
  have p_4 : (IM D ρ N H_4 a0) ∧ ((ai H (ρ a0 0) 976).toInt ≤ (ai H_4 (ρ a0 0) 976).toInt) := p_4
  obtain ⟨p_4_0, p_4_1⟩ := p_4
  have mn_4 : (ai H (ρ a0 0) 976).toInt ≤ (ai H_4 (ρ a0 0) 976).toInt := by exact p_4_1
  refine lv_aload_n hx hb dX12_sends_30 rfl (lv_at hl 2 rfl) ?_
  refine lv_iload_n hx hb dX12_sends_31 rfl (lv_at hl 3 rfl) ?_
  refine lv_iload hx hb dX12_sends_32 (lv_at hl 1 rfl) ?_
  refine lv_iload hx hb dX12_sends_34 (lv_at hl 0 rfl) ?_
  refine lv_iadd hx hb dX12_sends_36 ?_
  refine lv_topi (fun x_5 ex_5 => ?_)
  have q_5 : x_5.toInt = r_1.toInt + x_3.toInt := i_pl rfl rfl ex_5 (by omega) (by omega)
  refine lv_iconst (v := 1) hx hb dX12_sends_37 (by decide) ?_
  refine lv_isub hx hb dX12_sends_38 ?_
  refine lv_topi (fun x_6 ex_6 => ?_)
  have q_6 : x_6.toInt = x_5.toInt - 1 := i_mi rfl (by decide) ex_6 (by omega) (by omega)
  refine th_Vv (As := [.int 0, .int x_6]) (rest := []) E hml hl.1 (y_times l D cI cS τ ρ hW H_4 hT_4 a0 x_6 ha0 N hN0 hN1 ⟨p_4_0.1, p_4_0.2.1, p_4_0.2.2.1, p_4_0.2.2.2.1, p_4_0.2.2.2.2.1, p_4_0.2.2.2.2.2⟩) lk_X12_143 yd_X12_times hT_4 ha0 rfl (by decide) hS_4 (fun q h => (Or.inr h)) ⟨by decide, by decide⟩ (Nat.le_of_ble_eq_true rfl) ⟨by decide, by decide⟩ rfl dX12_sends_39 (fun H_7 locs_7 p_7 hT_7 hk_7 hS_7 => ?_)
  have p_7 : (IM D ρ N H_7 a0) ∧ ((ai H_4 (ρ a0 0) 976).toInt ≤ (ai H_7 (ρ a0 0) 976).toInt) := p_7
  obtain ⟨p_7_0, p_7_1⟩ := p_7
  have mn_7 : (ai H_4 (ρ a0 0) 976).toInt ≤ (ai H_7 (ρ a0 0) 976).toInt := by exact p_7_1
  refine lv_aload_n hx hb dX12_sends_42 rfl (lv_at hl 2 rfl) ?_
  refine lv_iload_n hx hb dX12_sends_43 rfl (lv_at hl 3 rfl) ?_
  refine lv_iconst (v := 2) hx hb dX12_sends_44 (by decide) ?_
  refine lv_iload hx hb dX12_sends_45 (lv_at hl 1 rfl) ?_
  refine lv_iload hx hb dX12_sends_47 (lv_at hl 0 rfl) ?_
  refine lv_iadd hx hb dX12_sends_49 ?_
  refine lv_topi (fun x_8 ex_8 => ?_)
  have q_8 : x_8.toInt = r_1.toInt + x_3.toInt := i_pl rfl rfl ex_8 (by omega) (by omega)
  refine th_Vv (As := [.int 0, .int 2, .int x_8]) (rest := []) E hml hl.1 (y_set_v39 l D cI cS τ ρ hW H_7 hT_7 a0 x_8 ha0) lk_X12_95 yd_X12_set hT_7 ha0 rfl (by decide) hS_7 (fun q h => (Or.inr h)) ⟨by decide, by decide⟩ (Nat.le_of_ble_eq_true rfl) ⟨by decide, by decide⟩ rfl dX12_sends_50 (fun H_9 locs_9 p_9 hT_9 hk_9 hS_9 => ?_)
  have p_9 : (AU 985 H_7 H_9 (ρ a0 0) 2 x_8) := p_9
  have hW_9 : PW N H_9 (ρ a0 0) := PW.put p_7_0.1 p_9 (by show (0 : Int) ≤ x_8.toInt; omega) (by show x_8.toInt ≤ (N + 2 : Int); omega)
  refine lv_iload_n hx hb dX12_sends_53 rfl (lv_at hl 5 rfl) ?_
  refine lv_if_eq (tgt := 79) hx hb dX12_sends_54 (by decide) (fun c_10 => absurd c_10 (by decide)) (fun c_10 => ?_)
  refine lv_aload_n hx hb dX12_sends_57 rfl (lv_at hl 2 rfl) ?_
  refine lv_iload_n hx hb dX12_sends_58 rfl (lv_at hl 3 rfl) ?_
  refine lv_iconst (v := 0) hx hb dX12_sends_59 (by decide) ?_
  refine lv_aload_n hx hb dX12_sends_60 rfl (lv_at hl 2 rfl) ?_
  refine lv_iload_n hx hb dX12_sends_61 rfl (lv_at hl 3 rfl) ?_
  refine lv_iconst (v := 0) hx hb dX12_sends_62 (by decide) ?_
  refine th_Vi (As := [.int 0, .int 0]) (rest := [.int 0, .int 0, .ref a0]) E hml hl.1 (y_get_v21 l D cI cS τ ρ hW H_9 hT_9 a0 ha0) lk_X12_99 yd_X12_get hT_9 ha0 rfl (by decide) hS_9 (fun _ h => h.elim) ⟨by decide, by decide⟩ (Nat.le_of_ble_eq_true rfl) ⟨by decide, by decide⟩ rfl dX12_sends_63 (fun r_11 H_11 locs_11 p_11 hT_11 hk_11 hS_11 => ?_)
  have p_11 : H_9 = H_11 ∧ (ai H_9 (ρ a0 0) 0 = r_11) := p_11
  obtain ⟨rfl, p_11_0⟩ := p_11
  have t_11 : ai H_7 (ρ a0 0) 0 = r_11 := (AU.o p_9 (by decide) (by decide)).symm.trans p_11_0
  have c_r_11 := congrArg Int32.toInt t_11
  refine lv_iconst (v := 4) hx hb dX12_sends_66 (by decide) ?_
  refine lv_icmp_ne (tgt := 74) hx hb dX12_sends_67 (by decide) (fun c_12 => ?_) (fun c_12 => ?_)
  · have f_12 : ¬ r_11.toInt = 4 := r_ne rfl (by decide) c_12
    refine lv_bipush (v := 9) hx hb dX12_sends_74 (by decide) ?_
    refine th_Vv (As := [.int 0, .int 0, .int 9]) (rest := []) E hml hl.1 (y_set_v40 l D cI cS τ ρ hW H_9 hT_11 a0 ha0) lk_X12_95 yd_X12_set hT_11 ha0 rfl (by decide) hS_11 (fun q h => (Or.inr h)) ⟨by decide, by decide⟩ (Nat.le_of_ble_eq_true rfl) ⟨by decide, by decide⟩ rfl dX12_sends_76 (fun H_13 locs_13 p_13 hT_13 hk_13 hS_13 => ?_)
    have p_13 : (AU 985 H_9 H_13 (ρ a0 0) 0 (9)) := p_13
    have hW_13 : PW N H_13 (ρ a0 0) := PW.put hW_9 p_13 (by show (-2147483648 : Int) ≤ _; exact i_min _) (by show _ ≤ (2147483647 : Int); exact i_max _)
    exact th_vret E hr hlk hs hT_13 hS_13 ⟨⟨hW_13, (QS.of (s := (9 : Int32)) (t := (x_8 : Int32)) (AU.s p_13 (by decide)) (Eq.trans (AU.o p_13 (by decide) (by decide)) (AU.s p_9 (by decide))) (by have j := p_7_0.2.1; unfold QS at j; have : (ai H_7 (ρ a0 0) 0).toInt = (r_11 : Int32).toInt := congrArg Int32.toInt t_11; have : (9 : Int32).toInt = 9 := (by decide); omega)), (QS.same (Eq.trans (AU.o p_13 (by decide) (by decide)) (AU.o p_9 (by decide) (by decide))) (Eq.trans (AU.o p_13 (by decide) (by decide)) (AU.o p_9 (by decide) (by decide))) p_7_0.2.2.1), (PL.q (p_13.2 _ (th_ne (hW _ 12 2 ha0 (by decide) (by decide) (by decide)) (hW _ 12 0 ha0 (by decide) (by decide) (by decide)) (by decide))) (PL.q (p_9.2 _ (th_ne (hW _ 12 2 ha0 (by decide) (by decide) (by decide)) (hW _ 12 0 ha0 (by decide) (by decide) (by decide)) (by decide))) p_7_0.2.2.2.1)), (PL.q (p_13.2 _ (th_ne (hW _ 12 3 ha0 (by decide) (by decide) (by decide)) (hW _ 12 0 ha0 (by decide) (by decide) (by decide)) (by decide))) (PL.q (p_9.2 _ (th_ne (hW _ 12 3 ha0 (by decide) (by decide) (by decide)) (hW _ 12 0 ha0 (by decide) (by decide) (by decide)) (by decide))) p_7_0.2.2.2.2.1)), (IF.q (p_13.2 _ (th_ne ha0 (hW _ 12 0 ha0 (by decide) (by decide) (by decide)) (by decide))) (IF.q (p_9.2 _ (th_ne ha0 (hW _ 12 0 ha0 (by decide) (by decide) (by decide)) (by decide))) p_7_0.2.2.2.2.2))⟩, (by have : (ai H_13 (ρ a0 0) 2).toInt = (x_8 : Int32).toInt := congrArg Int32.toInt (Eq.trans (AU.o p_13 (by decide) (by decide)) (AU.s p_9 (by decide))); have : (ai H (ρ a0 0) 2).toInt = (r_1 : Int32).toInt := congrArg Int32.toInt p_1_0; omega), (by rw [(Eq.trans (AU.o p_13 (by decide) (by decide)) (AU.o p_9 (by decide) (by decide)))]; omega)⟩ dX12_sends_79
  · have f_12 : r_11.toInt = 4 := r_eq rfl (by decide) c_12
    refine lv_iconst (v := 5) hx hb dX12_sends_70 (by decide) ?_
    refine lv_goto (tgt := 76) hx hb dX12_sends_71 (by decide) ?_
    refine th_Vv (As := [.int 0, .int 0, .int 5]) (rest := []) E hml hl.1 (y_set_v41 l D cI cS τ ρ hW H_9 hT_11 a0 ha0) lk_X12_95 yd_X12_set hT_11 ha0 rfl (by decide) hS_11 (fun q h => (Or.inr h)) ⟨by decide, by decide⟩ (Nat.le_of_ble_eq_true rfl) ⟨by decide, by decide⟩ rfl dX12_sends_76 (fun H_14 locs_14 p_14 hT_14 hk_14 hS_14 => ?_)
    have p_14 : (AU 985 H_9 H_14 (ρ a0 0) 0 (5)) := p_14
    have hW_14 : PW N H_14 (ρ a0 0) := PW.put hW_9 p_14 (by show (-2147483648 : Int) ≤ _; exact i_min _) (by show _ ≤ (2147483647 : Int); exact i_max _)
    exact th_vret E hr hlk hs hT_14 hS_14 ⟨⟨hW_14, (QS.of (s := (5 : Int32)) (t := (x_8 : Int32)) (AU.s p_14 (by decide)) (Eq.trans (AU.o p_14 (by decide) (by decide)) (AU.s p_9 (by decide))) (by have j := p_7_0.2.1; unfold QS at j; have : (ai H_7 (ρ a0 0) 0).toInt = (r_11 : Int32).toInt := congrArg Int32.toInt t_11; have : (5 : Int32).toInt = 5 := (by decide); omega)), (QS.same (Eq.trans (AU.o p_14 (by decide) (by decide)) (AU.o p_9 (by decide) (by decide))) (Eq.trans (AU.o p_14 (by decide) (by decide)) (AU.o p_9 (by decide) (by decide))) p_7_0.2.2.1), (PL.q (p_14.2 _ (th_ne (hW _ 12 2 ha0 (by decide) (by decide) (by decide)) (hW _ 12 0 ha0 (by decide) (by decide) (by decide)) (by decide))) (PL.q (p_9.2 _ (th_ne (hW _ 12 2 ha0 (by decide) (by decide) (by decide)) (hW _ 12 0 ha0 (by decide) (by decide) (by decide)) (by decide))) p_7_0.2.2.2.1)), (PL.q (p_14.2 _ (th_ne (hW _ 12 3 ha0 (by decide) (by decide) (by decide)) (hW _ 12 0 ha0 (by decide) (by decide) (by decide)) (by decide))) (PL.q (p_9.2 _ (th_ne (hW _ 12 3 ha0 (by decide) (by decide) (by decide)) (hW _ 12 0 ha0 (by decide) (by decide) (by decide)) (by decide))) p_7_0.2.2.2.2.1)), (IF.q (p_14.2 _ (th_ne ha0 (hW _ 12 0 ha0 (by decide) (by decide) (by decide)) (by decide))) (IF.q (p_9.2 _ (th_ne ha0 (hW _ 12 0 ha0 (by decide) (by decide) (by decide)) (by decide))) p_7_0.2.2.2.2.2))⟩, (by have : (ai H_14 (ρ a0 0) 2).toInt = (x_8 : Int32).toInt := congrArg Int32.toInt (Eq.trans (AU.o p_14 (by decide) (by decide)) (AU.s p_9 (by decide))); have : (ai H (ρ a0 0) 2).toInt = (r_1 : Int32).toInt := congrArg Int32.toInt p_1_0; omega), (by rw [(Eq.trans (AU.o p_14 (by decide) (by decide)) (AU.o p_9 (by decide) (by decide)))]; omega)⟩ dX12_sends_79
set_option maxHeartbeats 4000000 in
set_option maxRecDepth 100000 in
/-- the reference: data -/
theorem y_data_v4 (l : Launch) (D : va_G) (cI cS : ClassId) (τ : Nat → Option Nat) (ρ : Nat → Nat → Nat) (hW : WF τ ρ) (H : Heap) (hT : TH D cI cS τ ρ H) (a0 : Nat) (x1 : Int32) (ha0 : τ a0 = some 12) (N : Int) (hN0 : 0 ≤ N) (hN1 : N ≤ 600) (hI : IM D ρ N H a0) (hp0 : 0 ≤ x1.toInt ∧ x1.toInt ≤ 700) (hp1 : 0 ≤ 0 ∧ 0 ≤ 8) : MV l D cI cS τ ρ yX12_data cX12_data 6 none 5 115 H [.ref a0, .int 0, .int x1, .int 0, .int 1] (fun (u : Heap) => (IM D ρ N u a0) ∧ ((ai H (ρ a0 0) 976).toInt ≤ (ai u (ρ a0 0) 976).toInt)) (fun q => q = ρ a0 2 ∨ q = ρ a0 0) := by
  refine MV.of (by decide) (Nat.le_of_ble_eq_true rfl) ?_
  intro p e s m args below meth c E hml hr hlk hs ls hl
  have hx := E.1
  have hb := E.2.1
  have hown := E.2.2.1
  have hts := E.2.2.2.1
  have hS : SS (fun q => q = ρ a0 2 ∨ q = ρ a0 0) H H [] := SS.rf
  have hl : lv_has ls 6 [(0, .ref a0), (1, .int 0), (2, .int x1), (3, .int 0), (4, .int 1)] := hl
  have n01 := hI.2.2.2.2.2.1
  have n23 := hI.2.2.2.2.2.2.1
  have J_103 : ∀ (H_c103 : Heap) (lc_c103 : List Loc) (ls : Array Slot) (z103_2 : Int32), TH D cI cS τ ρ H_c103 → SS (fun q => q = ρ a0 2 ∨ q = ρ a0 0) H H_c103 lc_c103 → lv_has ls 6 [(0, .ref a0), (1, .int 0), (2, .int x1), (3, .int 0), (4, .int 1), (5, .int 0)] → 0 ≤ x1.toInt → x1.toInt ≤ 700 → IM D ρ N H_c103 a0 → (ai H (ρ a0 0) 976).toInt ≤ (ai H_c103 (ρ a0 0) 976).toInt → W p l e (rmO 5 115) s m args below meth c H_c103 lc_c103 0 0 (MQ below (va_Qv (fun (u : Heap) => (IM D ρ N u a0) ∧ ((ai H (ρ a0 0) 976).toInt ≤ (ai u (ρ a0 0) 976).toInt)) (Bt D cI cS τ ρ H) (fun q => q = ρ a0 2 ∨ q = ρ a0 0)) args s 0 0 (fun q => q = ρ a0 2 ∨ q = ρ a0 0)) (F0 m 103 ls [.int z103_2, .int 7, .ref (ρ a0 2)]) := by
    intro H_c103 lc_c103 ls z103_2 hT_c103 hS_c103 hl ly103_2 uy103_2 hI_c103 hmn_c103
    refine th_iast E hT_c103 hS_c103 (hW _ 12 2 ha0 (by decide) (by decide) (by decide)) (Or.inl rfl) (by decide) (vp_in_iff.mpr ⟨by decide, by decide⟩) dX12_data_103 (fun H_1 locs_1 hT_1 hU_1 hS_1 => ?_)
    have hU_1 : AU 20 H_c103 H_1 (ρ a0 2) 7 z103_2 := hU_1
    have hL_1 : PL H_1 (ρ a0 2) := PL.put hI_c103.2.2.2.1 hU_1 (by show (-2147483648 : Int) ≤ _; exact i_min _) (by show _ ≤ (2147483647 : Int); exact i_max _)
    refine lv_aload_n hx hb dX12_data_104 rfl (lv_at hl 0 rfl) ?_
    refine th_Vv (As := []) (rest := []) E hml hl.1 (y_posts l D cI cS τ ρ hW H_1 hT_1 a0 ha0 N hN0 hN1 ⟨(PW.q (hU_1.2 _ (th_ne (hW _ 12 0 ha0 (by decide) (by decide) (by decide)) (hW _ 12 2 ha0 (by decide) (by decide) (by decide)) (by decide))) hI_c103.1), (QS.same (ai_q (hU_1.2 _ (th_ne (hW _ 12 0 ha0 (by decide) (by decide) (by decide)) (hW _ 12 2 ha0 (by decide) (by decide) (by decide)) (by decide)))) (ai_q (hU_1.2 _ (th_ne (hW _ 12 0 ha0 (by decide) (by decide) (by decide)) (hW _ 12 2 ha0 (by decide) (by decide) (by decide)) (by decide)))) hI_c103.2.1), (QS.same (ai_q (hU_1.2 _ (th_ne (hW _ 12 0 ha0 (by decide) (by decide) (by decide)) (hW _ 12 2 ha0 (by decide) (by decide) (by decide)) (by decide)))) (ai_q (hU_1.2 _ (th_ne (hW _ 12 0 ha0 (by decide) (by decide) (by decide)) (hW _ 12 2 ha0 (by decide) (by decide) (by decide)) (by decide)))) hI_c103.2.2.1), hL_1, (PL.q (hU_1.2 _ (Ne.symm n23)) hI_c103.2.2.2.2.1), (IF.q (hU_1.2 _ (th_ne ha0 (hW _ 12 2 ha0 (by decide) (by decide) (by decide)) (by decide))) hI_c103.2.2.2.2.2)⟩) lk_X12_129 yd_X12_posts hT_1 ha0 rfl (by decide) hS_1 (fun q h => (Or.inr h)) ⟨by decide, by decide⟩ (Nat.le_of_ble_eq_true rfl) ⟨by decide, by decide⟩ rfl dX12_data_105 (fun H_2 locs_2 p_2 hT_2 hk_2 hS_2 => ?_)
    have p_2 : (IM D ρ N H_2 a0) ∧ ((ai H_1 (ρ a0 0) 976).toInt ≤ (ai H_2 (ρ a0 0) 976).toInt) := p_2
    obtain ⟨p_2_0, p_2_1⟩ := p_2
    have mn_2 : (ai H_c103 (ρ a0 0) 976).toInt ≤ (ai H_2 (ρ a0 0) 976).toInt := by have h := p_2_1; rw [(ai_q (hU_1.2 _ (th_ne (hW _ 12 0 ha0 (by decide) (by decide) (by decide)) (hW _ 12 2 ha0 (by decide) (by decide) (by decide)) (by decide))))] at h; exact h
    exact th_vret E hr hlk hs hT_2 hS_2 ⟨⟨p_2_0.1, p_2_0.2.1, p_2_0.2.2.1, p_2_0.2.2.2.1, p_2_0.2.2.2.2.1, p_2_0.2.2.2.2.2⟩, (by omega)⟩ dX12_data_108
  have L_32 : ∀ (n : Nat) (H_c32 : Heap) (lc_c32 : List Loc) (ls : Array Slot), TH D cI cS τ ρ H_c32 → SS (fun q => q = ρ a0 2 ∨ q = ρ a0 0) H H_c32 lc_c32 → lv_has ls 6 [(0, .ref a0), (1, .int 0), (2, .int x1), (3, .int 0), (4, .int 1), (5, .int 0)] → 0 ≤ x1.toInt → x1.toInt ≤ 700 → IM D ρ N H_c32 a0 → (ai H (ρ a0 0) 976).toInt ≤ (ai H_c32 (ρ a0 0) 976).toInt → ((0 : Int) - 0).toNat < n → W p l e (rmO 5 115) s m args below meth c H_c32 lc_c32 0 0 (MQ below (va_Qv (fun (u : Heap) => (IM D ρ N u a0) ∧ ((ai H (ρ a0 0) 976).toInt ≤ (ai u (ρ a0 0) 976).toInt)) (Bt D cI cS τ ρ H) (fun q => q = ρ a0 2 ∨ q = ρ a0 0)) args s 0 0 (fun q => q = ρ a0 2 ∨ q = ρ a0 0)) (F0 m 32 ls []) := by
    intro n
    induction n with
    | zero => intro H_c32 lc_c32 ls hT_c32 hS_c32 hl ly32_2 uy32_2 hI_c32 hmn_c32 hm; exact absurd hm (Nat.not_lt_zero _)
    | succ n ih_32 =>
      intro H_c32 lc_c32 ls hT_c32 hS_c32 hl ly32_2 uy32_2 hI_c32 hmn_c32 hm_32
      refine lv_iload hx hb dX12_data_32 (lv_at hl 5 rfl) ?_
      refine lv_iload_n hx hb dX12_data_34 rfl (lv_at hl 3 rfl) ?_
      refine lv_icmp_ge (tgt := 69) hx hb dX12_data_35 (by decide) (fun c_3 => ?_) (fun c_3 => absurd (by decide) c_3)
      refine lv_aload_n hx hb dX12_data_69 rfl (lv_at hl 0 rfl) ?_
      refine gf_X12_16 E hT_c32 hW ha0 dX12_data_70 (fun h_4 => ?_)
      refine lv_bipush (v := 7) hx hb dX12_data_73 (by decide) ?_
      refine lv_iload_n hx hb dX12_data_75 rfl (lv_at hl 2 rfl) ?_
      refine lv_aload_n hx hb dX12_data_76 rfl (lv_at hl 0 rfl) ?_
      refine lv_iload_n hx hb dX12_data_77 rfl (lv_at hl 1 rfl) ?_
      refine lv_bipush (v := 14) hx hb dX12_data_78 (by decide) ?_
      refine th_Vi (As := [.int 0, .int 14]) (rest := [.int x1, .int 7, .ref (ρ a0 2)]) E hml hl.1 (y_get_v25 l D cI cS τ ρ hW H_c32 hT_c32 a0 ha0) lk_X12_99 yd_X12_get hT_c32 ha0 rfl (by decide) hS_c32 (fun _ h => h.elim) ⟨by decide, by decide⟩ (Nat.le_of_ble_eq_true rfl) ⟨by decide, by decide⟩ rfl dX12_data_80 (fun r_5 H_5 locs_5 p_5 hT_5 hk_5 hS_5 => ?_)
      have p_5 : H_c32 = H_5 ∧ (ai H_c32 (ρ a0 0) 14 = r_5) := p_5
      obtain ⟨rfl, p_5_0⟩ := p_5
      have c_r_5 := congrArg Int32.toInt p_5_0
      refine lv_icmp_ge (tgt := 101) hx hb dX12_data_83 (by decide) (fun c_6 => ?_) (fun c_6 => ?_)
      · have f_6 : r_5.toInt ≤ x1.toInt := r_le rfl rfl c_6
        refine lv_bipush (v := (-4)) hx hb dX12_data_101 (by decide) ?_
        exact J_103 H_c32 locs_5 _ (-4) hT_5 hS_5 hl (by omega) (by omega) ⟨hI_c32.1, hI_c32.2.1, hI_c32.2.2.1, hI_c32.2.2.2.1, hI_c32.2.2.2.2.1, hI_c32.2.2.2.2.2⟩ (by omega)
      · have f_6 : x1.toInt < r_5.toInt := r_nle rfl rfl c_6
        refine lv_aload_n hx hb dX12_data_86 rfl (lv_at hl 0 rfl) ?_
        refine lv_iload_n hx hb dX12_data_87 rfl (lv_at hl 1 rfl) ?_
        refine lv_aload_n hx hb dX12_data_88 rfl (lv_at hl 0 rfl) ?_
        refine lv_iload_n hx hb dX12_data_89 rfl (lv_at hl 1 rfl) ?_
        refine lv_bipush (v := 14) hx hb dX12_data_90 (by decide) ?_
        refine th_Vi (As := [.int 0, .int 14]) (rest := [.int 0, .ref a0, .int 7, .ref (ρ a0 2)]) E hml hl.1 (y_get_v25 l D cI cS τ ρ hW H_c32 hT_5 a0 ha0) lk_X12_99 yd_X12_get hT_5 ha0 rfl (by decide) hS_5 (fun _ h => h.elim) ⟨by decide, by decide⟩ (Nat.le_of_ble_eq_true rfl) ⟨by decide, by decide⟩ rfl dX12_data_92 (fun r_7 H_7 locs_7 p_7 hT_7 hk_7 hS_7 => ?_)
        have p_7 : H_c32 = H_7 ∧ (ai H_c32 (ρ a0 0) 14 = r_7) := p_7
        obtain ⟨rfl, p_7_0⟩ := p_7
        have s_7 : r_7 = r_5 := p_7_0.symm.trans p_5_0
        refine th_topi s_7 ?_
        refine th_Vi (As := [.int 0, .int r_5]) (rest := [.int 7, .ref (ρ a0 2)]) E hml hl.1 (y_number_v3 l D cI cS τ ρ hW H_c32 hT_7 a0 r_5 ha0) lk_X12_112 yd_X12_number hT_7 ha0 rfl (by decide) hS_7 (fun _ h => h.elim) ⟨by decide, by decide⟩ (Nat.le_of_ble_eq_true rfl) ⟨by decide, by decide⟩ rfl dX12_data_95 (fun r_8 H_8 locs_8 p_8 hT_8 hk_8 hS_8 => ?_)
        have p_8 : H_c32 = H_8 := p_8
        obtain rfl := p_8
        refine lv_goto (tgt := 103) hx hb dX12_data_98 (by decide) ?_
        exact J_103 H_c32 locs_8 _ r_8 hT_8 hS_8 hl (by omega) (by omega) ⟨hI_c32.1, hI_c32.2.1, hI_c32.2.2.1, hI_c32.2.2.2.1, hI_c32.2.2.2.2.1, hI_c32.2.2.2.2.2⟩ (by omega)
  have J_13 : ∀ (H_c13 : Heap) (lc_c13 : List Loc) (ls : Array Slot), TH D cI cS τ ρ H_c13 → SS (fun q => q = ρ a0 2 ∨ q = ρ a0 0) H H_c13 lc_c13 → lv_has ls 6 [(0, .ref a0), (1, .int 0), (2, .int x1), (3, .int 0), (4, .int 1)] → 0 ≤ x1.toInt → x1.toInt ≤ 700 → IM D ρ N H_c13 a0 → (ai H (ρ a0 0) 976).toInt ≤ (ai H_c13 (ρ a0 0) 976).toInt → W p l e (rmO 5 115) s m args below meth c H_c13 lc_c13 0 0 (MQ below (va_Qv (fun (u : Heap) => (IM D ρ N u a0) ∧ ((ai H (ρ a0 0) 976).toInt ≤ (ai u (ρ a0 0) 976).toInt)) (Bt D cI cS τ ρ H) (fun q => q = ρ a0 2 ∨ q = ρ a0 0)) args s 0 0 (fun q => q = ρ a0 2 ∨ q = ρ a0 0)) (F0 m 13 ls [.int 6, .int 0, .ref a0]) := by
    intro H_c13 lc_c13 ls hT_c13 hS_c13 hl ly13_2 uy13_2 hI_c13 hmn_c13
    refine lv_aload_n hx hb dX12_data_13 rfl (lv_at hl 0 rfl) ?_
    refine lv_iload_n hx hb dX12_data_14 rfl (lv_at hl 1 rfl) ?_
    refine lv_iload_n hx hb dX12_data_15 rfl (lv_at hl 2 rfl) ?_
    refine th_Vi (As := [.int 0, .int x1]) (rest := [.int 6, .int 0, .ref a0]) E hml hl.1 (y_number_v3 l D cI cS τ ρ hW H_c13 hT_c13 a0 x1 ha0) lk_X12_112 yd_X12_number hT_c13 ha0 rfl (by decide) hS_c13 (fun _ h => h.elim) ⟨by decide, by decide⟩ (Nat.le_of_ble_eq_true rfl) ⟨by decide, by decide⟩ rfl dX12_data_16 (fun r_9 H_9 locs_9 p_9 hT_9 hk_9 hS_9 => ?_)
    have p_9 : H_c13 = H_9 := p_9
    obtain rfl := p_9
    refine th_Vv (As := [.int 0, .int 6, .int r_9]) (rest := []) E hml hl.1 (y_makes_v2 l D cI cS τ ρ hW H_c13 hT_9 a0 r_9 ha0 N hN0 hN1 ⟨hI_c13.1, hI_c13.2.1, hI_c13.2.2.1, hI_c13.2.2.2.1, hI_c13.2.2.2.2.1, hI_c13.2.2.2.2.2⟩) lk_X12_126 yd_X12_makes hT_9 ha0 rfl (by decide) hS_9 (fun q h => (Or.inl h)) ⟨by decide, by decide⟩ (Nat.le_of_ble_eq_true rfl) ⟨by decide, by decide⟩ rfl dX12_data_19 (fun H_10 locs_10 p_10 hT_10 hk_10 hS_10 => ?_)
    have p_10 : (IM D ρ N H_10 a0) ∧ ((ai H_c13 (ρ a0 0) 976).toInt ≤ (ai H_10 (ρ a0 0) 976).toInt) := p_10
    obtain ⟨p_10_0, p_10_1⟩ := p_10
    have mn_10 : (ai H_c13 (ρ a0 0) 976).toInt ≤ (ai H_10 (ρ a0 0) 976).toInt := by exact p_10_1
    refine lv_aload_n hx hb dX12_data_22 rfl (lv_at hl 0 rfl) ?_
    refine gf_X12_16 E hT_10 hW ha0 dX12_data_23 (fun h_11 => ?_)
    refine lv_iconst (v := 5) hx hb dX12_data_26 (by decide) ?_
    refine lv_iload_n hx hb dX12_data_27 rfl (lv_at hl 3 rfl) ?_
    refine th_iast E hT_10 hS_10 h_11 (Or.inl rfl) (by decide) (vp_in_iff.mpr ⟨by decide, by decide⟩) dX12_data_28 (fun H_12 locs_12 hT_12 hU_12 hS_12 => ?_)
    have hU_12 : AU 20 H_10 H_12 (ρ a0 2) 5 (0) := hU_12
    have hL_12 : PL H_12 (ρ a0 2) := PL.put p_10_0.2.2.2.1 hU_12 (by show (0 : Int) ≤ (0 : Int32).toInt; have : (0 : Int32).toInt = 0 := (by decide); omega) (by show (0 : Int32).toInt ≤ (8 : Int); have : (0 : Int32).toInt = 0 := (by decide); omega)
    refine lv_iconst (v := 0) hx hb dX12_data_29 (by decide) ?_
    refine lv_istore (lv' := [(5, .int 0), (0, .ref a0), (1, .int 0), (2, .int x1), (3, .int 0), (4, .int 1)]) hx hb dX12_data_30 hl (by decide) rfl (fun ls hl => ?_)
    exact L_32 _ H_12 locs_12 _ hT_12 hS_12 (lv_sub hl [1, 2, 3, 4, 5, 0] rfl) (by omega) (by omega) ⟨(PW.q (hU_12.2 _ (th_ne (hW _ 12 0 ha0 (by decide) (by decide) (by decide)) (hW _ 12 2 ha0 (by decide) (by decide) (by decide)) (by decide))) p_10_0.1), (QS.same ((Eq.trans (ai_q (hU_12.2 _ (th_ne (hW _ 12 0 ha0 (by decide) (by decide) (by decide)) (hW _ 12 2 ha0 (by decide) (by decide) (by decide)) (by decide)))) (ai_q (hk_10 _ (th_ne (hW _ 12 0 ha0 (by decide) (by decide) (by decide)) (hW _ 12 2 ha0 (by decide) (by decide) (by decide)) (by decide))))).trans (ai_q (hk_10 _ (th_ne (hW _ 12 0 ha0 (by decide) (by decide) (by decide)) (hW _ 12 2 ha0 (by decide) (by decide) (by decide)) (by decide)))).symm) ((Eq.trans (ai_q (hU_12.2 _ (th_ne (hW _ 12 0 ha0 (by decide) (by decide) (by decide)) (hW _ 12 2 ha0 (by decide) (by decide) (by decide)) (by decide)))) (ai_q (hk_10 _ (th_ne (hW _ 12 0 ha0 (by decide) (by decide) (by decide)) (hW _ 12 2 ha0 (by decide) (by decide) (by decide)) (by decide))))).trans (ai_q (hk_10 _ (th_ne (hW _ 12 0 ha0 (by decide) (by decide) (by decide)) (hW _ 12 2 ha0 (by decide) (by decide) (by decide)) (by decide)))).symm) p_10_0.2.1), (QS.same ((Eq.trans (ai_q (hU_12.2 _ (th_ne (hW _ 12 0 ha0 (by decide) (by decide) (by decide)) (hW _ 12 2 ha0 (by decide) (by decide) (by decide)) (by decide)))) (ai_q (hk_10 _ (th_ne (hW _ 12 0 ha0 (by decide) (by decide) (by decide)) (hW _ 12 2 ha0 (by decide) (by decide) (by decide)) (by decide))))).trans (ai_q (hk_10 _ (th_ne (hW _ 12 0 ha0 (by decide) (by decide) (by decide)) (hW _ 12 2 ha0 (by decide) (by decide) (by decide)) (by decide)))).symm) ((Eq.trans (ai_q (hU_12.2 _ (th_ne (hW _ 12 0 ha0 (by decide) (by decide) (by decide)) (hW _ 12 2 ha0 (by decide) (by decide) (by decide)) (by decide)))) (ai_q (hk_10 _ (th_ne (hW _ 12 0 ha0 (by decide) (by decide) (by decide)) (hW _ 12 2 ha0 (by decide) (by decide) (by decide)) (by decide))))).trans (ai_q (hk_10 _ (th_ne (hW _ 12 0 ha0 (by decide) (by decide) (by decide)) (hW _ 12 2 ha0 (by decide) (by decide) (by decide)) (by decide)))).symm) p_10_0.2.2.1), hL_12, (PL.q (hU_12.2 _ (Ne.symm n23)) p_10_0.2.2.2.2.1), (IF.q (hU_12.2 _ (th_ne ha0 (hW _ 12 2 ha0 (by decide) (by decide) (by decide)) (by decide))) p_10_0.2.2.2.2.2)⟩ (by rw [(Eq.trans (ai_q (hU_12.2 _ (th_ne (hW _ 12 0 ha0 (by decide) (by decide) (by decide)) (hW _ 12 2 ha0 (by decide) (by decide) (by decide)) (by decide)))) (ai_q (hk_10 _ (th_ne (hW _ 12 0 ha0 (by decide) (by decide) (by decide)) (hW _ 12 2 ha0 (by decide) (by decide) (by decide)) (by decide)))))]; omega) (Nat.lt_succ_self _)
  refine lv_aload_n hx hb dX12_data_0 rfl (lv_at hl 0 rfl) ?_
  refine lv_iload_n hx hb dX12_data_1 rfl (lv_at hl 1 rfl) ?_
  refine lv_iload hx hb dX12_data_2 (lv_at hl 4 rfl) ?_
  refine lv_if_eq (tgt := 12) hx hb dX12_data_4 (by decide) (fun c_13 => absurd c_13 (by decide)) (fun c_13 => ?_)
  refine lv_bipush (v := 6) hx hb dX12_data_7 (by decide) ?_
  refine lv_goto (tgt := 13) hx hb dX12_data_9 (by decide) ?_
  exact J_13 H [] _ hT hS hl (by omega) (by omega) ⟨hI.1, hI.2.1, hI.2.2.1, hI.2.2.2.1, hI.2.2.2.2.1, hI.2.2.2.2.2⟩ (by omega)
set_option maxHeartbeats 4000000 in
set_option maxRecDepth 100000 in
/-- the reference: sends -/
theorem y_sends_v3 (l : Launch) (D : va_G) (cI cS : ClassId) (τ : Nat → Option Nat) (ρ : Nat → Nat → Nat) (hW : WF τ ρ) (H : Heap) (hT : TH D cI cS τ ρ H) (a0 : Nat) (ha0 : τ a0 = some 12) (N : Int) (hN0 : 0 ≤ N) (hN1 : N ≤ 600) (hI : IM D ρ N H a0) (hp0 : 0 ≤ 0 ∧ 0 ≤ 8) (hp1 : (ai H (ρ a0 0) 2).toInt + 0 ≤ N + 1) : MV l D cI cS τ ρ yX12_sends cX12_sends 6 none 6 140 H [.ref a0, .int 0, .int 0, .int 1] (fun (u : Heap) => (IM D ρ N u a0) ∧ ((ai u (ρ a0 0) 2).toInt = (ai H (ρ a0 0) 2).toInt + 0 + 1) ∧ ((ai H (ρ a0 0) 976).toInt ≤ (ai u (ρ a0 0) 976).toInt)) (fun q => q = ρ a0 2 ∨ q = ρ a0 0) := by
  refine MV.of (by decide) (Nat.le_of_ble_eq_true rfl) ?_
  intro p e s m args below meth c E hml hr hlk hs ls hl
  have hx := E.1
  have hb := E.2.1
  have hown := E.2.2.1
  have hts := E.2.2.2.1
  have hS : SS (fun q => q = ρ a0 2 ∨ q = ρ a0 0) H H [] := SS.rf
  have hl : lv_has ls 6 [(0, .ref a0), (1, .int 0), (2, .int 0), (3, .int 1)] := hl
  have n01 := hI.2.2.2.2.2.1
  have n23 := hI.2.2.2.2.2.2.1
  refine lv_aload_n hx hb dX12_sends_0 rfl (lv_at hl 0 rfl) ?_
  refine lv_iload_n hx hb dX12_sends_1 rfl (lv_at hl 1 rfl) ?_
  refine lv_iconst (v := 2) hx hb dX12_sends_2 (by decide) ?_
  refine th_Vi (As := [.int 0, .int 2]) (rest := []) E hml hl.1 (y_get_v16 l D cI cS τ ρ hW H hT a0 ha0) lk_X12_99 yd_X12_get hT ha0 rfl (by decide) hS (fun _ h => h.elim) ⟨by decide, by decide⟩ (Nat.le_of_ble_eq_true rfl) ⟨by decide, by decide⟩ rfl dX12_sends_3 (fun r_1 H_1 locs_1 p_1 hT_1 hk_1 hS_1 => ?_)
  have p_1 : H = H_1 ∧ (ai H (ρ a0 0) 2 = r_1) := p_1
  obtain ⟨rfl, p_1_0⟩ := p_1
  have b_r_1 : 0 ≤ r_1.toInt ∧ r_1.toInt ≤ N + 2 := by rw [← p_1_0]; exact hI.1 2 (by decide)
  have c_r_1 := congrArg Int32.toInt p_1_0
  refine lv_istore (lv' := [(4, .int r_1), (0, .ref a0), (1, .int 0), (2, .int 0), (3, .int 1)]) hx hb dX12_sends_6 hl (by decide) rfl (fun ls hl => ?_)
  refine lv_iload_n hx hb dX12_sends_8 rfl (lv_at hl 3 rfl) ?_
  refine lv_iload_n hx hb dX12_sends_9 rfl (lv_at hl 4 rfl) ?_
  refine lv_if_eq (tgt := 17) hx hb dX12_sends_10 (by decide) (fun c_2 => absurd c_2 (by decide)) (fun c_2 => ?_)
  refine lv_iconst (v := 1) hx hb dX12_sends_13 (by decide) ?_
  refine lv_goto (tgt := 18) hx hb dX12_sends_14 (by decide) ?_
  refine lv_iadd hx hb dX12_sends_18 ?_
  refine th_topi (y := 1) (by decide) ?_
  refine lv_istore (lv' := [(5, .int 1), (4, .int r_1), (0, .ref a0), (1, .int 0), (2, .int 0), (3, .int 1)]) hx hb dX12_sends_19 hl (by decide) rfl (fun ls hl => ?_)
  refine lv_aload_n hx hb dX12_sends_21 rfl (lv_at hl 2 rfl) ?_
  refine lv_iload_n hx hb dX12_sends_22 rfl (lv_at hl 3 rfl) ?_
  refine lv_iload hx hb dX12_sends_23 (lv_at hl 1 rfl) ?_
  refine lv_iload_n hx hb dX12_sends_25 rfl (lv_at hl 4 rfl) ?_
  refine lv_iload_n hx hb dX12_sends_26 rfl (lv_at hl 5 rfl) ?_
  refine th_Vv (As := [.int 0, .int r_1, .int 0, .int 1]) (rest := []) E hml hl.1 (y_data_v4 l D cI cS τ ρ hW H hT_1 a0 r_1 ha0 N hN0 hN1 ⟨hI.1, hI.2.1, hI.2.2.1, hI.2.2.2.1, hI.2.2.2.2.1, hI.2.2.2.2.2⟩ (by omega) (by omega)) lk_X12_139 yd_X12_data hT_1 ha0 rfl (by decide) hS_1 (fun q => (fun h => h.elim (fun h => (Or.inl h)) (fun h => (Or.inr h)))) ⟨by decide, by decide⟩ (Nat.le_of_ble_eq_true rfl) ⟨by decide, by decide⟩ rfl dX12_sends_27 (fun H_3 locs_3 p_3 hT_3 hk_3 hS_3 => ?_)
  have p_3 : (IM D ρ N H_3 a0) ∧ ((ai H (ρ a0 0) 976).toInt ≤ (ai H_3 (ρ a0 0) 976).toInt) := p_3
  obtain ⟨p_3_0, p_3_1⟩ := p_3
  have mn_3 : (ai H (ρ a0 0) 976).toInt ≤ (ai H_3 (ρ a0 0) 976).toInt := by exact p_3_1
  refine lv_aload_n hx hb dX12_sends_30 rfl (lv_at hl 2 rfl) ?_
  refine lv_iload_n hx hb dX12_sends_31 rfl (lv_at hl 3 rfl) ?_
  refine lv_iload hx hb dX12_sends_32 (lv_at hl 1 rfl) ?_
  refine lv_iload hx hb dX12_sends_34 (lv_at hl 0 rfl) ?_
  refine lv_iadd hx hb dX12_sends_36 ?_
  refine lv_topi (fun x_4 ex_4 => ?_)
  have q_4 : x_4.toInt = r_1.toInt + 1 := i_pl rfl (by decide) ex_4 (by omega) (by omega)
  refine lv_iconst (v := 1) hx hb dX12_sends_37 (by decide) ?_
  refine lv_isub hx hb dX12_sends_38 ?_
  refine lv_topi (fun x_5 ex_5 => ?_)
  have q_5 : x_5.toInt = x_4.toInt - 1 := i_mi rfl (by decide) ex_5 (by omega) (by omega)
  refine th_Vv (As := [.int 0, .int x_5]) (rest := []) E hml hl.1 (y_times l D cI cS τ ρ hW H_3 hT_3 a0 x_5 ha0 N hN0 hN1 ⟨p_3_0.1, p_3_0.2.1, p_3_0.2.2.1, p_3_0.2.2.2.1, p_3_0.2.2.2.2.1, p_3_0.2.2.2.2.2⟩) lk_X12_143 yd_X12_times hT_3 ha0 rfl (by decide) hS_3 (fun q h => (Or.inr h)) ⟨by decide, by decide⟩ (Nat.le_of_ble_eq_true rfl) ⟨by decide, by decide⟩ rfl dX12_sends_39 (fun H_6 locs_6 p_6 hT_6 hk_6 hS_6 => ?_)
  have p_6 : (IM D ρ N H_6 a0) ∧ ((ai H_3 (ρ a0 0) 976).toInt ≤ (ai H_6 (ρ a0 0) 976).toInt) := p_6
  obtain ⟨p_6_0, p_6_1⟩ := p_6
  have mn_6 : (ai H_3 (ρ a0 0) 976).toInt ≤ (ai H_6 (ρ a0 0) 976).toInt := by exact p_6_1
  refine lv_aload_n hx hb dX12_sends_42 rfl (lv_at hl 2 rfl) ?_
  refine lv_iload_n hx hb dX12_sends_43 rfl (lv_at hl 3 rfl) ?_
  refine lv_iconst (v := 2) hx hb dX12_sends_44 (by decide) ?_
  refine lv_iload hx hb dX12_sends_45 (lv_at hl 1 rfl) ?_
  refine lv_iload hx hb dX12_sends_47 (lv_at hl 0 rfl) ?_
  refine lv_iadd hx hb dX12_sends_49 ?_
  refine lv_topi (fun x_7 ex_7 => ?_)
  have q_7 : x_7.toInt = r_1.toInt + 1 := i_pl rfl (by decide) ex_7 (by omega) (by omega)
  refine th_Vv (As := [.int 0, .int 2, .int x_7]) (rest := []) E hml hl.1 (y_set_v39 l D cI cS τ ρ hW H_6 hT_6 a0 x_7 ha0) lk_X12_95 yd_X12_set hT_6 ha0 rfl (by decide) hS_6 (fun q h => (Or.inr h)) ⟨by decide, by decide⟩ (Nat.le_of_ble_eq_true rfl) ⟨by decide, by decide⟩ rfl dX12_sends_50 (fun H_8 locs_8 p_8 hT_8 hk_8 hS_8 => ?_)
  have p_8 : (AU 985 H_6 H_8 (ρ a0 0) 2 x_7) := p_8
  have hW_8 : PW N H_8 (ρ a0 0) := PW.put p_6_0.1 p_8 (by show (0 : Int) ≤ x_7.toInt; omega) (by show x_7.toInt ≤ (N + 2 : Int); omega)
  refine lv_iload_n hx hb dX12_sends_53 rfl (lv_at hl 5 rfl) ?_
  refine lv_if_eq (tgt := 79) hx hb dX12_sends_54 (by decide) (fun c_9 => absurd c_9 (by decide)) (fun c_9 => ?_)
  refine lv_aload_n hx hb dX12_sends_57 rfl (lv_at hl 2 rfl) ?_
  refine lv_iload_n hx hb dX12_sends_58 rfl (lv_at hl 3 rfl) ?_
  refine lv_iconst (v := 0) hx hb dX12_sends_59 (by decide) ?_
  refine lv_aload_n hx hb dX12_sends_60 rfl (lv_at hl 2 rfl) ?_
  refine lv_iload_n hx hb dX12_sends_61 rfl (lv_at hl 3 rfl) ?_
  refine lv_iconst (v := 0) hx hb dX12_sends_62 (by decide) ?_
  refine th_Vi (As := [.int 0, .int 0]) (rest := [.int 0, .int 0, .ref a0]) E hml hl.1 (y_get_v21 l D cI cS τ ρ hW H_8 hT_8 a0 ha0) lk_X12_99 yd_X12_get hT_8 ha0 rfl (by decide) hS_8 (fun _ h => h.elim) ⟨by decide, by decide⟩ (Nat.le_of_ble_eq_true rfl) ⟨by decide, by decide⟩ rfl dX12_sends_63 (fun r_10 H_10 locs_10 p_10 hT_10 hk_10 hS_10 => ?_)
  have p_10 : H_8 = H_10 ∧ (ai H_8 (ρ a0 0) 0 = r_10) := p_10
  obtain ⟨rfl, p_10_0⟩ := p_10
  have t_10 : ai H_6 (ρ a0 0) 0 = r_10 := (AU.o p_8 (by decide) (by decide)).symm.trans p_10_0
  have c_r_10 := congrArg Int32.toInt t_10
  refine lv_iconst (v := 4) hx hb dX12_sends_66 (by decide) ?_
  refine lv_icmp_ne (tgt := 74) hx hb dX12_sends_67 (by decide) (fun c_11 => ?_) (fun c_11 => ?_)
  · have f_11 : ¬ r_10.toInt = 4 := r_ne rfl (by decide) c_11
    refine lv_bipush (v := 9) hx hb dX12_sends_74 (by decide) ?_
    refine th_Vv (As := [.int 0, .int 0, .int 9]) (rest := []) E hml hl.1 (y_set_v40 l D cI cS τ ρ hW H_8 hT_10 a0 ha0) lk_X12_95 yd_X12_set hT_10 ha0 rfl (by decide) hS_10 (fun q h => (Or.inr h)) ⟨by decide, by decide⟩ (Nat.le_of_ble_eq_true rfl) ⟨by decide, by decide⟩ rfl dX12_sends_76 (fun H_12 locs_12 p_12 hT_12 hk_12 hS_12 => ?_)
    have p_12 : (AU 985 H_8 H_12 (ρ a0 0) 0 (9)) := p_12
    have hW_12 : PW N H_12 (ρ a0 0) := PW.put hW_8 p_12 (by show (-2147483648 : Int) ≤ _; exact i_min _) (by show _ ≤ (2147483647 : Int); exact i_max _)
    exact th_vret E hr hlk hs hT_12 hS_12 ⟨⟨hW_12, (QS.of (s := (9 : Int32)) (t := (x_7 : Int32)) (AU.s p_12 (by decide)) (Eq.trans (AU.o p_12 (by decide) (by decide)) (AU.s p_8 (by decide))) (by have j := p_6_0.2.1; unfold QS at j; have : (ai H_6 (ρ a0 0) 0).toInt = (r_10 : Int32).toInt := congrArg Int32.toInt t_10; have : (9 : Int32).toInt = 9 := (by decide); omega)), (QS.same (Eq.trans (AU.o p_12 (by decide) (by decide)) (AU.o p_8 (by decide) (by decide))) (Eq.trans (AU.o p_12 (by decide) (by decide)) (AU.o p_8 (by decide) (by decide))) p_6_0.2.2.1), (PL.q (p_12.2 _ (th_ne (hW _ 12 2 ha0 (by decide) (by decide) (by decide)) (hW _ 12 0 ha0 (by decide) (by decide) (by decide)) (by decide))) (PL.q (p_8.2 _ (th_ne (hW _ 12 2 ha0 (by decide) (by decide) (by decide)) (hW _ 12 0 ha0 (by decide) (by decide) (by decide)) (by decide))) p_6_0.2.2.2.1)), (PL.q (p_12.2 _ (th_ne (hW _ 12 3 ha0 (by decide) (by decide) (by decide)) (hW _ 12 0 ha0 (by decide) (by decide) (by decide)) (by decide))) (PL.q (p_8.2 _ (th_ne (hW _ 12 3 ha0 (by decide) (by decide) (by decide)) (hW _ 12 0 ha0 (by decide) (by decide) (by decide)) (by decide))) p_6_0.2.2.2.2.1)), (IF.q (p_12.2 _ (th_ne ha0 (hW _ 12 0 ha0 (by decide) (by decide) (by decide)) (by decide))) (IF.q (p_8.2 _ (th_ne ha0 (hW _ 12 0 ha0 (by decide) (by decide) (by decide)) (by decide))) p_6_0.2.2.2.2.2))⟩, (by have : (ai H_12 (ρ a0 0) 2).toInt = (x_7 : Int32).toInt := congrArg Int32.toInt (Eq.trans (AU.o p_12 (by decide) (by decide)) (AU.s p_8 (by decide))); have : (ai H (ρ a0 0) 2).toInt = (r_1 : Int32).toInt := congrArg Int32.toInt p_1_0; omega), (by rw [(Eq.trans (AU.o p_12 (by decide) (by decide)) (AU.o p_8 (by decide) (by decide)))]; omega)⟩ dX12_sends_79
  · have f_11 : r_10.toInt = 4 := r_eq rfl (by decide) c_11
    refine lv_iconst (v := 5) hx hb dX12_sends_70 (by decide) ?_
    refine lv_goto (tgt := 76) hx hb dX12_sends_71 (by decide) ?_
    refine th_Vv (As := [.int 0, .int 0, .int 5]) (rest := []) E hml hl.1 (y_set_v41 l D cI cS τ ρ hW H_8 hT_10 a0 ha0) lk_X12_95 yd_X12_set hT_10 ha0 rfl (by decide) hS_10 (fun q h => (Or.inr h)) ⟨by decide, by decide⟩ (Nat.le_of_ble_eq_true rfl) ⟨by decide, by decide⟩ rfl dX12_sends_76 (fun H_13 locs_13 p_13 hT_13 hk_13 hS_13 => ?_)
    have p_13 : (AU 985 H_8 H_13 (ρ a0 0) 0 (5)) := p_13
    have hW_13 : PW N H_13 (ρ a0 0) := PW.put hW_8 p_13 (by show (-2147483648 : Int) ≤ _; exact i_min _) (by show _ ≤ (2147483647 : Int); exact i_max _)
    exact th_vret E hr hlk hs hT_13 hS_13 ⟨⟨hW_13, (QS.of (s := (5 : Int32)) (t := (x_7 : Int32)) (AU.s p_13 (by decide)) (Eq.trans (AU.o p_13 (by decide) (by decide)) (AU.s p_8 (by decide))) (by have j := p_6_0.2.1; unfold QS at j; have : (ai H_6 (ρ a0 0) 0).toInt = (r_10 : Int32).toInt := congrArg Int32.toInt t_10; have : (5 : Int32).toInt = 5 := (by decide); omega)), (QS.same (Eq.trans (AU.o p_13 (by decide) (by decide)) (AU.o p_8 (by decide) (by decide))) (Eq.trans (AU.o p_13 (by decide) (by decide)) (AU.o p_8 (by decide) (by decide))) p_6_0.2.2.1), (PL.q (p_13.2 _ (th_ne (hW _ 12 2 ha0 (by decide) (by decide) (by decide)) (hW _ 12 0 ha0 (by decide) (by decide) (by decide)) (by decide))) (PL.q (p_8.2 _ (th_ne (hW _ 12 2 ha0 (by decide) (by decide) (by decide)) (hW _ 12 0 ha0 (by decide) (by decide) (by decide)) (by decide))) p_6_0.2.2.2.1)), (PL.q (p_13.2 _ (th_ne (hW _ 12 3 ha0 (by decide) (by decide) (by decide)) (hW _ 12 0 ha0 (by decide) (by decide) (by decide)) (by decide))) (PL.q (p_8.2 _ (th_ne (hW _ 12 3 ha0 (by decide) (by decide) (by decide)) (hW _ 12 0 ha0 (by decide) (by decide) (by decide)) (by decide))) p_6_0.2.2.2.2.1)), (IF.q (p_13.2 _ (th_ne ha0 (hW _ 12 0 ha0 (by decide) (by decide) (by decide)) (by decide))) (IF.q (p_8.2 _ (th_ne ha0 (hW _ 12 0 ha0 (by decide) (by decide) (by decide)) (by decide))) p_6_0.2.2.2.2.2))⟩, (by have : (ai H_13 (ρ a0 0) 2).toInt = (x_7 : Int32).toInt := congrArg Int32.toInt (Eq.trans (AU.o p_13 (by decide) (by decide)) (AU.s p_8 (by decide))); have : (ai H (ρ a0 0) 2).toInt = (r_1 : Int32).toInt := congrArg Int32.toInt p_1_0; omega), (by rw [(Eq.trans (AU.o p_13 (by decide) (by decide)) (AU.o p_8 (by decide) (by decide)))]; omega)⟩ dX12_sends_79
set_option maxHeartbeats 4000000 in
set_option maxRecDepth 100000 in
/-- the reference: goesOnce -/
theorem y_goesOnce (l : Launch) (D : va_G) (cI cS : ClassId) (τ : Nat → Option Nat) (ρ : Nat → Nat → Nat) (hW : WF τ ρ) (H : Heap) (hT : TH D cI cS τ ρ H) (a0 : Nat) (ha0 : τ a0 = some 12) (N : Int) (hN0 : 0 ≤ N) (hN1 : N ≤ 600) (hI : IM D ρ N H a0) : MI l D cI cS τ ρ yX12_goesOnce cX12_goesOnce 6 (some .boolean) 7 165 H [.ref a0, .int 0] (fun (r : Int32) (u : Heap) => (IM D ρ N u a0) ∧ (r = 0 ∨ r = 1) ∧ (((ai H (ρ a0 0) 2).toInt ≤ (ai u (ρ a0 0) 2).toInt) ∧ (r.toInt = 1 → (ai H (ρ a0 0) 2).toInt + 1 ≤ (ai u (ρ a0 0) 2).toInt)) ∧ ((ai H (ρ a0 0) 976).toInt ≤ (ai u (ρ a0 0) 976).toInt)) (fun q => q = ρ a0 2 ∨ q = ρ a0 0) := by
  refine MI.of (by decide) (Nat.le_of_ble_eq_true rfl) ?_
  intro p e s m args below meth c E hml hr hlk hs ls hl
  have hx := E.1
  have hb := E.2.1
  have hown := E.2.2.1
  have hts := E.2.2.2.1
  have hS : SS (fun q => q = ρ a0 2 ∨ q = ρ a0 0) H H [] := SS.rf
  have hl : lv_has ls 6 [(0, .ref a0), (1, .int 0)] := hl
  have n01 := hI.2.2.2.2.2.1
  have n23 := hI.2.2.2.2.2.2.1
  refine lv_aload_n hx hb dX12_goesOnce_0 rfl (lv_at hl 0 rfl) ?_
  refine lv_iload_n hx hb dX12_goesOnce_1 rfl (lv_at hl 1 rfl) ?_
  refine lv_iconst (v := 2) hx hb dX12_goesOnce_2 (by decide) ?_
  refine th_Vi (As := [.int 0, .int 2]) (rest := []) E hml hl.1 (y_get_v16 l D cI cS τ ρ hW H hT a0 ha0) lk_X12_99 yd_X12_get hT ha0 rfl (by decide) hS (fun _ h => h.elim) ⟨by decide, by decide⟩ (Nat.le_of_ble_eq_true rfl) ⟨by decide, by decide⟩ rfl dX12_goesOnce_3 (fun r_1 H_1 locs_1 p_1 hT_1 hk_1 hS_1 => ?_)
  have p_1 : H = H_1 ∧ (ai H (ρ a0 0) 2 = r_1) := p_1
  obtain ⟨rfl, p_1_0⟩ := p_1
  have b_r_1 : 0 ≤ r_1.toInt ∧ r_1.toInt ≤ N + 2 := by rw [← p_1_0]; exact hI.1 2 (by decide)
  have c_r_1 := congrArg Int32.toInt p_1_0
  refine lv_istore_n (lv' := [(2, .int r_1), (0, .ref a0), (1, .int 0)]) hx hb dX12_goesOnce_6 rfl hl (by decide) rfl (fun ls hl => ?_)
  refine lv_aload_n hx hb dX12_goesOnce_7 rfl (lv_at hl 1 rfl) ?_
  refine lv_iload_n hx hb dX12_goesOnce_8 rfl (lv_at hl 2 rfl) ?_
  refine lv_iload_n hx hb dX12_goesOnce_9 rfl (lv_at hl 0 rfl) ?_
  refine th_Vi (As := [.int 0, .int r_1]) (rest := []) E hml hl.1 (y_saidFrom l D cI cS τ ρ hW H hT_1 a0 r_1 ha0 N hN0 hN1 ⟨hI.1, hI.2.1, hI.2.2.1, hI.2.2.2.1, hI.2.2.2.2.1, hI.2.2.2.2.2⟩ (by omega)) lk_X12_109 yd_X12_saidFrom hT_1 ha0 rfl (by decide) hS_1 (fun _ h => h.elim) ⟨by decide, by decide⟩ (Nat.le_of_ble_eq_true rfl) ⟨by decide, by decide⟩ rfl dX12_goesOnce_10 (fun r_2 H_2 locs_2 p_2 hT_2 hk_2 hS_2 => ?_)
  have p_2 : H = H_2 ∧ (0 ≤ r_2.toInt ∧ (r_2.toInt = 0 ∨ (1 ≤ r_1.toInt ∧ r_2.toInt = (ai H (ρ a0 0) 4).toInt + 1 - r_1.toInt) ∨ (r_1.toInt < 1 ∧ r_2.toInt = (ai H (ρ a0 0) 4).toInt)) ∧ (ai H (ρ a0 0) 4).toInt ≤ N) := p_2
  obtain ⟨rfl, p_2_0⟩ := p_2
  refine lv_istore_n (lv' := [(3, .int r_2), (2, .int r_1), (0, .ref a0), (1, .int 0)]) hx hb dX12_goesOnce_13 rfl hl (by decide) rfl (fun ls hl => ?_)
  refine lv_aload_n hx hb dX12_goesOnce_14 rfl (lv_at hl 2 rfl) ?_
  refine gf_X12_25 E hT_2 ha0 dX12_goesOnce_15 ?_
  refine lv_topi (fun x_3 ex_3 => ?_)
  have b_3 : 1 ≤ x_3.toInt ∧ x_3.toInt ≤ 8 := by rw [ex_3]; exact IF.f6 hI.2.2.2.2.2
  refine lv_iload_n hx hb dX12_goesOnce_18 rfl (lv_at hl 0 rfl) ?_
  refine lv_aload_n hx hb dX12_goesOnce_19 rfl (lv_at hl 2 rfl) ?_
  refine lv_iload_n hx hb dX12_goesOnce_20 rfl (lv_at hl 3 rfl) ?_
  refine lv_iconst (v := 3) hx hb dX12_goesOnce_21 (by decide) ?_
  refine th_Vi (As := [.int 0, .int 3]) (rest := [.int r_2, .int x_3]) E hml hl.1 (y_get_v15 l D cI cS τ ρ hW H hT_2 a0 ha0) lk_X12_99 yd_X12_get hT_2 ha0 rfl (by decide) hS_2 (fun _ h => h.elim) ⟨by decide, by decide⟩ (Nat.le_of_ble_eq_true rfl) ⟨by decide, by decide⟩ rfl dX12_goesOnce_22 (fun r_4 H_4 locs_4 p_4 hT_4 hk_4 hS_4 => ?_)
  have p_4 : H = H_4 ∧ (ai H (ρ a0 0) 3 = r_4) := p_4
  obtain ⟨rfl, p_4_0⟩ := p_4
  have b_r_4 : 0 ≤ r_4.toInt ∧ r_4.toInt ≤ (2147483647 : Int) := by rw [← p_4_0]; exact hI.1 3 (by decide)
  have c_r_4 := congrArg Int32.toInt p_4_0
  refine lv_iload_n hx hb dX12_goesOnce_25 rfl (lv_at hl 1 rfl) ?_
  refine lv_isub hx hb dX12_goesOnce_26 ?_
  refine lv_topi (fun x_5 ex_5 => ?_)
  have q_5 : x_5.toInt = r_4.toInt - r_1.toInt := i_mi rfl rfl ex_5 (by omega) (by omega)
  refine th_Si (As := [.int r_2, .int x_5]) (rest := [.int x_3]) E hml hl.1 (y_lesser_v2 l D cI cS τ ρ hW H hT_4 r_2 x_5) lk_X12_146 yd_X12_lesser hS_4 (fun _ h => h.elim) ⟨by decide, by decide⟩ (Nat.le_of_ble_eq_true rfl) ⟨by decide, by decide⟩ rfl dX12_goesOnce_27 (fun r_6 H_6 locs_6 p_6 hT_6 hk_6 hS_6 => ?_)
  have p_6 : H = H_6 ∧ (r_6.toInt ≤ r_2.toInt ∧ r_6.toInt ≤ x_5.toInt ∧ (r_6.toInt = r_2.toInt ∨ r_6.toInt = x_5.toInt)) := p_6
  obtain ⟨rfl, p_6_0⟩ := p_6
  refine th_Si (As := [.int x_3, .int r_6]) (rest := []) E hml hl.1 (y_lesser_v2 l D cI cS τ ρ hW H hT_6 x_3 r_6) lk_X12_146 yd_X12_lesser hS_6 (fun _ h => h.elim) ⟨by decide, by decide⟩ (Nat.le_of_ble_eq_true rfl) ⟨by decide, by decide⟩ rfl dX12_goesOnce_30 (fun r_7 H_7 locs_7 p_7 hT_7 hk_7 hS_7 => ?_)
  have p_7 : H = H_7 ∧ (r_7.toInt ≤ x_3.toInt ∧ r_7.toInt ≤ r_6.toInt ∧ (r_7.toInt = x_3.toInt ∨ r_7.toInt = r_6.toInt)) := p_7
  obtain ⟨rfl, p_7_0⟩ := p_7
  refine lv_istore (lv' := [(4, .int r_7), (3, .int r_2), (2, .int r_1), (0, .ref a0), (1, .int 0)]) hx hb dX12_goesOnce_33 hl (by decide) rfl (fun ls hl => ?_)
  refine lv_aload_n hx hb dX12_goesOnce_35 rfl (lv_at hl 3 rfl) ?_
  refine lv_iload_n hx hb dX12_goesOnce_36 rfl (lv_at hl 4 rfl) ?_
  refine lv_bipush (v := 13) hx hb dX12_goesOnce_37 (by decide) ?_
  refine th_Vi (As := [.int 0, .int 13]) (rest := []) E hml hl.1 (y_get_v26 l D cI cS τ ρ hW H hT_7 a0 ha0) lk_X12_99 yd_X12_get hT_7 ha0 rfl (by decide) hS_7 (fun _ h => h.elim) ⟨by decide, by decide⟩ (Nat.le_of_ble_eq_true rfl) ⟨by decide, by decide⟩ rfl dX12_goesOnce_39 (fun r_8 H_8 locs_8 p_8 hT_8 hk_8 hS_8 => ?_)
  have p_8 : H = H_8 ∧ (ai H (ρ a0 0) 13 = r_8) := p_8
  obtain ⟨rfl, p_8_0⟩ := p_8
  have c_r_8 := congrArg Int32.toInt p_8_0
  refine lv_iconst (v := 1) hx hb dX12_goesOnce_42 (by decide) ?_
  refine lv_icmp_ne (tgt := 50) hx hb dX12_goesOnce_43 (by decide) (fun c_9 => ?_) (fun c_9 => ?_)
  · have f_9 : ¬ r_8.toInt = 1 := r_ne rfl (by decide) c_9
    refine lv_iconst (v := 0) hx hb dX12_goesOnce_50 (by decide) ?_
    refine lv_istore (lv' := [(5, .int 0), (4, .int r_7), (3, .int r_2), (2, .int r_1), (0, .ref a0), (1, .int 0)]) hx hb dX12_goesOnce_51 hl (by decide) rfl (fun ls hl => ?_)
    refine lv_aload_n hx hb dX12_goesOnce_53 rfl (lv_at hl 4 rfl) ?_
    refine lv_iload_n hx hb dX12_goesOnce_54 rfl (lv_at hl 5 rfl) ?_
    refine lv_iconst (v := 4) hx hb dX12_goesOnce_55 (by decide) ?_
    refine lv_bipush (v := 7) hx hb dX12_goesOnce_56 (by decide) ?_
    refine th_Vi (As := [.int 0, .int 4, .int 7]) (rest := []) E hml hl.1 (y_isIn l D cI cS τ ρ hW H hT_8 a0 ha0) lk_X12_106 yd_X12_isIn hT_8 ha0 rfl (by decide) hS_8 (fun _ h => h.elim) ⟨by decide, by decide⟩ (Nat.le_of_ble_eq_true rfl) ⟨by decide, by decide⟩ rfl dX12_goesOnce_58 (fun r_10 H_10 locs_10 p_10 hT_10 hk_10 hS_10 => ?_)
    have p_10 : H = H_10 ∧ (r_10 = 0 ∨ r_10 = 1) ∧ ((r_10.toInt = 1 ∧ ((ai H (ρ a0 0) 0).toInt = 4 ∨ (ai H (ρ a0 0) 0).toInt = 7)) ∨ (r_10.toInt = 0 ∧ ¬ (ai H (ρ a0 0) 0).toInt = 4 ∧ ¬ (ai H (ρ a0 0) 0).toInt = 7)) := p_10
    obtain ⟨rfl, p_10_0, p_10_1⟩ := p_10
    have z_10 := b_iv p_10_0
    refine lv_if_ne (tgt := 66) hx hb dX12_goesOnce_61 (by decide) (fun c_11 => ?_) (fun c_11 => ?_)
    · have f_11 : ¬ r_10.toInt = 0 := r_ne rfl (by decide) c_11
      have nz_r_10 : ¬ r_10 = 0 := c_11
      refine lv_iload hx hb dX12_goesOnce_66 (lv_at hl 1 rfl) ?_
      refine lv_aload_n hx hb dX12_goesOnce_68 rfl (lv_at hl 4 rfl) ?_
      refine gf_X12_25 E hT_10 ha0 dX12_goesOnce_69 ?_
      refine th_topi (y := x_3) ex_3.symm ?_
      refine lv_icmp_eq (tgt := 102) hx hb dX12_goesOnce_72 (by decide) (fun c_12 => ?_) (fun c_12 => ?_)
      · have f_12 : r_7.toInt = x_3.toInt := r_eq rfl rfl c_12
        refine lv_aload_n hx hb dX12_goesOnce_102 rfl (lv_at hl 4 rfl) ?_
        refine lv_iload_n hx hb dX12_goesOnce_103 rfl (lv_at hl 5 rfl) ?_
        refine lv_iload hx hb dX12_goesOnce_104 (lv_at hl 1 rfl) ?_
        refine lv_iload hx hb dX12_goesOnce_106 (lv_at hl 0 rfl) ?_
        refine lv_if_eq (tgt := 134) hx hb dX12_goesOnce_108 (by decide) (fun c_13 => ?_) (fun c_13 => absurd (by decide) c_13)
        refine lv_iconst (v := 0) hx hb dX12_goesOnce_134 (by decide) ?_
        refine th_Vv (As := [.int 0, .int r_7, .int 0]) (rest := []) E hml hl.1 (y_sends l D cI cS τ ρ hW H hT_10 a0 r_7 ha0 N hN0 hN1 ⟨hI.1, hI.2.1, hI.2.2.1, hI.2.2.2.1, hI.2.2.2.2.1, hI.2.2.2.2.2⟩ (by omega) (by have : (ai H (ρ a0 0) 2).toInt = (r_1 : Int32).toInt := congrArg Int32.toInt p_1_0; have j_2 := hI.2.1; unfold QS at j_2; omega)) lk_X12_149 yd_X12_sends hT_10 ha0 rfl (by decide) hS_10 (fun q => (fun h => h.elim (fun h => (Or.inl h)) (fun h => (Or.inr h)))) ⟨by decide, by decide⟩ (Nat.le_of_ble_eq_true rfl) ⟨by decide, by decide⟩ rfl dX12_goesOnce_135 (fun H_14 locs_14 p_14 hT_14 hk_14 hS_14 => ?_)
        have p_14 : (IM D ρ N H_14 a0) ∧ ((ai H_14 (ρ a0 0) 2).toInt = (ai H (ρ a0 0) 2).toInt + r_7.toInt + 0) ∧ ((ai H (ρ a0 0) 976).toInt ≤ (ai H_14 (ρ a0 0) 976).toInt) := p_14
        obtain ⟨p_14_0, p_14_1, p_14_2⟩ := p_14
        have mn_14 : (ai H (ρ a0 0) 976).toInt ≤ (ai H_14 (ρ a0 0) 976).toInt := by exact p_14_2
        refine lv_iconst (v := 1) hx hb dX12_goesOnce_138 (by decide) ?_
        exact th_zret E hr hlk hs (Or.inr rfl) hT_14 hS_14 ⟨⟨p_14_0.1, p_14_0.2.1, p_14_0.2.2.1, p_14_0.2.2.2.1, p_14_0.2.2.2.2.1, p_14_0.2.2.2.2.2⟩, (Or.inr rfl), (by have : (1 : Int32).toInt = 1 := (by decide); have : (ai H (ρ a0 0) 2).toInt = (r_1 : Int32).toInt := congrArg Int32.toInt p_1_0; omega), (by omega)⟩ dX12_goesOnce_139
      · have f_12 : ¬ r_7.toInt = x_3.toInt := r_ne rfl rfl c_12
        refine lv_iload hx hb dX12_goesOnce_75 (lv_at hl 1 rfl) ?_
        refine lv_iconst (v := 1) hx hb dX12_goesOnce_77 (by decide) ?_
        refine lv_icmp_lt (tgt := 140) hx hb dX12_goesOnce_78 (by decide) (fun c_15 => ?_) (fun c_15 => ?_)
        · have f_15 : r_7.toInt < 1 := r_lt rfl (by decide) c_15
          refine lv_iload_n hx hb dX12_goesOnce_140 rfl (lv_at hl 2 rfl) ?_
          refine lv_if_ne (tgt := 168) hx hb dX12_goesOnce_141 (by decide) (fun c_16 => ?_) (fun c_16 => ?_)
          · have f_16 : ¬ r_2.toInt = 0 := r_ne rfl (by decide) c_16
            have nz_r_2 : ¬ r_2 = 0 := c_16
            refine lv_iconst (v := 0) hx hb dX12_goesOnce_168 (by decide) ?_
            exact th_zret E hr hlk hs (Or.inl rfl) hT_10 hS_10 ⟨⟨hI.1, hI.2.1, hI.2.2.1, hI.2.2.2.1, hI.2.2.2.2.1, hI.2.2.2.2.2⟩, (Or.inl rfl), (by have : (0 : Int32).toInt = 0 := (by decide); have : (ai H (ρ a0 0) 2).toInt = (r_1 : Int32).toInt := congrArg Int32.toInt p_1_0; omega), (by omega)⟩ dX12_goesOnce_169
          · have f_16 : r_2.toInt = 0 := r_eq rfl (by decide) c_16
            refine lv_iload hx hb dX12_goesOnce_144 (lv_at hl 0 rfl) ?_
            refine lv_if_eq (tgt := 168) hx hb dX12_goesOnce_146 (by decide) (fun c_17 => ?_) (fun c_17 => absurd (by decide) c_17)
            refine lv_iconst (v := 0) hx hb dX12_goesOnce_168 (by decide) ?_
            exact th_zret E hr hlk hs (Or.inl rfl) hT_10 hS_10 ⟨⟨hI.1, hI.2.1, hI.2.2.1, hI.2.2.2.1, hI.2.2.2.2.1, hI.2.2.2.2.2⟩, (Or.inl rfl), (by have : (0 : Int32).toInt = 0 := (by decide); have : (ai H (ρ a0 0) 2).toInt = (r_1 : Int32).toInt := congrArg Int32.toInt p_1_0; omega), (by omega)⟩ dX12_goesOnce_169
        · have f_15 : 1 ≤ r_7.toInt := r_nlt rfl (by decide) c_15
          refine lv_iload hx hb dX12_goesOnce_81 (lv_at hl 1 rfl) ?_
          refine lv_iload_n hx hb dX12_goesOnce_83 rfl (lv_at hl 2 rfl) ?_
          refine lv_icmp_ne (tgt := 140) hx hb dX12_goesOnce_84 (by decide) (fun c_18 => ?_) (fun c_18 => ?_)
          · have f_18 : ¬ r_7.toInt = r_2.toInt := r_ne rfl rfl c_18
            refine lv_iload_n hx hb dX12_goesOnce_140 rfl (lv_at hl 2 rfl) ?_
            refine lv_if_ne (tgt := 168) hx hb dX12_goesOnce_141 (by decide) (fun c_19 => ?_) (fun c_19 => ?_)
            · have f_19 : ¬ r_2.toInt = 0 := r_ne rfl (by decide) c_19
              have nz_r_2 : ¬ r_2 = 0 := c_19
              refine lv_iconst (v := 0) hx hb dX12_goesOnce_168 (by decide) ?_
              exact th_zret E hr hlk hs (Or.inl rfl) hT_10 hS_10 ⟨⟨hI.1, hI.2.1, hI.2.2.1, hI.2.2.2.1, hI.2.2.2.2.1, hI.2.2.2.2.2⟩, (Or.inl rfl), (by have : (0 : Int32).toInt = 0 := (by decide); have : (ai H (ρ a0 0) 2).toInt = (r_1 : Int32).toInt := congrArg Int32.toInt p_1_0; omega), (by omega)⟩ dX12_goesOnce_169
            · have f_19 : r_2.toInt = 0 := r_eq rfl (by decide) c_19
              refine lv_iload hx hb dX12_goesOnce_144 (lv_at hl 0 rfl) ?_
              refine lv_if_eq (tgt := 168) hx hb dX12_goesOnce_146 (by decide) (fun c_20 => ?_) (fun c_20 => absurd (by decide) c_20)
              refine lv_iconst (v := 0) hx hb dX12_goesOnce_168 (by decide) ?_
              exact th_zret E hr hlk hs (Or.inl rfl) hT_10 hS_10 ⟨⟨hI.1, hI.2.1, hI.2.2.1, hI.2.2.2.1, hI.2.2.2.2.1, hI.2.2.2.2.2⟩, (Or.inl rfl), (by have : (0 : Int32).toInt = 0 := (by decide); have : (ai H (ρ a0 0) 2).toInt = (r_1 : Int32).toInt := congrArg Int32.toInt p_1_0; omega), (by omega)⟩ dX12_goesOnce_169
          · have f_18 : r_7.toInt = r_2.toInt := r_eq rfl rfl c_18
            refine lv_aload_n hx hb dX12_goesOnce_87 rfl (lv_at hl 4 rfl) ?_
            refine lv_iload_n hx hb dX12_goesOnce_88 rfl (lv_at hl 5 rfl) ?_
            refine lv_iconst (v := 1) hx hb dX12_goesOnce_89 (by decide) ?_
            refine th_Vi (As := [.int 0, .int 1]) (rest := []) E hml hl.1 (y_get_v7 l D cI cS τ ρ hW H hT_10 a0 ha0) lk_X12_99 yd_X12_get hT_10 ha0 rfl (by decide) hS_10 (fun _ h => h.elim) ⟨by decide, by decide⟩ (Nat.le_of_ble_eq_true rfl) ⟨by decide, by decide⟩ rfl dX12_goesOnce_90 (fun r_21 H_21 locs_21 p_21 hT_21 hk_21 hS_21 => ?_)
            have p_21 : H = H_21 ∧ (ai H (ρ a0 0) 1 = r_21) := p_21
            obtain ⟨rfl, p_21_0⟩ := p_21
            have b_r_21 : 0 ≤ r_21.toInt ∧ r_21.toInt ≤ N + 2 := by rw [← p_21_0]; exact hI.1 1 (by decide)
            have c_r_21 := congrArg Int32.toInt p_21_0
            refine lv_iload_n hx hb dX12_goesOnce_93 rfl (lv_at hl 3 rfl) ?_
            refine lv_icmp_eq (tgt := 102) hx hb dX12_goesOnce_94 (by decide) (fun c_22 => ?_) (fun c_22 => ?_)
            · have f_22 : r_21.toInt = r_1.toInt := r_eq rfl rfl c_22
              refine lv_aload_n hx hb dX12_goesOnce_102 rfl (lv_at hl 4 rfl) ?_
              refine lv_iload_n hx hb dX12_goesOnce_103 rfl (lv_at hl 5 rfl) ?_
              refine lv_iload hx hb dX12_goesOnce_104 (lv_at hl 1 rfl) ?_
              refine lv_iload hx hb dX12_goesOnce_106 (lv_at hl 0 rfl) ?_
              refine lv_if_eq (tgt := 134) hx hb dX12_goesOnce_108 (by decide) (fun c_23 => ?_) (fun c_23 => absurd (by decide) c_23)
              refine lv_iconst (v := 0) hx hb dX12_goesOnce_134 (by decide) ?_
              refine th_Vv (As := [.int 0, .int r_7, .int 0]) (rest := []) E hml hl.1 (y_sends l D cI cS τ ρ hW H hT_21 a0 r_7 ha0 N hN0 hN1 ⟨hI.1, hI.2.1, hI.2.2.1, hI.2.2.2.1, hI.2.2.2.2.1, hI.2.2.2.2.2⟩ (by omega) (by have : (ai H (ρ a0 0) 2).toInt = (r_1 : Int32).toInt := congrArg Int32.toInt p_1_0; have j_2 := hI.2.1; unfold QS at j_2; omega)) lk_X12_149 yd_X12_sends hT_21 ha0 rfl (by decide) hS_21 (fun q => (fun h => h.elim (fun h => (Or.inl h)) (fun h => (Or.inr h)))) ⟨by decide, by decide⟩ (Nat.le_of_ble_eq_true rfl) ⟨by decide, by decide⟩ rfl dX12_goesOnce_135 (fun H_24 locs_24 p_24 hT_24 hk_24 hS_24 => ?_)
              have p_24 : (IM D ρ N H_24 a0) ∧ ((ai H_24 (ρ a0 0) 2).toInt = (ai H (ρ a0 0) 2).toInt + r_7.toInt + 0) ∧ ((ai H (ρ a0 0) 976).toInt ≤ (ai H_24 (ρ a0 0) 976).toInt) := p_24
              obtain ⟨p_24_0, p_24_1, p_24_2⟩ := p_24
              have mn_24 : (ai H (ρ a0 0) 976).toInt ≤ (ai H_24 (ρ a0 0) 976).toInt := by exact p_24_2
              refine lv_iconst (v := 1) hx hb dX12_goesOnce_138 (by decide) ?_
              exact th_zret E hr hlk hs (Or.inr rfl) hT_24 hS_24 ⟨⟨p_24_0.1, p_24_0.2.1, p_24_0.2.2.1, p_24_0.2.2.2.1, p_24_0.2.2.2.2.1, p_24_0.2.2.2.2.2⟩, (Or.inr rfl), (by have : (1 : Int32).toInt = 1 := (by decide); have : (ai H (ρ a0 0) 2).toInt = (r_1 : Int32).toInt := congrArg Int32.toInt p_1_0; omega), (by omega)⟩ dX12_goesOnce_139
            · have f_22 : ¬ r_21.toInt = r_1.toInt := r_ne rfl rfl c_22
              refine lv_iload hx hb dX12_goesOnce_97 (lv_at hl 0 rfl) ?_
              refine lv_if_eq (tgt := 140) hx hb dX12_goesOnce_99 (by decide) (fun c_25 => ?_) (fun c_25 => absurd (by decide) c_25)
              refine lv_iload_n hx hb dX12_goesOnce_140 rfl (lv_at hl 2 rfl) ?_
              refine lv_if_ne (tgt := 168) hx hb dX12_goesOnce_141 (by decide) (fun c_26 => ?_) (fun c_26 => ?_)
              · have f_26 : ¬ r_2.toInt = 0 := r_ne rfl (by decide) c_26
                have nz_r_2 : ¬ r_2 = 0 := c_26
                refine lv_iconst (v := 0) hx hb dX12_goesOnce_168 (by decide) ?_
                exact th_zret E hr hlk hs (Or.inl rfl) hT_21 hS_21 ⟨⟨hI.1, hI.2.1, hI.2.2.1, hI.2.2.2.1, hI.2.2.2.2.1, hI.2.2.2.2.2⟩, (Or.inl rfl), (by have : (0 : Int32).toInt = 0 := (by decide); have : (ai H (ρ a0 0) 2).toInt = (r_1 : Int32).toInt := congrArg Int32.toInt p_1_0; omega), (by omega)⟩ dX12_goesOnce_169
              · have f_26 : r_2.toInt = 0 := r_eq rfl (by decide) c_26
                refine lv_iload hx hb dX12_goesOnce_144 (lv_at hl 0 rfl) ?_
                refine lv_if_eq (tgt := 168) hx hb dX12_goesOnce_146 (by decide) (fun c_27 => ?_) (fun c_27 => absurd (by decide) c_27)
                refine lv_iconst (v := 0) hx hb dX12_goesOnce_168 (by decide) ?_
                exact th_zret E hr hlk hs (Or.inl rfl) hT_21 hS_21 ⟨⟨hI.1, hI.2.1, hI.2.2.1, hI.2.2.2.1, hI.2.2.2.2.1, hI.2.2.2.2.2⟩, (Or.inl rfl), (by have : (0 : Int32).toInt = 0 := (by decide); have : (ai H (ρ a0 0) 2).toInt = (r_1 : Int32).toInt := congrArg Int32.toInt p_1_0; omega), (by omega)⟩ dX12_goesOnce_169
    · have f_11 : r_10.toInt = 0 := r_eq rfl (by decide) c_11
      refine lv_iconst (v := 0) hx hb dX12_goesOnce_64 (by decide) ?_
      exact th_zret E hr hlk hs (Or.inl rfl) hT_10 hS_10 ⟨⟨hI.1, hI.2.1, hI.2.2.1, hI.2.2.2.1, hI.2.2.2.2.1, hI.2.2.2.2.2⟩, (Or.inl rfl), (by have : (0 : Int32).toInt = 0 := (by decide); have : (ai H (ρ a0 0) 2).toInt = (r_1 : Int32).toInt := congrArg Int32.toInt p_1_0; omega), (by omega)⟩ dX12_goesOnce_65
  · have f_9 : r_8.toInt = 1 := r_eq rfl (by decide) c_9
    refine lv_iconst (v := 1) hx hb dX12_goesOnce_46 (by decide) ?_
    refine lv_goto (tgt := 51) hx hb dX12_goesOnce_47 (by decide) ?_
    refine lv_istore (lv' := [(5, .int 1), (4, .int r_7), (3, .int r_2), (2, .int r_1), (0, .ref a0), (1, .int 0)]) hx hb dX12_goesOnce_51 hl (by decide) rfl (fun ls hl => ?_)
    refine lv_aload_n hx hb dX12_goesOnce_53 rfl (lv_at hl 4 rfl) ?_
    refine lv_iload_n hx hb dX12_goesOnce_54 rfl (lv_at hl 5 rfl) ?_
    refine lv_iconst (v := 4) hx hb dX12_goesOnce_55 (by decide) ?_
    refine lv_bipush (v := 7) hx hb dX12_goesOnce_56 (by decide) ?_
    refine th_Vi (As := [.int 0, .int 4, .int 7]) (rest := []) E hml hl.1 (y_isIn l D cI cS τ ρ hW H hT_8 a0 ha0) lk_X12_106 yd_X12_isIn hT_8 ha0 rfl (by decide) hS_8 (fun _ h => h.elim) ⟨by decide, by decide⟩ (Nat.le_of_ble_eq_true rfl) ⟨by decide, by decide⟩ rfl dX12_goesOnce_58 (fun r_28 H_28 locs_28 p_28 hT_28 hk_28 hS_28 => ?_)
    have p_28 : H = H_28 ∧ (r_28 = 0 ∨ r_28 = 1) ∧ ((r_28.toInt = 1 ∧ ((ai H (ρ a0 0) 0).toInt = 4 ∨ (ai H (ρ a0 0) 0).toInt = 7)) ∨ (r_28.toInt = 0 ∧ ¬ (ai H (ρ a0 0) 0).toInt = 4 ∧ ¬ (ai H (ρ a0 0) 0).toInt = 7)) := p_28
    obtain ⟨rfl, p_28_0, p_28_1⟩ := p_28
    have z_28 := b_iv p_28_0
    refine lv_if_ne (tgt := 66) hx hb dX12_goesOnce_61 (by decide) (fun c_29 => ?_) (fun c_29 => ?_)
    · have f_29 : ¬ r_28.toInt = 0 := r_ne rfl (by decide) c_29
      have nz_r_28 : ¬ r_28 = 0 := c_29
      refine lv_iload hx hb dX12_goesOnce_66 (lv_at hl 1 rfl) ?_
      refine lv_aload_n hx hb dX12_goesOnce_68 rfl (lv_at hl 4 rfl) ?_
      refine gf_X12_25 E hT_28 ha0 dX12_goesOnce_69 ?_
      refine th_topi (y := x_3) ex_3.symm ?_
      refine lv_icmp_eq (tgt := 102) hx hb dX12_goesOnce_72 (by decide) (fun c_30 => ?_) (fun c_30 => ?_)
      · have f_30 : r_7.toInt = x_3.toInt := r_eq rfl rfl c_30
        refine lv_aload_n hx hb dX12_goesOnce_102 rfl (lv_at hl 4 rfl) ?_
        refine lv_iload_n hx hb dX12_goesOnce_103 rfl (lv_at hl 5 rfl) ?_
        refine lv_iload hx hb dX12_goesOnce_104 (lv_at hl 1 rfl) ?_
        refine lv_iload hx hb dX12_goesOnce_106 (lv_at hl 0 rfl) ?_
        refine lv_if_eq (tgt := 134) hx hb dX12_goesOnce_108 (by decide) (fun c_31 => absurd c_31 (by decide)) (fun c_31 => ?_)
        refine lv_iload hx hb dX12_goesOnce_111 (lv_at hl 1 rfl) ?_
        refine lv_iload_n hx hb dX12_goesOnce_113 rfl (lv_at hl 2 rfl) ?_
        refine lv_icmp_ne (tgt := 134) hx hb dX12_goesOnce_114 (by decide) (fun c_32 => ?_) (fun c_32 => ?_)
        · have f_32 : ¬ r_7.toInt = r_2.toInt := r_ne rfl rfl c_32
          refine lv_iconst (v := 0) hx hb dX12_goesOnce_134 (by decide) ?_
          refine th_Vv (As := [.int 0, .int r_7, .int 0]) (rest := []) E hml hl.1 (y_sends l D cI cS τ ρ hW H hT_28 a0 r_7 ha0 N hN0 hN1 ⟨hI.1, hI.2.1, hI.2.2.1, hI.2.2.2.1, hI.2.2.2.2.1, hI.2.2.2.2.2⟩ (by omega) (by have : (ai H (ρ a0 0) 2).toInt = (r_1 : Int32).toInt := congrArg Int32.toInt p_1_0; have j_2 := hI.2.1; unfold QS at j_2; omega)) lk_X12_149 yd_X12_sends hT_28 ha0 rfl (by decide) hS_28 (fun q => (fun h => h.elim (fun h => (Or.inl h)) (fun h => (Or.inr h)))) ⟨by decide, by decide⟩ (Nat.le_of_ble_eq_true rfl) ⟨by decide, by decide⟩ rfl dX12_goesOnce_135 (fun H_33 locs_33 p_33 hT_33 hk_33 hS_33 => ?_)
          have p_33 : (IM D ρ N H_33 a0) ∧ ((ai H_33 (ρ a0 0) 2).toInt = (ai H (ρ a0 0) 2).toInt + r_7.toInt + 0) ∧ ((ai H (ρ a0 0) 976).toInt ≤ (ai H_33 (ρ a0 0) 976).toInt) := p_33
          obtain ⟨p_33_0, p_33_1, p_33_2⟩ := p_33
          have mn_33 : (ai H (ρ a0 0) 976).toInt ≤ (ai H_33 (ρ a0 0) 976).toInt := by exact p_33_2
          refine lv_iconst (v := 1) hx hb dX12_goesOnce_138 (by decide) ?_
          exact th_zret E hr hlk hs (Or.inr rfl) hT_33 hS_33 ⟨⟨p_33_0.1, p_33_0.2.1, p_33_0.2.2.1, p_33_0.2.2.2.1, p_33_0.2.2.2.2.1, p_33_0.2.2.2.2.2⟩, (Or.inr rfl), (by have : (1 : Int32).toInt = 1 := (by decide); have : (ai H (ρ a0 0) 2).toInt = (r_1 : Int32).toInt := congrArg Int32.toInt p_1_0; omega), (by omega)⟩ dX12_goesOnce_139
        · have f_32 : r_7.toInt = r_2.toInt := r_eq rfl rfl c_32
          refine lv_iload_n hx hb dX12_goesOnce_117 rfl (lv_at hl 3 rfl) ?_
          refine lv_iload hx hb dX12_goesOnce_118 (lv_at hl 1 rfl) ?_
          refine lv_iadd hx hb dX12_goesOnce_120 ?_
          refine lv_topi (fun x_34 ex_34 => ?_)
          have q_34 : x_34.toInt = r_1.toInt + r_7.toInt := i_pl rfl rfl ex_34 (by omega) (by omega)
          refine lv_aload_n hx hb dX12_goesOnce_121 rfl (lv_at hl 4 rfl) ?_
          refine lv_iload_n hx hb dX12_goesOnce_122 rfl (lv_at hl 5 rfl) ?_
          refine lv_iconst (v := 3) hx hb dX12_goesOnce_123 (by decide) ?_
          refine th_Vi (As := [.int 0, .int 3]) (rest := [.int x_34, .int r_7, .int 0, .ref a0]) E hml hl.1 (y_get_v15 l D cI cS τ ρ hW H hT_28 a0 ha0) lk_X12_99 yd_X12_get hT_28 ha0 rfl (by decide) hS_28 (fun _ h => h.elim) ⟨by decide, by decide⟩ (Nat.le_of_ble_eq_true rfl) ⟨by decide, by decide⟩ rfl dX12_goesOnce_124 (fun r_35 H_35 locs_35 p_35 hT_35 hk_35 hS_35 => ?_)
          have p_35 : H = H_35 ∧ (ai H (ρ a0 0) 3 = r_35) := p_35
          obtain ⟨rfl, p_35_0⟩ := p_35
          have s_35 : r_35 = r_4 := p_35_0.symm.trans p_4_0
          refine th_topi s_35 ?_
          refine lv_icmp_ge (tgt := 134) hx hb dX12_goesOnce_127 (by decide) (fun c_36 => ?_) (fun c_36 => ?_)
          · have f_36 : r_4.toInt ≤ x_34.toInt := r_le rfl rfl c_36
            refine lv_iconst (v := 0) hx hb dX12_goesOnce_134 (by decide) ?_
            refine th_Vv (As := [.int 0, .int r_7, .int 0]) (rest := []) E hml hl.1 (y_sends l D cI cS τ ρ hW H hT_35 a0 r_7 ha0 N hN0 hN1 ⟨hI.1, hI.2.1, hI.2.2.1, hI.2.2.2.1, hI.2.2.2.2.1, hI.2.2.2.2.2⟩ (by omega) (by have : (ai H (ρ a0 0) 2).toInt = (r_1 : Int32).toInt := congrArg Int32.toInt p_1_0; have j_2 := hI.2.1; unfold QS at j_2; omega)) lk_X12_149 yd_X12_sends hT_35 ha0 rfl (by decide) hS_35 (fun q => (fun h => h.elim (fun h => (Or.inl h)) (fun h => (Or.inr h)))) ⟨by decide, by decide⟩ (Nat.le_of_ble_eq_true rfl) ⟨by decide, by decide⟩ rfl dX12_goesOnce_135 (fun H_37 locs_37 p_37 hT_37 hk_37 hS_37 => ?_)
            have p_37 : (IM D ρ N H_37 a0) ∧ ((ai H_37 (ρ a0 0) 2).toInt = (ai H (ρ a0 0) 2).toInt + r_7.toInt + 0) ∧ ((ai H (ρ a0 0) 976).toInt ≤ (ai H_37 (ρ a0 0) 976).toInt) := p_37
            obtain ⟨p_37_0, p_37_1, p_37_2⟩ := p_37
            have mn_37 : (ai H (ρ a0 0) 976).toInt ≤ (ai H_37 (ρ a0 0) 976).toInt := by exact p_37_2
            refine lv_iconst (v := 1) hx hb dX12_goesOnce_138 (by decide) ?_
            exact th_zret E hr hlk hs (Or.inr rfl) hT_37 hS_37 ⟨⟨p_37_0.1, p_37_0.2.1, p_37_0.2.2.1, p_37_0.2.2.2.1, p_37_0.2.2.2.2.1, p_37_0.2.2.2.2.2⟩, (Or.inr rfl), (by have : (1 : Int32).toInt = 1 := (by decide); have : (ai H (ρ a0 0) 2).toInt = (r_1 : Int32).toInt := congrArg Int32.toInt p_1_0; omega), (by omega)⟩ dX12_goesOnce_139
          · have f_36 : x_34.toInt < r_4.toInt := r_nle rfl rfl c_36
            refine lv_iconst (v := 1) hx hb dX12_goesOnce_130 (by decide) ?_
            refine lv_goto (tgt := 135) hx hb dX12_goesOnce_131 (by decide) ?_
            refine th_Vv (As := [.int 0, .int r_7, .int 1]) (rest := []) E hml hl.1 (y_sends_v2 l D cI cS τ ρ hW H hT_35 a0 r_7 ha0 N hN0 hN1 ⟨hI.1, hI.2.1, hI.2.2.1, hI.2.2.2.1, hI.2.2.2.2.1, hI.2.2.2.2.2⟩ (by omega) (by have : (ai H (ρ a0 0) 2).toInt = (r_1 : Int32).toInt := congrArg Int32.toInt p_1_0; have j_2 := hI.2.1; unfold QS at j_2; omega)) lk_X12_149 yd_X12_sends hT_35 ha0 rfl (by decide) hS_35 (fun q => (fun h => h.elim (fun h => (Or.inl h)) (fun h => (Or.inr h)))) ⟨by decide, by decide⟩ (Nat.le_of_ble_eq_true rfl) ⟨by decide, by decide⟩ rfl dX12_goesOnce_135 (fun H_38 locs_38 p_38 hT_38 hk_38 hS_38 => ?_)
            have p_38 : (IM D ρ N H_38 a0) ∧ ((ai H_38 (ρ a0 0) 2).toInt = (ai H (ρ a0 0) 2).toInt + r_7.toInt + 1) ∧ ((ai H (ρ a0 0) 976).toInt ≤ (ai H_38 (ρ a0 0) 976).toInt) := p_38
            obtain ⟨p_38_0, p_38_1, p_38_2⟩ := p_38
            have mn_38 : (ai H (ρ a0 0) 976).toInt ≤ (ai H_38 (ρ a0 0) 976).toInt := by exact p_38_2
            refine lv_iconst (v := 1) hx hb dX12_goesOnce_138 (by decide) ?_
            exact th_zret E hr hlk hs (Or.inr rfl) hT_38 hS_38 ⟨⟨p_38_0.1, p_38_0.2.1, p_38_0.2.2.1, p_38_0.2.2.2.1, p_38_0.2.2.2.2.1, p_38_0.2.2.2.2.2⟩, (Or.inr rfl), (by have : (1 : Int32).toInt = 1 := (by decide); have : (ai H (ρ a0 0) 2).toInt = (r_1 : Int32).toInt := congrArg Int32.toInt p_1_0; omega), (by omega)⟩ dX12_goesOnce_139
      · have f_30 : ¬ r_7.toInt = x_3.toInt := r_ne rfl rfl c_30
        refine lv_iload hx hb dX12_goesOnce_75 (lv_at hl 1 rfl) ?_
        refine lv_iconst (v := 1) hx hb dX12_goesOnce_77 (by decide) ?_
        refine lv_icmp_lt (tgt := 140) hx hb dX12_goesOnce_78 (by decide) (fun c_39 => ?_) (fun c_39 => ?_)
        · have f_39 : r_7.toInt < 1 := r_lt rfl (by decide) c_39
          refine lv_iload_n hx hb dX12_goesOnce_140 rfl (lv_at hl 2 rfl) ?_
          refine lv_if_ne (tgt := 168) hx hb dX12_goesOnce_141 (by decide) (fun c_40 => ?_) (fun c_40 => ?_)
          · have f_40 : ¬ r_2.toInt = 0 := r_ne rfl (by decide) c_40
            have nz_r_2 : ¬ r_2 = 0 := c_40
            refine lv_iconst (v := 0) hx hb dX12_goesOnce_168 (by decide) ?_
            exact th_zret E hr hlk hs (Or.inl rfl) hT_28 hS_28 ⟨⟨hI.1, hI.2.1, hI.2.2.1, hI.2.2.2.1, hI.2.2.2.2.1, hI.2.2.2.2.2⟩, (Or.inl rfl), (by have : (0 : Int32).toInt = 0 := (by decide); have : (ai H (ρ a0 0) 2).toInt = (r_1 : Int32).toInt := congrArg Int32.toInt p_1_0; omega), (by omega)⟩ dX12_goesOnce_169
          · have f_40 : r_2.toInt = 0 := r_eq rfl (by decide) c_40
            refine lv_iload hx hb dX12_goesOnce_144 (lv_at hl 0 rfl) ?_
            refine lv_if_eq (tgt := 168) hx hb dX12_goesOnce_146 (by decide) (fun c_41 => absurd c_41 (by decide)) (fun c_41 => ?_)
            refine lv_iload_n hx hb dX12_goesOnce_149 rfl (lv_at hl 3 rfl) ?_
            refine lv_aload_n hx hb dX12_goesOnce_150 rfl (lv_at hl 4 rfl) ?_
            refine lv_iload_n hx hb dX12_goesOnce_151 rfl (lv_at hl 5 rfl) ?_
            refine lv_iconst (v := 3) hx hb dX12_goesOnce_152 (by decide) ?_
            refine th_Vi (As := [.int 0, .int 3]) (rest := [.int r_1]) E hml hl.1 (y_get_v15 l D cI cS τ ρ hW H hT_28 a0 ha0) lk_X12_99 yd_X12_get hT_28 ha0 rfl (by decide) hS_28 (fun _ h => h.elim) ⟨by decide, by decide⟩ (Nat.le_of_ble_eq_true rfl) ⟨by decide, by decide⟩ rfl dX12_goesOnce_153 (fun r_42 H_42 locs_42 p_42 hT_42 hk_42 hS_42 => ?_)
            have p_42 : H = H_42 ∧ (ai H (ρ a0 0) 3 = r_42) := p_42
            obtain ⟨rfl, p_42_0⟩ := p_42
            have s_42 : r_42 = r_4 := p_42_0.symm.trans p_4_0
            refine th_topi s_42 ?_
            refine lv_icmp_ge (tgt := 168) hx hb dX12_goesOnce_156 (by decide) (fun c_43 => ?_) (fun c_43 => ?_)
            · have f_43 : r_4.toInt ≤ r_1.toInt := r_le rfl rfl c_43
              refine lv_iconst (v := 0) hx hb dX12_goesOnce_168 (by decide) ?_
              exact th_zret E hr hlk hs (Or.inl rfl) hT_42 hS_42 ⟨⟨hI.1, hI.2.1, hI.2.2.1, hI.2.2.2.1, hI.2.2.2.2.1, hI.2.2.2.2.2⟩, (Or.inl rfl), (by have : (0 : Int32).toInt = 0 := (by decide); have : (ai H (ρ a0 0) 2).toInt = (r_1 : Int32).toInt := congrArg Int32.toInt p_1_0; omega), (by omega)⟩ dX12_goesOnce_169
            · have f_43 : r_1.toInt < r_4.toInt := r_nle rfl rfl c_43
              refine lv_aload_n hx hb dX12_goesOnce_159 rfl (lv_at hl 4 rfl) ?_
              refine lv_iload_n hx hb dX12_goesOnce_160 rfl (lv_at hl 5 rfl) ?_
              refine lv_iconst (v := 0) hx hb dX12_goesOnce_161 (by decide) ?_
              refine lv_iconst (v := 1) hx hb dX12_goesOnce_162 (by decide) ?_
              refine th_Vv (As := [.int 0, .int 0, .int 1]) (rest := []) E hml hl.1 (y_sends_v3 l D cI cS τ ρ hW H hT_42 a0 ha0 N hN0 hN1 ⟨hI.1, hI.2.1, hI.2.2.1, hI.2.2.2.1, hI.2.2.2.2.1, hI.2.2.2.2.2⟩ (by omega) (by have : (ai H (ρ a0 0) 2).toInt = (r_1 : Int32).toInt := congrArg Int32.toInt p_1_0; have j_2 := hI.2.1; unfold QS at j_2; omega)) lk_X12_149 yd_X12_sends hT_42 ha0 rfl (by decide) hS_42 (fun q => (fun h => h.elim (fun h => (Or.inl h)) (fun h => (Or.inr h)))) ⟨by decide, by decide⟩ (Nat.le_of_ble_eq_true rfl) ⟨by decide, by decide⟩ rfl dX12_goesOnce_163 (fun H_44 locs_44 p_44 hT_44 hk_44 hS_44 => ?_)
              have p_44 : (IM D ρ N H_44 a0) ∧ ((ai H_44 (ρ a0 0) 2).toInt = (ai H (ρ a0 0) 2).toInt + 0 + 1) ∧ ((ai H (ρ a0 0) 976).toInt ≤ (ai H_44 (ρ a0 0) 976).toInt) := p_44
              obtain ⟨p_44_0, p_44_1, p_44_2⟩ := p_44
              have mn_44 : (ai H (ρ a0 0) 976).toInt ≤ (ai H_44 (ρ a0 0) 976).toInt := by exact p_44_2
              refine lv_iconst (v := 1) hx hb dX12_goesOnce_166 (by decide) ?_
              exact th_zret E hr hlk hs (Or.inr rfl) hT_44 hS_44 ⟨⟨p_44_0.1, p_44_0.2.1, p_44_0.2.2.1, p_44_0.2.2.2.1, p_44_0.2.2.2.2.1, p_44_0.2.2.2.2.2⟩, (Or.inr rfl), (by have : (1 : Int32).toInt = 1 := (by decide); have : (ai H (ρ a0 0) 2).toInt = (r_1 : Int32).toInt := congrArg Int32.toInt p_1_0; omega), (by omega)⟩ dX12_goesOnce_167
        · have f_39 : 1 ≤ r_7.toInt := r_nlt rfl (by decide) c_39
          refine lv_iload hx hb dX12_goesOnce_81 (lv_at hl 1 rfl) ?_
          refine lv_iload_n hx hb dX12_goesOnce_83 rfl (lv_at hl 2 rfl) ?_
          refine lv_icmp_ne (tgt := 140) hx hb dX12_goesOnce_84 (by decide) (fun c_45 => ?_) (fun c_45 => ?_)
          · have f_45 : ¬ r_7.toInt = r_2.toInt := r_ne rfl rfl c_45
            refine lv_iload_n hx hb dX12_goesOnce_140 rfl (lv_at hl 2 rfl) ?_
            refine lv_if_ne (tgt := 168) hx hb dX12_goesOnce_141 (by decide) (fun c_46 => ?_) (fun c_46 => ?_)
            · have f_46 : ¬ r_2.toInt = 0 := r_ne rfl (by decide) c_46
              have nz_r_2 : ¬ r_2 = 0 := c_46
              refine lv_iconst (v := 0) hx hb dX12_goesOnce_168 (by decide) ?_
              exact th_zret E hr hlk hs (Or.inl rfl) hT_28 hS_28 ⟨⟨hI.1, hI.2.1, hI.2.2.1, hI.2.2.2.1, hI.2.2.2.2.1, hI.2.2.2.2.2⟩, (Or.inl rfl), (by have : (0 : Int32).toInt = 0 := (by decide); have : (ai H (ρ a0 0) 2).toInt = (r_1 : Int32).toInt := congrArg Int32.toInt p_1_0; omega), (by omega)⟩ dX12_goesOnce_169
            · have f_46 : r_2.toInt = 0 := r_eq rfl (by decide) c_46
              refine lv_iload hx hb dX12_goesOnce_144 (lv_at hl 0 rfl) ?_
              refine lv_if_eq (tgt := 168) hx hb dX12_goesOnce_146 (by decide) (fun c_47 => absurd c_47 (by decide)) (fun c_47 => ?_)
              refine lv_iload_n hx hb dX12_goesOnce_149 rfl (lv_at hl 3 rfl) ?_
              refine lv_aload_n hx hb dX12_goesOnce_150 rfl (lv_at hl 4 rfl) ?_
              refine lv_iload_n hx hb dX12_goesOnce_151 rfl (lv_at hl 5 rfl) ?_
              refine lv_iconst (v := 3) hx hb dX12_goesOnce_152 (by decide) ?_
              refine th_Vi (As := [.int 0, .int 3]) (rest := [.int r_1]) E hml hl.1 (y_get_v15 l D cI cS τ ρ hW H hT_28 a0 ha0) lk_X12_99 yd_X12_get hT_28 ha0 rfl (by decide) hS_28 (fun _ h => h.elim) ⟨by decide, by decide⟩ (Nat.le_of_ble_eq_true rfl) ⟨by decide, by decide⟩ rfl dX12_goesOnce_153 (fun r_48 H_48 locs_48 p_48 hT_48 hk_48 hS_48 => ?_)
              have p_48 : H = H_48 ∧ (ai H (ρ a0 0) 3 = r_48) := p_48
              obtain ⟨rfl, p_48_0⟩ := p_48
              have s_48 : r_48 = r_4 := p_48_0.symm.trans p_4_0
              refine th_topi s_48 ?_
              refine lv_icmp_ge (tgt := 168) hx hb dX12_goesOnce_156 (by decide) (fun c_49 => ?_) (fun c_49 => ?_)
              · have f_49 : r_4.toInt ≤ r_1.toInt := r_le rfl rfl c_49
                refine lv_iconst (v := 0) hx hb dX12_goesOnce_168 (by decide) ?_
                exact th_zret E hr hlk hs (Or.inl rfl) hT_48 hS_48 ⟨⟨hI.1, hI.2.1, hI.2.2.1, hI.2.2.2.1, hI.2.2.2.2.1, hI.2.2.2.2.2⟩, (Or.inl rfl), (by have : (0 : Int32).toInt = 0 := (by decide); have : (ai H (ρ a0 0) 2).toInt = (r_1 : Int32).toInt := congrArg Int32.toInt p_1_0; omega), (by omega)⟩ dX12_goesOnce_169
              · have f_49 : r_1.toInt < r_4.toInt := r_nle rfl rfl c_49
                refine lv_aload_n hx hb dX12_goesOnce_159 rfl (lv_at hl 4 rfl) ?_
                refine lv_iload_n hx hb dX12_goesOnce_160 rfl (lv_at hl 5 rfl) ?_
                refine lv_iconst (v := 0) hx hb dX12_goesOnce_161 (by decide) ?_
                refine lv_iconst (v := 1) hx hb dX12_goesOnce_162 (by decide) ?_
                refine th_Vv (As := [.int 0, .int 0, .int 1]) (rest := []) E hml hl.1 (y_sends_v3 l D cI cS τ ρ hW H hT_48 a0 ha0 N hN0 hN1 ⟨hI.1, hI.2.1, hI.2.2.1, hI.2.2.2.1, hI.2.2.2.2.1, hI.2.2.2.2.2⟩ (by omega) (by have : (ai H (ρ a0 0) 2).toInt = (r_1 : Int32).toInt := congrArg Int32.toInt p_1_0; have j_2 := hI.2.1; unfold QS at j_2; omega)) lk_X12_149 yd_X12_sends hT_48 ha0 rfl (by decide) hS_48 (fun q => (fun h => h.elim (fun h => (Or.inl h)) (fun h => (Or.inr h)))) ⟨by decide, by decide⟩ (Nat.le_of_ble_eq_true rfl) ⟨by decide, by decide⟩ rfl dX12_goesOnce_163 (fun H_50 locs_50 p_50 hT_50 hk_50 hS_50 => ?_)
                have p_50 : (IM D ρ N H_50 a0) ∧ ((ai H_50 (ρ a0 0) 2).toInt = (ai H (ρ a0 0) 2).toInt + 0 + 1) ∧ ((ai H (ρ a0 0) 976).toInt ≤ (ai H_50 (ρ a0 0) 976).toInt) := p_50
                obtain ⟨p_50_0, p_50_1, p_50_2⟩ := p_50
                have mn_50 : (ai H (ρ a0 0) 976).toInt ≤ (ai H_50 (ρ a0 0) 976).toInt := by exact p_50_2
                refine lv_iconst (v := 1) hx hb dX12_goesOnce_166 (by decide) ?_
                exact th_zret E hr hlk hs (Or.inr rfl) hT_50 hS_50 ⟨⟨p_50_0.1, p_50_0.2.1, p_50_0.2.2.1, p_50_0.2.2.2.1, p_50_0.2.2.2.2.1, p_50_0.2.2.2.2.2⟩, (Or.inr rfl), (by have : (1 : Int32).toInt = 1 := (by decide); have : (ai H (ρ a0 0) 2).toInt = (r_1 : Int32).toInt := congrArg Int32.toInt p_1_0; omega), (by omega)⟩ dX12_goesOnce_167
          · have f_45 : r_7.toInt = r_2.toInt := r_eq rfl rfl c_45
            refine lv_aload_n hx hb dX12_goesOnce_87 rfl (lv_at hl 4 rfl) ?_
            refine lv_iload_n hx hb dX12_goesOnce_88 rfl (lv_at hl 5 rfl) ?_
            refine lv_iconst (v := 1) hx hb dX12_goesOnce_89 (by decide) ?_
            refine th_Vi (As := [.int 0, .int 1]) (rest := []) E hml hl.1 (y_get_v7 l D cI cS τ ρ hW H hT_28 a0 ha0) lk_X12_99 yd_X12_get hT_28 ha0 rfl (by decide) hS_28 (fun _ h => h.elim) ⟨by decide, by decide⟩ (Nat.le_of_ble_eq_true rfl) ⟨by decide, by decide⟩ rfl dX12_goesOnce_90 (fun r_51 H_51 locs_51 p_51 hT_51 hk_51 hS_51 => ?_)
            have p_51 : H = H_51 ∧ (ai H (ρ a0 0) 1 = r_51) := p_51
            obtain ⟨rfl, p_51_0⟩ := p_51
            have b_r_51 : 0 ≤ r_51.toInt ∧ r_51.toInt ≤ N + 2 := by rw [← p_51_0]; exact hI.1 1 (by decide)
            have c_r_51 := congrArg Int32.toInt p_51_0
            refine lv_iload_n hx hb dX12_goesOnce_93 rfl (lv_at hl 3 rfl) ?_
            refine lv_icmp_eq (tgt := 102) hx hb dX12_goesOnce_94 (by decide) (fun c_52 => ?_) (fun c_52 => ?_)
            · have f_52 : r_51.toInt = r_1.toInt := r_eq rfl rfl c_52
              refine lv_aload_n hx hb dX12_goesOnce_102 rfl (lv_at hl 4 rfl) ?_
              refine lv_iload_n hx hb dX12_goesOnce_103 rfl (lv_at hl 5 rfl) ?_
              refine lv_iload hx hb dX12_goesOnce_104 (lv_at hl 1 rfl) ?_
              refine lv_iload hx hb dX12_goesOnce_106 (lv_at hl 0 rfl) ?_
              refine lv_if_eq (tgt := 134) hx hb dX12_goesOnce_108 (by decide) (fun c_53 => absurd c_53 (by decide)) (fun c_53 => ?_)
              refine lv_iload hx hb dX12_goesOnce_111 (lv_at hl 1 rfl) ?_
              refine lv_iload_n hx hb dX12_goesOnce_113 rfl (lv_at hl 2 rfl) ?_
              refine lv_icmp_ne (tgt := 134) hx hb dX12_goesOnce_114 (by decide) (fun c_54 => ?_) (fun c_54 => ?_)
              · have f_54 : ¬ r_7.toInt = r_2.toInt := r_ne rfl rfl c_54
                refine lv_iconst (v := 0) hx hb dX12_goesOnce_134 (by decide) ?_
                refine th_Vv (As := [.int 0, .int r_7, .int 0]) (rest := []) E hml hl.1 (y_sends l D cI cS τ ρ hW H hT_51 a0 r_7 ha0 N hN0 hN1 ⟨hI.1, hI.2.1, hI.2.2.1, hI.2.2.2.1, hI.2.2.2.2.1, hI.2.2.2.2.2⟩ (by omega) (by have : (ai H (ρ a0 0) 2).toInt = (r_1 : Int32).toInt := congrArg Int32.toInt p_1_0; have j_2 := hI.2.1; unfold QS at j_2; omega)) lk_X12_149 yd_X12_sends hT_51 ha0 rfl (by decide) hS_51 (fun q => (fun h => h.elim (fun h => (Or.inl h)) (fun h => (Or.inr h)))) ⟨by decide, by decide⟩ (Nat.le_of_ble_eq_true rfl) ⟨by decide, by decide⟩ rfl dX12_goesOnce_135 (fun H_55 locs_55 p_55 hT_55 hk_55 hS_55 => ?_)
                have p_55 : (IM D ρ N H_55 a0) ∧ ((ai H_55 (ρ a0 0) 2).toInt = (ai H (ρ a0 0) 2).toInt + r_7.toInt + 0) ∧ ((ai H (ρ a0 0) 976).toInt ≤ (ai H_55 (ρ a0 0) 976).toInt) := p_55
                obtain ⟨p_55_0, p_55_1, p_55_2⟩ := p_55
                have mn_55 : (ai H (ρ a0 0) 976).toInt ≤ (ai H_55 (ρ a0 0) 976).toInt := by exact p_55_2
                refine lv_iconst (v := 1) hx hb dX12_goesOnce_138 (by decide) ?_
                exact th_zret E hr hlk hs (Or.inr rfl) hT_55 hS_55 ⟨⟨p_55_0.1, p_55_0.2.1, p_55_0.2.2.1, p_55_0.2.2.2.1, p_55_0.2.2.2.2.1, p_55_0.2.2.2.2.2⟩, (Or.inr rfl), (by have : (1 : Int32).toInt = 1 := (by decide); have : (ai H (ρ a0 0) 2).toInt = (r_1 : Int32).toInt := congrArg Int32.toInt p_1_0; omega), (by omega)⟩ dX12_goesOnce_139
              · have f_54 : r_7.toInt = r_2.toInt := r_eq rfl rfl c_54
                refine lv_iload_n hx hb dX12_goesOnce_117 rfl (lv_at hl 3 rfl) ?_
                refine lv_iload hx hb dX12_goesOnce_118 (lv_at hl 1 rfl) ?_
                refine lv_iadd hx hb dX12_goesOnce_120 ?_
                refine lv_topi (fun x_56 ex_56 => ?_)
                have q_56 : x_56.toInt = r_1.toInt + r_7.toInt := i_pl rfl rfl ex_56 (by omega) (by omega)
                refine lv_aload_n hx hb dX12_goesOnce_121 rfl (lv_at hl 4 rfl) ?_
                refine lv_iload_n hx hb dX12_goesOnce_122 rfl (lv_at hl 5 rfl) ?_
                refine lv_iconst (v := 3) hx hb dX12_goesOnce_123 (by decide) ?_
                refine th_Vi (As := [.int 0, .int 3]) (rest := [.int x_56, .int r_7, .int 0, .ref a0]) E hml hl.1 (y_get_v15 l D cI cS τ ρ hW H hT_51 a0 ha0) lk_X12_99 yd_X12_get hT_51 ha0 rfl (by decide) hS_51 (fun _ h => h.elim) ⟨by decide, by decide⟩ (Nat.le_of_ble_eq_true rfl) ⟨by decide, by decide⟩ rfl dX12_goesOnce_124 (fun r_57 H_57 locs_57 p_57 hT_57 hk_57 hS_57 => ?_)
                have p_57 : H = H_57 ∧ (ai H (ρ a0 0) 3 = r_57) := p_57
                obtain ⟨rfl, p_57_0⟩ := p_57
                have s_57 : r_57 = r_4 := p_57_0.symm.trans p_4_0
                refine th_topi s_57 ?_
                refine lv_icmp_ge (tgt := 134) hx hb dX12_goesOnce_127 (by decide) (fun c_58 => ?_) (fun c_58 => ?_)
                · have f_58 : r_4.toInt ≤ x_56.toInt := r_le rfl rfl c_58
                  refine lv_iconst (v := 0) hx hb dX12_goesOnce_134 (by decide) ?_
                  refine th_Vv (As := [.int 0, .int r_7, .int 0]) (rest := []) E hml hl.1 (y_sends l D cI cS τ ρ hW H hT_57 a0 r_7 ha0 N hN0 hN1 ⟨hI.1, hI.2.1, hI.2.2.1, hI.2.2.2.1, hI.2.2.2.2.1, hI.2.2.2.2.2⟩ (by omega) (by have : (ai H (ρ a0 0) 2).toInt = (r_1 : Int32).toInt := congrArg Int32.toInt p_1_0; have j_2 := hI.2.1; unfold QS at j_2; omega)) lk_X12_149 yd_X12_sends hT_57 ha0 rfl (by decide) hS_57 (fun q => (fun h => h.elim (fun h => (Or.inl h)) (fun h => (Or.inr h)))) ⟨by decide, by decide⟩ (Nat.le_of_ble_eq_true rfl) ⟨by decide, by decide⟩ rfl dX12_goesOnce_135 (fun H_59 locs_59 p_59 hT_59 hk_59 hS_59 => ?_)
                  have p_59 : (IM D ρ N H_59 a0) ∧ ((ai H_59 (ρ a0 0) 2).toInt = (ai H (ρ a0 0) 2).toInt + r_7.toInt + 0) ∧ ((ai H (ρ a0 0) 976).toInt ≤ (ai H_59 (ρ a0 0) 976).toInt) := p_59
                  obtain ⟨p_59_0, p_59_1, p_59_2⟩ := p_59
                  have mn_59 : (ai H (ρ a0 0) 976).toInt ≤ (ai H_59 (ρ a0 0) 976).toInt := by exact p_59_2
                  refine lv_iconst (v := 1) hx hb dX12_goesOnce_138 (by decide) ?_
                  exact th_zret E hr hlk hs (Or.inr rfl) hT_59 hS_59 ⟨⟨p_59_0.1, p_59_0.2.1, p_59_0.2.2.1, p_59_0.2.2.2.1, p_59_0.2.2.2.2.1, p_59_0.2.2.2.2.2⟩, (Or.inr rfl), (by have : (1 : Int32).toInt = 1 := (by decide); have : (ai H (ρ a0 0) 2).toInt = (r_1 : Int32).toInt := congrArg Int32.toInt p_1_0; omega), (by omega)⟩ dX12_goesOnce_139
                · have f_58 : x_56.toInt < r_4.toInt := r_nle rfl rfl c_58
                  refine lv_iconst (v := 1) hx hb dX12_goesOnce_130 (by decide) ?_
                  refine lv_goto (tgt := 135) hx hb dX12_goesOnce_131 (by decide) ?_
                  refine th_Vv (As := [.int 0, .int r_7, .int 1]) (rest := []) E hml hl.1 (y_sends_v2 l D cI cS τ ρ hW H hT_57 a0 r_7 ha0 N hN0 hN1 ⟨hI.1, hI.2.1, hI.2.2.1, hI.2.2.2.1, hI.2.2.2.2.1, hI.2.2.2.2.2⟩ (by omega) (by have : (ai H (ρ a0 0) 2).toInt = (r_1 : Int32).toInt := congrArg Int32.toInt p_1_0; have j_2 := hI.2.1; unfold QS at j_2; omega)) lk_X12_149 yd_X12_sends hT_57 ha0 rfl (by decide) hS_57 (fun q => (fun h => h.elim (fun h => (Or.inl h)) (fun h => (Or.inr h)))) ⟨by decide, by decide⟩ (Nat.le_of_ble_eq_true rfl) ⟨by decide, by decide⟩ rfl dX12_goesOnce_135 (fun H_60 locs_60 p_60 hT_60 hk_60 hS_60 => ?_)
                  have p_60 : (IM D ρ N H_60 a0) ∧ ((ai H_60 (ρ a0 0) 2).toInt = (ai H (ρ a0 0) 2).toInt + r_7.toInt + 1) ∧ ((ai H (ρ a0 0) 976).toInt ≤ (ai H_60 (ρ a0 0) 976).toInt) := p_60
                  obtain ⟨p_60_0, p_60_1, p_60_2⟩ := p_60
                  have mn_60 : (ai H (ρ a0 0) 976).toInt ≤ (ai H_60 (ρ a0 0) 976).toInt := by exact p_60_2
                  refine lv_iconst (v := 1) hx hb dX12_goesOnce_138 (by decide) ?_
                  exact th_zret E hr hlk hs (Or.inr rfl) hT_60 hS_60 ⟨⟨p_60_0.1, p_60_0.2.1, p_60_0.2.2.1, p_60_0.2.2.2.1, p_60_0.2.2.2.2.1, p_60_0.2.2.2.2.2⟩, (Or.inr rfl), (by have : (1 : Int32).toInt = 1 := (by decide); have : (ai H (ρ a0 0) 2).toInt = (r_1 : Int32).toInt := congrArg Int32.toInt p_1_0; omega), (by omega)⟩ dX12_goesOnce_139
            · have f_52 : ¬ r_51.toInt = r_1.toInt := r_ne rfl rfl c_52
              refine lv_iload hx hb dX12_goesOnce_97 (lv_at hl 0 rfl) ?_
              refine lv_if_eq (tgt := 140) hx hb dX12_goesOnce_99 (by decide) (fun c_61 => absurd c_61 (by decide)) (fun c_61 => ?_)
              refine lv_aload_n hx hb dX12_goesOnce_102 rfl (lv_at hl 4 rfl) ?_
              refine lv_iload_n hx hb dX12_goesOnce_103 rfl (lv_at hl 5 rfl) ?_
              refine lv_iload hx hb dX12_goesOnce_104 (lv_at hl 1 rfl) ?_
              refine lv_iload hx hb dX12_goesOnce_106 (lv_at hl 0 rfl) ?_
              refine lv_if_eq (tgt := 134) hx hb dX12_goesOnce_108 (by decide) (fun c_62 => absurd c_62 (by decide)) (fun c_62 => ?_)
              refine lv_iload hx hb dX12_goesOnce_111 (lv_at hl 1 rfl) ?_
              refine lv_iload_n hx hb dX12_goesOnce_113 rfl (lv_at hl 2 rfl) ?_
              refine lv_icmp_ne (tgt := 134) hx hb dX12_goesOnce_114 (by decide) (fun c_63 => ?_) (fun c_63 => ?_)
              · have f_63 : ¬ r_7.toInt = r_2.toInt := r_ne rfl rfl c_63
                refine lv_iconst (v := 0) hx hb dX12_goesOnce_134 (by decide) ?_
                refine th_Vv (As := [.int 0, .int r_7, .int 0]) (rest := []) E hml hl.1 (y_sends l D cI cS τ ρ hW H hT_51 a0 r_7 ha0 N hN0 hN1 ⟨hI.1, hI.2.1, hI.2.2.1, hI.2.2.2.1, hI.2.2.2.2.1, hI.2.2.2.2.2⟩ (by omega) (by have : (ai H (ρ a0 0) 2).toInt = (r_1 : Int32).toInt := congrArg Int32.toInt p_1_0; have j_2 := hI.2.1; unfold QS at j_2; omega)) lk_X12_149 yd_X12_sends hT_51 ha0 rfl (by decide) hS_51 (fun q => (fun h => h.elim (fun h => (Or.inl h)) (fun h => (Or.inr h)))) ⟨by decide, by decide⟩ (Nat.le_of_ble_eq_true rfl) ⟨by decide, by decide⟩ rfl dX12_goesOnce_135 (fun H_64 locs_64 p_64 hT_64 hk_64 hS_64 => ?_)
                have p_64 : (IM D ρ N H_64 a0) ∧ ((ai H_64 (ρ a0 0) 2).toInt = (ai H (ρ a0 0) 2).toInt + r_7.toInt + 0) ∧ ((ai H (ρ a0 0) 976).toInt ≤ (ai H_64 (ρ a0 0) 976).toInt) := p_64
                obtain ⟨p_64_0, p_64_1, p_64_2⟩ := p_64
                have mn_64 : (ai H (ρ a0 0) 976).toInt ≤ (ai H_64 (ρ a0 0) 976).toInt := by exact p_64_2
                refine lv_iconst (v := 1) hx hb dX12_goesOnce_138 (by decide) ?_
                exact th_zret E hr hlk hs (Or.inr rfl) hT_64 hS_64 ⟨⟨p_64_0.1, p_64_0.2.1, p_64_0.2.2.1, p_64_0.2.2.2.1, p_64_0.2.2.2.2.1, p_64_0.2.2.2.2.2⟩, (Or.inr rfl), (by have : (1 : Int32).toInt = 1 := (by decide); have : (ai H (ρ a0 0) 2).toInt = (r_1 : Int32).toInt := congrArg Int32.toInt p_1_0; omega), (by omega)⟩ dX12_goesOnce_139
              · have f_63 : r_7.toInt = r_2.toInt := r_eq rfl rfl c_63
                refine lv_iload_n hx hb dX12_goesOnce_117 rfl (lv_at hl 3 rfl) ?_
                refine lv_iload hx hb dX12_goesOnce_118 (lv_at hl 1 rfl) ?_
                refine lv_iadd hx hb dX12_goesOnce_120 ?_
                refine lv_topi (fun x_65 ex_65 => ?_)
                have q_65 : x_65.toInt = r_1.toInt + r_7.toInt := i_pl rfl rfl ex_65 (by omega) (by omega)
                refine lv_aload_n hx hb dX12_goesOnce_121 rfl (lv_at hl 4 rfl) ?_
                refine lv_iload_n hx hb dX12_goesOnce_122 rfl (lv_at hl 5 rfl) ?_
                refine lv_iconst (v := 3) hx hb dX12_goesOnce_123 (by decide) ?_
                refine th_Vi (As := [.int 0, .int 3]) (rest := [.int x_65, .int r_7, .int 0, .ref a0]) E hml hl.1 (y_get_v15 l D cI cS τ ρ hW H hT_51 a0 ha0) lk_X12_99 yd_X12_get hT_51 ha0 rfl (by decide) hS_51 (fun _ h => h.elim) ⟨by decide, by decide⟩ (Nat.le_of_ble_eq_true rfl) ⟨by decide, by decide⟩ rfl dX12_goesOnce_124 (fun r_66 H_66 locs_66 p_66 hT_66 hk_66 hS_66 => ?_)
                have p_66 : H = H_66 ∧ (ai H (ρ a0 0) 3 = r_66) := p_66
                obtain ⟨rfl, p_66_0⟩ := p_66
                have s_66 : r_66 = r_4 := p_66_0.symm.trans p_4_0
                refine th_topi s_66 ?_
                refine lv_icmp_ge (tgt := 134) hx hb dX12_goesOnce_127 (by decide) (fun c_67 => ?_) (fun c_67 => ?_)
                · have f_67 : r_4.toInt ≤ x_65.toInt := r_le rfl rfl c_67
                  refine lv_iconst (v := 0) hx hb dX12_goesOnce_134 (by decide) ?_
                  refine th_Vv (As := [.int 0, .int r_7, .int 0]) (rest := []) E hml hl.1 (y_sends l D cI cS τ ρ hW H hT_66 a0 r_7 ha0 N hN0 hN1 ⟨hI.1, hI.2.1, hI.2.2.1, hI.2.2.2.1, hI.2.2.2.2.1, hI.2.2.2.2.2⟩ (by omega) (by have : (ai H (ρ a0 0) 2).toInt = (r_1 : Int32).toInt := congrArg Int32.toInt p_1_0; have j_2 := hI.2.1; unfold QS at j_2; omega)) lk_X12_149 yd_X12_sends hT_66 ha0 rfl (by decide) hS_66 (fun q => (fun h => h.elim (fun h => (Or.inl h)) (fun h => (Or.inr h)))) ⟨by decide, by decide⟩ (Nat.le_of_ble_eq_true rfl) ⟨by decide, by decide⟩ rfl dX12_goesOnce_135 (fun H_68 locs_68 p_68 hT_68 hk_68 hS_68 => ?_)
                  have p_68 : (IM D ρ N H_68 a0) ∧ ((ai H_68 (ρ a0 0) 2).toInt = (ai H (ρ a0 0) 2).toInt + r_7.toInt + 0) ∧ ((ai H (ρ a0 0) 976).toInt ≤ (ai H_68 (ρ a0 0) 976).toInt) := p_68
                  obtain ⟨p_68_0, p_68_1, p_68_2⟩ := p_68
                  have mn_68 : (ai H (ρ a0 0) 976).toInt ≤ (ai H_68 (ρ a0 0) 976).toInt := by exact p_68_2
                  refine lv_iconst (v := 1) hx hb dX12_goesOnce_138 (by decide) ?_
                  exact th_zret E hr hlk hs (Or.inr rfl) hT_68 hS_68 ⟨⟨p_68_0.1, p_68_0.2.1, p_68_0.2.2.1, p_68_0.2.2.2.1, p_68_0.2.2.2.2.1, p_68_0.2.2.2.2.2⟩, (Or.inr rfl), (by have : (1 : Int32).toInt = 1 := (by decide); have : (ai H (ρ a0 0) 2).toInt = (r_1 : Int32).toInt := congrArg Int32.toInt p_1_0; omega), (by omega)⟩ dX12_goesOnce_139
                · have f_67 : x_65.toInt < r_4.toInt := r_nle rfl rfl c_67
                  refine lv_iconst (v := 1) hx hb dX12_goesOnce_130 (by decide) ?_
                  refine lv_goto (tgt := 135) hx hb dX12_goesOnce_131 (by decide) ?_
                  refine th_Vv (As := [.int 0, .int r_7, .int 1]) (rest := []) E hml hl.1 (y_sends_v2 l D cI cS τ ρ hW H hT_66 a0 r_7 ha0 N hN0 hN1 ⟨hI.1, hI.2.1, hI.2.2.1, hI.2.2.2.1, hI.2.2.2.2.1, hI.2.2.2.2.2⟩ (by omega) (by have : (ai H (ρ a0 0) 2).toInt = (r_1 : Int32).toInt := congrArg Int32.toInt p_1_0; have j_2 := hI.2.1; unfold QS at j_2; omega)) lk_X12_149 yd_X12_sends hT_66 ha0 rfl (by decide) hS_66 (fun q => (fun h => h.elim (fun h => (Or.inl h)) (fun h => (Or.inr h)))) ⟨by decide, by decide⟩ (Nat.le_of_ble_eq_true rfl) ⟨by decide, by decide⟩ rfl dX12_goesOnce_135 (fun H_69 locs_69 p_69 hT_69 hk_69 hS_69 => ?_)
                  have p_69 : (IM D ρ N H_69 a0) ∧ ((ai H_69 (ρ a0 0) 2).toInt = (ai H (ρ a0 0) 2).toInt + r_7.toInt + 1) ∧ ((ai H (ρ a0 0) 976).toInt ≤ (ai H_69 (ρ a0 0) 976).toInt) := p_69
                  obtain ⟨p_69_0, p_69_1, p_69_2⟩ := p_69
                  have mn_69 : (ai H (ρ a0 0) 976).toInt ≤ (ai H_69 (ρ a0 0) 976).toInt := by exact p_69_2
                  refine lv_iconst (v := 1) hx hb dX12_goesOnce_138 (by decide) ?_
                  exact th_zret E hr hlk hs (Or.inr rfl) hT_69 hS_69 ⟨⟨p_69_0.1, p_69_0.2.1, p_69_0.2.2.1, p_69_0.2.2.2.1, p_69_0.2.2.2.2.1, p_69_0.2.2.2.2.2⟩, (Or.inr rfl), (by have : (1 : Int32).toInt = 1 := (by decide); have : (ai H (ρ a0 0) 2).toInt = (r_1 : Int32).toInt := congrArg Int32.toInt p_1_0; omega), (by omega)⟩ dX12_goesOnce_139
    · have f_29 : r_28.toInt = 0 := r_eq rfl (by decide) c_29
      refine lv_iconst (v := 0) hx hb dX12_goesOnce_64 (by decide) ?_
      exact th_zret E hr hlk hs (Or.inl rfl) hT_28 hS_28 ⟨⟨hI.1, hI.2.1, hI.2.2.1, hI.2.2.2.1, hI.2.2.2.2.1, hI.2.2.2.2.2⟩, (Or.inl rfl), (by have : (0 : Int32).toInt = 0 := (by decide); have : (ai H (ρ a0 0) 2).toInt = (r_1 : Int32).toInt := congrArg Int32.toInt p_1_0; omega), (by omega)⟩ dX12_goesOnce_65
set_option maxHeartbeats 4000000 in
set_option maxRecDepth 100000 in
/-- the reference: goesOn -/
theorem y_goesOn (l : Launch) (D : va_G) (cI cS : ClassId) (τ : Nat → Option Nat) (ρ : Nat → Nat → Nat) (hW : WF τ ρ) (H : Heap) (hT : TH D cI cS τ ρ H) (a0 : Nat) (ha0 : τ a0 = some 12) (N : Int) (hN0 : 0 ≤ N) (hN1 : N ≤ 600) (hI : IM D ρ N H a0) : MV l D cI cS τ ρ yX12_goesOn cX12_goesOn 3 none 8 190 H [.ref a0, .int 0] (fun (u : Heap) => (IM D ρ N u a0) ∧ ((ai H (ρ a0 0) 976).toInt ≤ (ai u (ρ a0 0) 976).toInt)) (fun q => q = ρ a0 2 ∨ q = ρ a0 0) := by
  refine MV.of (by decide) (Nat.le_of_ble_eq_true rfl) ?_
  intro p e s m args below meth c E hml hr hlk hs ls hl
  have hx := E.1
  have hb := E.2.1
  have hown := E.2.2.1
  have hts := E.2.2.2.1
  have hS : SS (fun q => q = ρ a0 2 ∨ q = ρ a0 0) H H [] := SS.rf
  have hl : lv_has ls 3 [(0, .ref a0), (1, .int 0)] := hl
  have n01 := hI.2.2.2.2.2.1
  have n23 := hI.2.2.2.2.2.2.1
  have L_2 : ∀ (n : Nat) (H_c2 : Heap) (lc_c2 : List Loc) (ls : Array Slot) (y2_2 : Int32) (g2_0 : Int32), TH D cI cS τ ρ H_c2 → SS (fun q => q = ρ a0 2 ∨ q = ρ a0 0) H H_c2 lc_c2 → lv_has ls 3 [(0, .ref a0), (1, .int 0), (2, .int y2_2)] → y2_2 = 0 ∨ y2_2 = 1 → ai H_c2 (ρ a0 0) 2 = g2_0 → IM D ρ N H_c2 a0 → (ai H (ρ a0 0) 976).toInt ≤ (ai H_c2 (ρ a0 0) 976).toInt → (N + 2 + y2_2.toInt - g2_0.toInt).toNat < n → W p l e (rmO 8 190) s m args below meth c H_c2 lc_c2 0 0 (MQ below (va_Qv (fun (u : Heap) => (IM D ρ N u a0) ∧ ((ai H (ρ a0 0) 976).toInt ≤ (ai u (ρ a0 0) 976).toInt)) (Bt D cI cS τ ρ H) (fun q => q = ρ a0 2 ∨ q = ρ a0 0)) args s 0 0 (fun q => q = ρ a0 2 ∨ q = ρ a0 0)) (F0 m 2 ls []) := by
    intro n
    induction n with
    | zero => intro H_c2 lc_c2 ls y2_2 g2_0 hT_c2 hS_c2 hl by2_2 hg2_0 hI_c2 hmn_c2 hm; exact absurd hm (Nat.not_lt_zero _)
    | succ n ih_2 =>
      intro H_c2 lc_c2 ls y2_2 g2_0 hT_c2 hS_c2 hl by2_2 hg2_0 hI_c2 hmn_c2 hm_2
      have z_y2_2 := b_iv by2_2
      have bb_g2_0 : 0 ≤ g2_0.toInt ∧ g2_0.toInt ≤ N + 2 := by rw [← hg2_0]; exact hI_c2.1 2 (by decide)
      have cg_g2_0 := congrArg Int32.toInt hg2_0
      refine lv_iload_n hx hb dX12_goesOn_2 rfl (lv_at hl 2 rfl) ?_
      refine lv_if_eq (tgt := 15) hx hb dX12_goesOn_3 (by decide) (fun c_1 => ?_) (fun c_1 => ?_)
      · have f_1 : y2_2.toInt = 0 := r_eq rfl (by decide) c_1
        exact th_vret E hr hlk hs hT_c2 hS_c2 ⟨⟨hI_c2.1, hI_c2.2.1, hI_c2.2.2.1, hI_c2.2.2.2.1, hI_c2.2.2.2.2.1, hI_c2.2.2.2.2.2⟩, (by omega)⟩ dX12_goesOn_15
      · have f_1 : ¬ y2_2.toInt = 0 := r_ne rfl (by decide) c_1
        have nz_y2_2 : ¬ y2_2 = 0 := c_1
        refine lv_aload_n hx hb dX12_goesOn_6 rfl (lv_at hl 0 rfl) ?_
        refine lv_iload_n hx hb dX12_goesOn_7 rfl (lv_at hl 1 rfl) ?_
        refine th_Vi (As := [.int 0]) (rest := []) E hml hl.1 (y_goesOnce l D cI cS τ ρ hW H_c2 hT_c2 a0 ha0 N hN0 hN1 ⟨hI_c2.1, hI_c2.2.1, hI_c2.2.2.1, hI_c2.2.2.2.1, hI_c2.2.2.2.2.1, hI_c2.2.2.2.2.2⟩) lk_X12_153 yd_X12_goesOnce hT_c2 ha0 rfl (by decide) hS_c2 (fun q => (fun h => h.elim (fun h => (Or.inl h)) (fun h => (Or.inr h)))) ⟨by decide, by decide⟩ (Nat.le_of_ble_eq_true rfl) ⟨by decide, by decide⟩ rfl dX12_goesOn_8 (fun r_2 H_2 locs_2 p_2 hT_2 hk_2 hS_2 => ?_)
        have p_2 : (IM D ρ N H_2 a0) ∧ (r_2 = 0 ∨ r_2 = 1) ∧ (((ai H_c2 (ρ a0 0) 2).toInt ≤ (ai H_2 (ρ a0 0) 2).toInt) ∧ (r_2.toInt = 1 → (ai H_c2 (ρ a0 0) 2).toInt + 1 ≤ (ai H_2 (ρ a0 0) 2).toInt)) ∧ ((ai H_c2 (ρ a0 0) 976).toInt ≤ (ai H_2 (ρ a0 0) 976).toInt) := p_2
        obtain ⟨p_2_0, p_2_1, p_2_2, p_2_3⟩ := p_2
        have mn_2 : (ai H_c2 (ρ a0 0) 976).toInt ≤ (ai H_2 (ρ a0 0) 976).toInt := by exact p_2_3
        have z_2 := b_iv p_2_1
        refine lv_istore_n (lv' := [(2, .int r_2), (0, .ref a0), (1, .int 0)]) hx hb dX12_goesOn_11 rfl hl (by decide) rfl (fun ls hl => ?_)
        refine lv_goto (tgt := 2) hx hb dX12_goesOn_12 (by decide) ?_
        exact ih_2 H_2 locs_2 _ r_2 (ai H_2 (ρ a0 0) 2) hT_2 hS_2 (lv_sub hl [1, 2, 0] rfl) p_2_1 rfl ⟨p_2_0.1, p_2_0.2.1, p_2_0.2.2.1, p_2_0.2.2.2.1, p_2_0.2.2.2.2.1, p_2_0.2.2.2.2.2⟩ (by omega) (by omega)
  refine lv_iconst (v := 1) hx hb dX12_goesOn_0 (by decide) ?_
  refine lv_istore_n (lv' := [(2, .int 1), (0, .ref a0), (1, .int 0)]) hx hb dX12_goesOn_1 rfl hl (by decide) rfl (fun ls hl => ?_)
  exact L_2 _ H [] _ 1 (ai H (ρ a0 0) 2) hT hS (lv_sub hl [1, 2, 0] rfl) (Or.inr rfl) rfl ⟨hI.1, hI.2.1, hI.2.2.1, hI.2.2.2.1, hI.2.2.2.2.1, hI.2.2.2.2.2⟩ (by omega) (Nat.lt_succ_self _)
set_option maxHeartbeats 4000000 in
set_option maxRecDepth 100000 in
/-- the reference: takesIn -/
theorem y_takesIn (l : Launch) (D : va_G) (cI cS : ClassId) (τ : Nat → Option Nat) (ρ : Nat → Nat → Nat) (hW : WF τ ρ) (H : Heap) (hT : TH D cI cS τ ρ H) (a0 : Nat) (x1 : Int32) (x2 : Int32) (ha0 : τ a0 = some 12) (N : Int) (hN0 : 0 ≤ N) (hN1 : N ≤ 600) (hI : IM D ρ N H a0) (hp0 : -128 ≤ x1.toInt ∧ x1.toInt ≤ 827) (hp1 : -1000 ≤ x2.toInt ∧ x2.toInt ≤ N + 2) : MI l D cI cS τ ρ yX12_takesIn cX12_takesIn 6 (some .int) 9 212 H [.ref a0, .int 0, .int x1, .int x2] (fun (r : Int32) (u : Heap) => (IM D ρ N u a0) ∧ ((ai H (ρ a0 0) 976).toInt ≤ (ai u (ρ a0 0) 976).toInt)) (fun q => q = ρ a0 0 ∨ q = ρ a0 2) := by
  refine MI.of (by decide) (Nat.le_of_ble_eq_true rfl) ?_
  intro p e s m args below meth c E hml hr hlk hs ls hl
  have hx := E.1
  have hb := E.2.1
  have hown := E.2.2.1
  have hts := E.2.2.2.1
  have hS : SS (fun q => q = ρ a0 0 ∨ q = ρ a0 2) H H [] := SS.rf
  have hl : lv_has ls 6 [(0, .ref a0), (1, .int 0), (2, .int x1), (3, .int x2)] := hl
  have n01 := hI.2.2.2.2.2.1
  have n23 := hI.2.2.2.2.2.2.1
  have J_243 : ∀ (H_c243 : Heap) (lc_c243 : List Loc) (ls : Array Slot) (y243_4 : Int32), TH D cI cS τ ρ H_c243 → SS (fun q => q = ρ a0 0 ∨ q = ρ a0 2) H H_c243 lc_c243 → lv_has ls 6 [(0, .ref a0), (1, .int 0), (2, .int x1), (3, .int x2), (4, .int y243_4)] → -128 ≤ x1.toInt → x1.toInt ≤ 827 → -1000 ≤ x2.toInt → x2.toInt ≤ 602 → y243_4 = 0 ∨ y243_4 = 1 → IM D ρ N H_c243 a0 → (ai H (ρ a0 0) 976).toInt ≤ (ai H_c243 (ρ a0 0) 976).toInt → W p l e (rmO 9 212) s m args below meth c H_c243 lc_c243 0 0 (MQ below (va_Qi (fun (r : Int32) (u : Heap) => (IM D ρ N u a0) ∧ ((ai H (ρ a0 0) 976).toInt ≤ (ai u (ρ a0 0) 976).toInt)) (Bt D cI cS τ ρ H) (fun q => q = ρ a0 0 ∨ q = ρ a0 2)) args s 0 0 (fun q => q = ρ a0 0 ∨ q = ρ a0 2)) (F0 m 243 ls []) := by
    intro H_c243 lc_c243 ls y243_4 hT_c243 hS_c243 hl ly243_2 uy243_2 ly243_3 uy243_3 by243_4 hI_c243 hmn_c243
    have z_y243_4 := b_iv by243_4
    refine lv_aload_n hx hb dX12_takesIn_243 rfl (lv_at hl 0 rfl) ?_
    refine lv_iload_n hx hb dX12_takesIn_244 rfl (lv_at hl 1 rfl) ?_
    refine th_Vv (As := [.int 0]) (rest := []) E hml hl.1 (y_goesOn l D cI cS τ ρ hW H_c243 hT_c243 a0 ha0 N hN0 hN1 ⟨hI_c243.1, hI_c243.2.1, hI_c243.2.2.1, hI_c243.2.2.2.1, hI_c243.2.2.2.2.1, hI_c243.2.2.2.2.2⟩) lk_X12_177 yd_X12_goesOn hT_c243 ha0 rfl (by decide) hS_c243 (fun q => (fun h => h.elim (fun h => (Or.inr h)) (fun h => (Or.inl h)))) ⟨by decide, by decide⟩ (Nat.le_of_ble_eq_true rfl) ⟨by decide, by decide⟩ rfl dX12_takesIn_245 (fun H_1 locs_1 p_1 hT_1 hk_1 hS_1 => ?_)
    have p_1 : (IM D ρ N H_1 a0) ∧ ((ai H_c243 (ρ a0 0) 976).toInt ≤ (ai H_1 (ρ a0 0) 976).toInt) := p_1
    obtain ⟨p_1_0, p_1_1⟩ := p_1
    have mn_1 : (ai H_c243 (ρ a0 0) 976).toInt ≤ (ai H_1 (ρ a0 0) 976).toInt := by exact p_1_1
    refine lv_iconst (v := 1) hx hb dX12_takesIn_248 (by decide) ?_
    exact th_iret E hr hlk hs hT_1 hS_1 ⟨⟨p_1_0.1, p_1_0.2.1, p_1_0.2.2.1, p_1_0.2.2.2.1, p_1_0.2.2.2.2.1, p_1_0.2.2.2.2.2⟩, (by omega)⟩ dX12_takesIn_249
  have J_231 : ∀ (H_c231 : Heap) (lc_c231 : List Loc) (ls : Array Slot) (y231_4 : Int32), TH D cI cS τ ρ H_c231 → SS (fun q => q = ρ a0 0 ∨ q = ρ a0 2) H H_c231 lc_c231 → lv_has ls 6 [(0, .ref a0), (1, .int 0), (2, .int x1), (3, .int x2), (4, .int y231_4)] → -128 ≤ x1.toInt → x1.toInt ≤ 827 → -1000 ≤ x2.toInt → x2.toInt ≤ 602 → y231_4 = 0 ∨ y231_4 = 1 → IM D ρ N H_c231 a0 → (ai H (ρ a0 0) 976).toInt ≤ (ai H_c231 (ρ a0 0) 976).toInt → W p l e (rmO 9 212) s m args below meth c H_c231 lc_c231 0 0 (MQ below (va_Qi (fun (r : Int32) (u : Heap) => (IM D ρ N u a0) ∧ ((ai H (ρ a0 0) 976).toInt ≤ (ai u (ρ a0 0) 976).toInt)) (Bt D cI cS τ ρ H) (fun q => q = ρ a0 0 ∨ q = ρ a0 2)) args s 0 0 (fun q => q = ρ a0 0 ∨ q = ρ a0 2)) (F0 m 231 ls []) := by
    intro H_c231 lc_c231 ls y231_4 hT_c231 hS_c231 hl ly231_2 uy231_2 ly231_3 uy231_3 by231_4 hI_c231 hmn_c231
    have z_y231_4 := b_iv by231_4
    refine lv_aload_n hx hb dX12_takesIn_231 rfl (lv_at hl 0 rfl) ?_
    refine th_Vi (As := []) (rest := []) E hml hl.1 (y_lengthOfIt l D cI cS τ ρ hW H_c231 hT_c231 a0 ha0) lk_X12_136 yd_X12_lengthOfIt hT_c231 ha0 rfl (by decide) hS_c231 (fun _ h => h.elim) ⟨by decide, by decide⟩ (Nat.le_of_ble_eq_true rfl) ⟨by decide, by decide⟩ rfl dX12_takesIn_232 (fun r_2 H_2 locs_2 p_2 hT_2 hk_2 hS_2 => ?_)
    have p_2 : H_c231 = H_2 := p_2
    obtain rfl := p_2
    refine lv_if_le (tgt := 243) hx hb dX12_takesIn_235 (by decide) (fun c_3 => ?_) (fun c_3 => ?_)
    · have f_3 : r_2.toInt ≤ 0 := r_le rfl (by decide) c_3
      exact J_243 H_c231 locs_2 _ y231_4 hT_2 hS_2 hl (by omega) (by omega) (by omega) (by omega) by231_4 ⟨hI_c231.1, hI_c231.2.1, hI_c231.2.2.1, hI_c231.2.2.2.1, hI_c231.2.2.2.2.1, hI_c231.2.2.2.2.2⟩ (by omega)
    · have f_3 : 0 < r_2.toInt := r_nle rfl (by decide) c_3
      refine lv_aload_n hx hb dX12_takesIn_238 rfl (lv_at hl 0 rfl) ?_
      refine lv_iload_n hx hb dX12_takesIn_239 rfl (lv_at hl 1 rfl) ?_
      refine th_Vv (As := [.int 0]) (rest := []) E hml hl.1 (y_yes l D cI cS τ ρ hW H_c231 hT_2 a0 ha0 N hN0 hN1 ⟨hI_c231.1, hI_c231.2.1, hI_c231.2.2.1, hI_c231.2.2.2.1, hI_c231.2.2.2.2.1, hI_c231.2.2.2.2.2⟩) lk_X12_193 yd_X12_yes hT_2 ha0 rfl (by decide) hS_2 (fun q => (fun h => h.elim (fun h => (Or.inr h)) (fun h => (Or.inl h)))) ⟨by decide, by decide⟩ (Nat.le_of_ble_eq_true rfl) ⟨by decide, by decide⟩ rfl dX12_takesIn_240 (fun H_4 locs_4 p_4 hT_4 hk_4 hS_4 => ?_)
      have p_4 : (IM D ρ N H_4 a0) ∧ ((ai H_c231 (ρ a0 0) 976).toInt ≤ (ai H_4 (ρ a0 0) 976).toInt) := p_4
      obtain ⟨p_4_0, p_4_1⟩ := p_4
      have mn_4 : (ai H_c231 (ρ a0 0) 976).toInt ≤ (ai H_4 (ρ a0 0) 976).toInt := by exact p_4_1
      exact J_243 H_4 locs_4 _ y231_4 hT_4 hS_4 hl (by omega) (by omega) (by omega) (by omega) by231_4 ⟨p_4_0.1, p_4_0.2.1, p_4_0.2.2.1, p_4_0.2.2.2.1, p_4_0.2.2.2.2.1, p_4_0.2.2.2.2.2⟩ (by omega)
  have J_202 : ∀ (H_c202 : Heap) (lc_c202 : List Loc) (ls : Array Slot) (y202_4 : Int32), TH D cI cS τ ρ H_c202 → SS (fun q => q = ρ a0 0 ∨ q = ρ a0 2) H H_c202 lc_c202 → lv_has ls 6 [(0, .ref a0), (1, .int 0), (2, .int x1), (3, .int x2), (4, .int y202_4)] → -128 ≤ x1.toInt → x1.toInt ≤ 827 → -1000 ≤ x2.toInt → x2.toInt ≤ 602 → y202_4 = 0 ∨ y202_4 = 1 → IM D ρ N H_c202 a0 → (ai H (ρ a0 0) 976).toInt ≤ (ai H_c202 (ρ a0 0) 976).toInt → W p l e (rmO 9 212) s m args below meth c H_c202 lc_c202 0 0 (MQ below (va_Qi (fun (r : Int32) (u : Heap) => (IM D ρ N u a0) ∧ ((ai H (ρ a0 0) 976).toInt ≤ (ai u (ρ a0 0) 976).toInt)) (Bt D cI cS τ ρ H) (fun q => q = ρ a0 0 ∨ q = ρ a0 2)) args s 0 0 (fun q => q = ρ a0 0 ∨ q = ρ a0 2)) (F0 m 202 ls []) := by
    intro H_c202 lc_c202 ls y202_4 hT_c202 hS_c202 hl ly202_2 uy202_2 ly202_3 uy202_3 by202_4 hI_c202 hmn_c202
    have z_y202_4 := b_iv by202_4
    refine lv_aload_n hx hb dX12_takesIn_202 rfl (lv_at hl 0 rfl) ?_
    refine lv_iload_n hx hb dX12_takesIn_203 rfl (lv_at hl 1 rfl) ?_
    refine lv_iconst (v := 0) hx hb dX12_takesIn_204 (by decide) ?_
    refine th_Vi (As := [.int 0, .int 0]) (rest := []) E hml hl.1 (y_get_v21 l D cI cS τ ρ hW H_c202 hT_c202 a0 ha0) lk_X12_99 yd_X12_get hT_c202 ha0 rfl (by decide) hS_c202 (fun _ h => h.elim) ⟨by decide, by decide⟩ (Nat.le_of_ble_eq_true rfl) ⟨by decide, by decide⟩ rfl dX12_takesIn_205 (fun r_5 H_5 locs_5 p_5 hT_5 hk_5 hS_5 => ?_)
    have p_5 : H_c202 = H_5 ∧ (ai H_c202 (ρ a0 0) 0 = r_5) := p_5
    obtain ⟨rfl, p_5_0⟩ := p_5
    have c_r_5 := congrArg Int32.toInt p_5_0
    refine lv_bipush (v := 10) hx hb dX12_takesIn_208 (by decide) ?_
    refine lv_icmp_ne (tgt := 231) hx hb dX12_takesIn_210 (by decide) (fun c_6 => ?_) (fun c_6 => ?_)
    · have f_6 : ¬ r_5.toInt = 10 := r_ne rfl (by decide) c_6
      exact J_231 H_c202 locs_5 _ y202_4 hT_5 hS_5 hl (by omega) (by omega) (by omega) (by omega) by202_4 ⟨hI_c202.1, hI_c202.2.1, hI_c202.2.2.1, hI_c202.2.2.2.1, hI_c202.2.2.2.2.1, hI_c202.2.2.2.2.2⟩ (by omega)
    · have f_6 : r_5.toInt = 10 := r_eq rfl (by decide) c_6
      refine lv_iload hx hb dX12_takesIn_213 (lv_at hl 4 rfl) ?_
      refine lv_if_ne (tgt := 231) hx hb dX12_takesIn_215 (by decide) (fun c_7 => ?_) (fun c_7 => ?_)
      · have f_7 : ¬ y202_4.toInt = 0 := r_ne rfl (by decide) c_7
        have nz_y202_4 : ¬ y202_4 = 0 := c_7
        exact J_231 H_c202 locs_5 _ y202_4 hT_5 hS_5 hl (by omega) (by omega) (by omega) (by omega) by202_4 ⟨hI_c202.1, hI_c202.2.1, hI_c202.2.2.1, hI_c202.2.2.2.1, hI_c202.2.2.2.2.1, hI_c202.2.2.2.2.2⟩ (by omega)
      · have f_7 : y202_4.toInt = 0 := r_eq rfl (by decide) c_7
        refine lv_aload_n hx hb dX12_takesIn_218 rfl (lv_at hl 0 rfl) ?_
        refine lv_iload_n hx hb dX12_takesIn_219 rfl (lv_at hl 1 rfl) ?_
        refine lv_bipush (v := 12) hx hb dX12_takesIn_220 (by decide) ?_
        refine lv_iconst (v := 2) hx hb dX12_takesIn_222 (by decide) ?_
        refine lv_aload_n hx hb dX12_takesIn_223 rfl (lv_at hl 0 rfl) ?_
        refine gf_X12_32 E hT_5 ha0 dX12_takesIn_224 ?_
        refine lv_topi (fun x_8 ex_8 => ?_)
        have b_8 : 1 ≤ x_8.toInt ∧ x_8.toInt ≤ 20 := by rw [ex_8]; exact IF.f8 hI_c202.2.2.2.2.2
        refine lv_imul hx hb dX12_takesIn_227 ?_
        refine lv_topi (fun x_9 ex_9 => ?_)
        have q_9 : x_9.toInt = 2 * x_8.toInt := i_ml (by decide) rfl ex_9 (by omega) (by omega)
        refine th_Vv (As := [.int 0, .int 12, .int x_9]) (rest := []) E hml hl.1 (y_set_v36 l D cI cS τ ρ hW H_c202 hT_5 a0 x_9 ha0) lk_X12_95 yd_X12_set hT_5 ha0 rfl (by decide) hS_5 (fun q h => (Or.inl h)) ⟨by decide, by decide⟩ (Nat.le_of_ble_eq_true rfl) ⟨by decide, by decide⟩ rfl dX12_takesIn_228 (fun H_10 locs_10 p_10 hT_10 hk_10 hS_10 => ?_)
        have p_10 : (AU 985 H_c202 H_10 (ρ a0 0) 12 x_9) := p_10
        have hW_10 : PW N H_10 (ρ a0 0) := PW.put hI_c202.1 p_10 (by show (-2147483648 : Int) ≤ _; exact i_min _) (by show _ ≤ (2147483647 : Int); exact i_max _)
        exact J_231 H_10 locs_10 _ y202_4 hT_10 hS_10 hl (by omega) (by omega) (by omega) (by omega) by202_4 ⟨hW_10, (QS.same ((Eq.trans (AU.o p_10 (by decide) (by decide)) p_5_0).trans p_5_0.symm) (AU.o p_10 (by decide) (by decide)) hI_c202.2.1), (QS.same (AU.o p_10 (by decide) (by decide)) (AU.o p_10 (by decide) (by decide)) hI_c202.2.2.1), (PL.q (p_10.2 _ (th_ne (hW _ 12 2 ha0 (by decide) (by decide) (by decide)) (hW _ 12 0 ha0 (by decide) (by decide) (by decide)) (by decide))) hI_c202.2.2.2.1), (PL.q (p_10.2 _ (th_ne (hW _ 12 3 ha0 (by decide) (by decide) (by decide)) (hW _ 12 0 ha0 (by decide) (by decide) (by decide)) (by decide))) hI_c202.2.2.2.2.1), (IF.q (p_10.2 _ (th_ne ha0 (hW _ 12 0 ha0 (by decide) (by decide) (by decide)) (by decide))) hI_c202.2.2.2.2.2)⟩ (by rw [(AU.o p_10 (by decide) (by decide))]; omega)
  have J_177 : ∀ (H_c177 : Heap) (lc_c177 : List Loc) (ls : Array Slot) (y177_4 : Int32), TH D cI cS τ ρ H_c177 → SS (fun q => q = ρ a0 0 ∨ q = ρ a0 2) H H_c177 lc_c177 → lv_has ls 6 [(0, .ref a0), (1, .int 0), (2, .int x1), (3, .int x2), (4, .int y177_4)] → -128 ≤ x1.toInt → x1.toInt ≤ 827 → -1000 ≤ x2.toInt → x2.toInt ≤ 602 → y177_4 = 0 ∨ y177_4 = 1 → IM D ρ N H_c177 a0 → (ai H (ρ a0 0) 976).toInt ≤ (ai H_c177 (ρ a0 0) 976).toInt → W p l e (rmO 9 212) s m args below meth c H_c177 lc_c177 0 0 (MQ below (va_Qi (fun (r : Int32) (u : Heap) => (IM D ρ N u a0) ∧ ((ai H (ρ a0 0) 976).toInt ≤ (ai u (ρ a0 0) 976).toInt)) (Bt D cI cS τ ρ H) (fun q => q = ρ a0 0 ∨ q = ρ a0 2)) args s 0 0 (fun q => q = ρ a0 0 ∨ q = ρ a0 2)) (F0 m 177 ls []) := by
    intro H_c177 lc_c177 ls y177_4 hT_c177 hS_c177 hl ly177_2 uy177_2 ly177_3 uy177_3 by177_4 hI_c177 hmn_c177
    have z_y177_4 := b_iv by177_4
    refine lv_aload_n hx hb dX12_takesIn_177 rfl (lv_at hl 0 rfl) ?_
    refine lv_iload_n hx hb dX12_takesIn_178 rfl (lv_at hl 1 rfl) ?_
    refine lv_iconst (v := 0) hx hb dX12_takesIn_179 (by decide) ?_
    refine th_Vi (As := [.int 0, .int 0]) (rest := []) E hml hl.1 (y_get_v21 l D cI cS τ ρ hW H_c177 hT_c177 a0 ha0) lk_X12_99 yd_X12_get hT_c177 ha0 rfl (by decide) hS_c177 (fun _ h => h.elim) ⟨by decide, by decide⟩ (Nat.le_of_ble_eq_true rfl) ⟨by decide, by decide⟩ rfl dX12_takesIn_180 (fun r_11 H_11 locs_11 p_11 hT_11 hk_11 hS_11 => ?_)
    have p_11 : H_c177 = H_11 ∧ (ai H_c177 (ρ a0 0) 0 = r_11) := p_11
    obtain ⟨rfl, p_11_0⟩ := p_11
    have c_r_11 := congrArg Int32.toInt p_11_0
    obtain ⟨x_12, ex_12⟩ : ∃ y : Int64, r_11.toInt64 = y := ⟨_, rfl⟩
    refine lv_i2l (v := x_12) hx hb dX12_takesIn_183 ex_12 ?_
    have q_12 : x_12.toInt = r_11.toInt := by rw [← ex_12]; exact Int32.toInt_toInt64 _
    refine lv_ldc2 (v := 4) hx hb hown (hts _ qw_1211) dX12_takesIn_184 ?_
    refine lv_ldc2 (v := 6) hx hb hown (hts _ qw_1212) dX12_takesIn_187 ?_
    refine th_Si (As := [.long x_12, .long 4, .long 6]) (rest := []) E hml hl.1 (y_in_v2 l D cI cS τ ρ hW H_c177 hT_11 x_12) lk_X12_54 yd_X12_in hS_11 (fun _ h => h.elim) ⟨by decide, by decide⟩ (Nat.le_of_ble_eq_true rfl) ⟨by decide, by decide⟩ rfl dX12_takesIn_190 (fun r_13 H_13 locs_13 p_13 hT_13 hk_13 hS_13 => ?_)
    have p_13 : H_c177 = H_13 ∧ (r_13 = 0 ∨ r_13 = 1) ∧ ((r_13.toInt = 1 ∧ 4 ≤ x_12.toInt ∧ x_12.toInt ≤ 6) ∨ (r_13.toInt = 0 ∧ (x_12.toInt < 4 ∨ 6 < x_12.toInt))) := p_13
    obtain ⟨rfl, p_13_0, p_13_1⟩ := p_13
    have z_13 := b_iv p_13_0
    refine lv_if_eq (tgt := 202) hx hb dX12_takesIn_193 (by decide) (fun c_14 => ?_) (fun c_14 => ?_)
    · have f_14 : r_13.toInt = 0 := r_eq rfl (by decide) c_14
      exact J_202 H_c177 locs_13 _ y177_4 hT_13 hS_13 hl (by omega) (by omega) (by omega) (by omega) by177_4 ⟨hI_c177.1, hI_c177.2.1, hI_c177.2.2.1, hI_c177.2.2.2.1, hI_c177.2.2.2.2.1, hI_c177.2.2.2.2.2⟩ (by omega)
    · have f_14 : ¬ r_13.toInt = 0 := r_ne rfl (by decide) c_14
      have nz_r_13 : ¬ r_13 = 0 := c_14
      refine lv_aload_n hx hb dX12_takesIn_196 rfl (lv_at hl 0 rfl) ?_
      refine lv_iload_n hx hb dX12_takesIn_197 rfl (lv_at hl 1 rfl) ?_
      refine lv_iload_n hx hb dX12_takesIn_198 rfl (lv_at hl 2 rfl) ?_
      refine th_Vv (As := [.int 0, .int x1]) (rest := []) E hml hl.1 (y_keeps_v2 l D cI cS τ ρ hW H_c177 hT_13 a0 x1 ha0 N hN0 hN1 ⟨hI_c177.1, hI_c177.2.1, hI_c177.2.2.1, hI_c177.2.2.2.1, hI_c177.2.2.2.2.1, hI_c177.2.2.2.2.2⟩ (by omega)) lk_X12_224 yd_X12_keeps hT_13 ha0 rfl (by decide) hS_13 (fun q h => (Or.inl h)) ⟨by decide, by decide⟩ (Nat.le_of_ble_eq_true rfl) ⟨by decide, by decide⟩ rfl dX12_takesIn_199 (fun H_15 locs_15 p_15 hT_15 hk_15 hS_15 => ?_)
      have p_15 : (IM D ρ N H_15 a0) ∧ ((ai H_c177 (ρ a0 0) 976).toInt ≤ (ai H_15 (ρ a0 0) 976).toInt) := p_15
      obtain ⟨p_15_0, p_15_1⟩ := p_15
      have mn_15 : (ai H_c177 (ρ a0 0) 976).toInt ≤ (ai H_15 (ρ a0 0) 976).toInt := by exact p_15_1
      exact J_202 H_15 locs_15 _ y177_4 hT_15 hS_15 hl (by omega) (by omega) (by omega) (by omega) by177_4 ⟨p_15_0.1, p_15_0.2.1, p_15_0.2.2.1, p_15_0.2.2.2.1, p_15_0.2.2.2.2.1, p_15_0.2.2.2.2.2⟩ (by omega)
  have J_128 : ∀ (H_c128 : Heap) (lc_c128 : List Loc) (ls : Array Slot) (y128_4 : Int32), TH D cI cS τ ρ H_c128 → SS (fun q => q = ρ a0 0 ∨ q = ρ a0 2) H H_c128 lc_c128 → lv_has ls 6 [(0, .ref a0), (1, .int 0), (2, .int x1), (3, .int x2), (4, .int y128_4)] → -128 ≤ x1.toInt → x1.toInt ≤ 827 → -1000 ≤ x2.toInt → x2.toInt ≤ 602 → y128_4 = 0 ∨ y128_4 = 1 → IM D ρ N H_c128 a0 → (ai H (ρ a0 0) 976).toInt ≤ (ai H_c128 (ρ a0 0) 976).toInt → W p l e (rmO 9 212) s m args below meth c H_c128 lc_c128 0 0 (MQ below (va_Qi (fun (r : Int32) (u : Heap) => (IM D ρ N u a0) ∧ ((ai H (ρ a0 0) 976).toInt ≤ (ai u (ρ a0 0) 976).toInt)) (Bt D cI cS τ ρ H) (fun q => q = ρ a0 0 ∨ q = ρ a0 2)) args s 0 0 (fun q => q = ρ a0 0 ∨ q = ρ a0 2)) (F0 m 128 ls []) := by
    intro H_c128 lc_c128 ls y128_4 hT_c128 hS_c128 hl ly128_2 uy128_2 ly128_3 uy128_3 by128_4 hI_c128 hmn_c128
    have z_y128_4 := b_iv by128_4
    refine lv_aload_n hx hb dX12_takesIn_128 rfl (lv_at hl 0 rfl) ?_
    refine gf_X12_19 E hT_c128 hW ha0 dX12_takesIn_129 (fun h_16 => ?_)
    refine lv_bipush (v := 7) hx hb dX12_takesIn_132 (by decide) ?_
    refine th_iald E hT_c128 h_16 (by decide) (vp_in_iff.mpr ⟨by decide, by decide⟩) dX12_takesIn_134 ?_
    refine th_topi (y := ai H_c128 (ρ a0 3) 7) rfl ?_
    refine lv_topi (fun x_17 ex_17 => ?_)
    have c_x_17 := congrArg Int32.toInt ex_17.symm
    refine lv_bipush (v := (-4)) hx hb dX12_takesIn_135 (by decide) ?_
    refine lv_icmp_eq (tgt := 177) hx hb dX12_takesIn_137 (by decide) (fun c_18 => ?_) (fun c_18 => ?_)
    · have f_18 : x_17.toInt = -4 := r_eq rfl (by decide) c_18
      exact J_177 H_c128 lc_c128 _ y128_4 hT_c128 hS_c128 hl (by omega) (by omega) (by omega) (by omega) by128_4 ⟨hI_c128.1, hI_c128.2.1, hI_c128.2.2.1, hI_c128.2.2.2.1, hI_c128.2.2.2.2.1, hI_c128.2.2.2.2.2⟩ (by omega)
    · have f_18 : ¬ x_17.toInt = -4 := r_ne rfl (by decide) c_18
      refine lv_aload_n hx hb dX12_takesIn_140 rfl (lv_at hl 0 rfl) ?_
      refine lv_iload_n hx hb dX12_takesIn_141 rfl (lv_at hl 1 rfl) ?_
      refine lv_bipush (v := 15) hx hb dX12_takesIn_142 (by decide) ?_
      refine lv_aload_n hx hb dX12_takesIn_144 rfl (lv_at hl 0 rfl) ?_
      refine lv_iload_n hx hb dX12_takesIn_145 rfl (lv_at hl 1 rfl) ?_
      refine lv_bipush (v := 15) hx hb dX12_takesIn_146 (by decide) ?_
      refine th_Vi (As := [.int 0, .int 15]) (rest := [.int 15, .int 0, .ref a0]) E hml hl.1 (y_get_v27 l D cI cS τ ρ hW H_c128 hT_c128 a0 ha0) lk_X12_99 yd_X12_get hT_c128 ha0 rfl (by decide) hS_c128 (fun _ h => h.elim) ⟨by decide, by decide⟩ (Nat.le_of_ble_eq_true rfl) ⟨by decide, by decide⟩ rfl dX12_takesIn_148 (fun r_19 H_19 locs_19 p_19 hT_19 hk_19 hS_19 => ?_)
      have p_19 : H_c128 = H_19 ∧ (ai H_c128 (ρ a0 0) 15 = r_19) := p_19
      obtain ⟨rfl, p_19_0⟩ := p_19
      have c_r_19 := congrArg Int32.toInt p_19_0
      refine lv_aload_n hx hb dX12_takesIn_151 rfl (lv_at hl 0 rfl) ?_
      refine lv_iconst (v := 1) hx hb dX12_takesIn_152 (by decide) ?_
      refine lv_iload_n hx hb dX12_takesIn_153 rfl (lv_at hl 1 rfl) ?_
      refine lv_isub hx hb dX12_takesIn_154 ?_
      refine th_topi (y := 1) (by decide) ?_
      refine lv_aload_n hx hb dX12_takesIn_155 rfl (lv_at hl 0 rfl) ?_
      refine gf_X12_19 E hT_19 hW ha0 dX12_takesIn_156 (fun h_20 => ?_)
      refine lv_bipush (v := 7) hx hb dX12_takesIn_159 (by decide) ?_
      refine th_iald E hT_19 h_20 (by decide) (vp_in_iff.mpr ⟨by decide, by decide⟩) dX12_takesIn_161 ?_
      refine th_topi (y := ai H_c128 (ρ a0 3) 7) rfl ?_
      refine th_topi (y := x_17) ex_17.symm ?_
      refine lv_aload_n hx hb dX12_takesIn_162 rfl (lv_at hl 0 rfl) ?_
      refine lv_iload_n hx hb dX12_takesIn_163 rfl (lv_at hl 1 rfl) ?_
      refine lv_iconst (v := 5) hx hb dX12_takesIn_164 (by decide) ?_
      refine th_Vi (As := [.int 0, .int 5]) (rest := [.int x_17, .int 1, .ref a0, .int r_19, .int 15, .int 0, .ref a0]) E hml hl.1 (y_get_v22 l D cI cS τ ρ hW H_c128 hT_19 a0 ha0) lk_X12_99 yd_X12_get hT_19 ha0 rfl (by decide) hS_19 (fun _ h => h.elim) ⟨by decide, by decide⟩ (Nat.le_of_ble_eq_true rfl) ⟨by decide, by decide⟩ rfl dX12_takesIn_165 (fun r_22 H_22 locs_22 p_22 hT_22 hk_22 hS_22 => ?_)
      have p_22 : H_c128 = H_22 ∧ (ai H_c128 (ρ a0 0) 5 = r_22) := p_22
      obtain ⟨rfl, p_22_0⟩ := p_22
      have b_r_22 : 0 ≤ r_22.toInt ∧ r_22.toInt ≤ N + 33 := by rw [← p_22_0]; exact hI_c128.1 5 (by decide)
      have c_r_22 := congrArg Int32.toInt p_22_0
      refine th_Vi (As := [.int 1, .int x_17, .int r_22]) (rest := [.int r_19, .int 15, .int 0, .ref a0]) E hml hl.1 (y_means_v2 l D cI cS τ ρ hW H_c128 hT_22 a0 x_17 r_22 ha0 (by omega)) lk_X12_208 yd_X12_means hT_22 ha0 rfl (by decide) hS_22 (fun _ h => h.elim) ⟨by decide, by decide⟩ (Nat.le_of_ble_eq_true rfl) ⟨by decide, by decide⟩ rfl dX12_takesIn_168 (fun r_23 H_23 locs_23 p_23 hT_23 hk_23 hS_23 => ?_)
      have p_23 : H_c128 = H_23 ∧ (r_22.toInt - 128 ≤ r_23.toInt ∧ r_23.toInt ≤ r_22.toInt + 127) := p_23
      obtain ⟨rfl, p_23_0⟩ := p_23
      refine th_Si (As := [.int r_19, .int r_23]) (rest := [.int 15, .int 0, .ref a0]) E hml hl.1 (y_greater_v3 l D cI cS τ ρ hW H_c128 hT_23 r_19 r_23) lk_X12_103 yd_X12_greater hS_23 (fun _ h => h.elim) ⟨by decide, by decide⟩ (Nat.le_of_ble_eq_true rfl) ⟨by decide, by decide⟩ rfl dX12_takesIn_171 (fun r_24 H_24 locs_24 p_24 hT_24 hk_24 hS_24 => ?_)
      have p_24 : H_c128 = H_24 ∧ (r_19.toInt ≤ r_24.toInt ∧ r_23.toInt ≤ r_24.toInt ∧ (r_24.toInt = r_19.toInt ∨ r_24.toInt = r_23.toInt)) := p_24
      obtain ⟨rfl, p_24_0⟩ := p_24
      refine th_Vv (As := [.int 0, .int 15, .int r_24]) (rest := []) E hml hl.1 (y_set_v31 l D cI cS τ ρ hW H_c128 hT_24 a0 r_24 ha0) lk_X12_95 yd_X12_set hT_24 ha0 rfl (by decide) hS_24 (fun q h => (Or.inl h)) ⟨by decide, by decide⟩ (Nat.le_of_ble_eq_true rfl) ⟨by decide, by decide⟩ rfl dX12_takesIn_174 (fun H_25 locs_25 p_25 hT_25 hk_25 hS_25 => ?_)
      have p_25 : (AU 985 H_c128 H_25 (ρ a0 0) 15 r_24) := p_25
      have hW_25 : PW N H_25 (ρ a0 0) := PW.put hI_c128.1 p_25 (by show (-2147483648 : Int) ≤ _; exact i_min _) (by show _ ≤ (2147483647 : Int); exact i_max _)
      exact J_177 H_25 locs_25 _ y128_4 hT_25 hS_25 hl (by omega) (by omega) (by omega) (by omega) by128_4 ⟨hW_25, (QS.same (AU.o p_25 (by decide) (by decide)) (AU.o p_25 (by decide) (by decide)) hI_c128.2.1), (QS.same (AU.o p_25 (by decide) (by decide)) (AU.o p_25 (by decide) (by decide)) hI_c128.2.2.1), (PL.q (p_25.2 _ (th_ne (hW _ 12 2 ha0 (by decide) (by decide) (by decide)) (hW _ 12 0 ha0 (by decide) (by decide) (by decide)) (by decide))) hI_c128.2.2.2.1), (PL.q (p_25.2 _ (th_ne (hW _ 12 3 ha0 (by decide) (by decide) (by decide)) (hW _ 12 0 ha0 (by decide) (by decide) (by decide)) (by decide))) hI_c128.2.2.2.2.1), (IF.q (p_25.2 _ (th_ne ha0 (hW _ 12 0 ha0 (by decide) (by decide) (by decide)) (by decide))) hI_c128.2.2.2.2.2)⟩ (by rw [(AU.o p_25 (by decide) (by decide))]; omega)
  have J_42 : ∀ (H_c42 : Heap) (lc_c42 : List Loc) (ls : Array Slot) (z42_0 : Int32), TH D cI cS τ ρ H_c42 → SS (fun q => q = ρ a0 0 ∨ q = ρ a0 2) H H_c42 lc_c42 → lv_has ls 6 [(0, .ref a0), (1, .int 0), (2, .int x1), (3, .int x2)] → -128 ≤ x1.toInt → x1.toInt ≤ 827 → -1000 ≤ x2.toInt → x2.toInt ≤ 602 → z42_0 = 0 ∨ z42_0 = 1 → IM D ρ N H_c42 a0 → (ai H (ρ a0 0) 976).toInt ≤ (ai H_c42 (ρ a0 0) 976).toInt → W p l e (rmO 9 212) s m args below meth c H_c42 lc_c42 0 0 (MQ below (va_Qi (fun (r : Int32) (u : Heap) => (IM D ρ N u a0) ∧ ((ai H (ρ a0 0) 976).toInt ≤ (ai u (ρ a0 0) 976).toInt)) (Bt D cI cS τ ρ H) (fun q => q = ρ a0 0 ∨ q = ρ a0 2)) args s 0 0 (fun q => q = ρ a0 0 ∨ q = ρ a0 2)) (F0 m 42 ls [.int z42_0]) := by
    intro H_c42 lc_c42 ls z42_0 hT_c42 hS_c42 hl ly42_2 uy42_2 ly42_3 uy42_3 bz42_0 hI_c42 hmn_c42
    have z_z42_0 := b_iv bz42_0
    refine lv_istore (lv' := [(4, .int z42_0), (0, .ref a0), (1, .int 0), (2, .int x1), (3, .int x2)]) hx hb dX12_takesIn_42 hl (by decide) rfl (fun ls hl => ?_)
    refine lv_aload_n hx hb dX12_takesIn_44 rfl (lv_at hl 1 rfl) ?_
    refine lv_iload_n hx hb dX12_takesIn_45 rfl (lv_at hl 2 rfl) ?_
    refine lv_iload_n hx hb dX12_takesIn_46 rfl (lv_at hl 4 rfl) ?_
    refine th_Vv (As := [.int 0, .int x2]) (rest := []) E hml hl.1 (y_hears l D cI cS τ ρ hW H_c42 hT_c42 a0 x2 ha0 N hN0 hN1 ⟨hI_c42.1, hI_c42.2.1, hI_c42.2.2.1, hI_c42.2.2.2.1, hI_c42.2.2.2.2.1, hI_c42.2.2.2.2.2⟩ (by omega)) lk_X12_212 yd_X12_hears hT_c42 ha0 rfl (by decide) hS_c42 (fun q h => (Or.inl h)) ⟨by decide, by decide⟩ (Nat.le_of_ble_eq_true rfl) ⟨by decide, by decide⟩ rfl dX12_takesIn_47 (fun H_26 locs_26 p_26 hT_26 hk_26 hS_26 => ?_)
    have p_26 : (IM D ρ N H_26 a0) ∧ ((ai H_c42 (ρ a0 0) 976).toInt ≤ (ai H_26 (ρ a0 0) 976).toInt) ∧ (ai H_26 (ρ a0 0) 0 = ai H_c42 (ρ a0 0) 0) ∧ (ai H_26 (ρ a0 0) 2 = ai H_c42 (ρ a0 0) 2) := p_26
    obtain ⟨p_26_0, p_26_1, p_26_2, p_26_3⟩ := p_26
    have mn_26 : (ai H_c42 (ρ a0 0) 976).toInt ≤ (ai H_26 (ρ a0 0) 976).toInt := by exact p_26_1
    refine lv_aload_n hx hb dX12_takesIn_50 rfl (lv_at hl 1 rfl) ?_
    refine lv_iload_n hx hb dX12_takesIn_51 rfl (lv_at hl 2 rfl) ?_
    refine th_Vi (As := [.int 0]) (rest := []) E hml hl.1 (y_isByeSent l D cI cS τ ρ hW H_26 hT_26 a0 ha0 N hN0 hN1 ⟨p_26_0.1, p_26_0.2.1, p_26_0.2.2.1, p_26_0.2.2.2.1, p_26_0.2.2.2.2.1, p_26_0.2.2.2.2.2⟩) lk_X12_221 yd_X12_isByeSent hT_26 ha0 rfl (by decide) hS_26 (fun _ h => h.elim) ⟨by decide, by decide⟩ (Nat.le_of_ble_eq_true rfl) ⟨by decide, by decide⟩ rfl dX12_takesIn_52 (fun r_27 H_27 locs_27 p_27 hT_27 hk_27 hS_27 => ?_)
    have p_27 : H_26 = H_27 ∧ (r_27 = 0 ∨ r_27 = 1) := p_27
    obtain ⟨rfl, p_27_0⟩ := p_27
    have z_27 := b_iv p_27_0
    refine lv_if_eq (tgt := 128) hx hb dX12_takesIn_55 (by decide) (fun c_28 => ?_) (fun c_28 => ?_)
    · have f_28 : r_27.toInt = 0 := r_eq rfl (by decide) c_28
      exact J_128 H_26 locs_27 _ z42_0 hT_27 hS_27 (lv_sub hl [1, 2, 3, 4, 0] rfl) (by omega) (by omega) (by omega) (by omega) bz42_0 ⟨p_26_0.1, p_26_0.2.1, p_26_0.2.2.1, p_26_0.2.2.2.1, p_26_0.2.2.2.2.1, p_26_0.2.2.2.2.2⟩ (by omega)
    · have f_28 : ¬ r_27.toInt = 0 := r_ne rfl (by decide) c_28
      have nz_r_27 : ¬ r_27 = 0 := c_28
      refine lv_aload_n hx hb dX12_takesIn_58 rfl (lv_at hl 1 rfl) ?_
      refine lv_iload_n hx hb dX12_takesIn_59 rfl (lv_at hl 2 rfl) ?_
      refine lv_iconst (v := 1) hx hb dX12_takesIn_60 (by decide) ?_
      refine th_Vi (As := [.int 0, .int 1]) (rest := []) E hml hl.1 (y_get_v7 l D cI cS τ ρ hW H_26 hT_27 a0 ha0) lk_X12_99 yd_X12_get hT_27 ha0 rfl (by decide) hS_27 (fun _ h => h.elim) ⟨by decide, by decide⟩ (Nat.le_of_ble_eq_true rfl) ⟨by decide, by decide⟩ rfl dX12_takesIn_61 (fun r_29 H_29 locs_29 p_29 hT_29 hk_29 hS_29 => ?_)
      have p_29 : H_26 = H_29 ∧ (ai H_26 (ρ a0 0) 1 = r_29) := p_29
      obtain ⟨rfl, p_29_0⟩ := p_29
      have b_r_29 : 0 ≤ r_29.toInt ∧ r_29.toInt ≤ N + 2 := by rw [← p_29_0]; exact p_26_0.1 1 (by decide)
      have c_r_29 := congrArg Int32.toInt p_29_0
      refine lv_aload_n hx hb dX12_takesIn_64 rfl (lv_at hl 1 rfl) ?_
      refine lv_iload_n hx hb dX12_takesIn_65 rfl (lv_at hl 2 rfl) ?_
      refine lv_iconst (v := 4) hx hb dX12_takesIn_66 (by decide) ?_
      refine th_Vi (As := [.int 0, .int 4]) (rest := [.int r_29]) E hml hl.1 (y_get_v24 l D cI cS τ ρ hW H_26 hT_29 a0 ha0) lk_X12_99 yd_X12_get hT_29 ha0 rfl (by decide) hS_29 (fun _ h => h.elim) ⟨by decide, by decide⟩ (Nat.le_of_ble_eq_true rfl) ⟨by decide, by decide⟩ rfl dX12_takesIn_67 (fun r_30 H_30 locs_30 p_30 hT_30 hk_30 hS_30 => ?_)
      have p_30 : H_26 = H_30 ∧ (ai H_26 (ρ a0 0) 4 = r_30) := p_30
      obtain ⟨rfl, p_30_0⟩ := p_30
      have b_r_30 : 0 ≤ r_30.toInt ∧ r_30.toInt ≤ N := by rw [← p_30_0]; exact p_26_0.1 4 (by decide)
      have c_r_30 := congrArg Int32.toInt p_30_0
      refine lv_iconst (v := 1) hx hb dX12_takesIn_70 (by decide) ?_
      refine lv_iadd hx hb dX12_takesIn_71 ?_
      refine lv_topi (fun x_31 ex_31 => ?_)
      have q_31 : x_31.toInt = r_30.toInt + 1 := i_pl rfl (by decide) ex_31 (by omega) (by omega)
      refine lv_icmp_le (tgt := 128) hx hb dX12_takesIn_72 (by decide) (fun c_32 => ?_) (fun c_32 => ?_)
      · have f_32 : r_29.toInt ≤ x_31.toInt := r_le rfl rfl c_32
        exact J_128 H_26 locs_30 _ z42_0 hT_30 hS_30 (lv_sub hl [1, 2, 3, 4, 0] rfl) (by omega) (by omega) (by omega) (by omega) bz42_0 ⟨p_26_0.1, p_26_0.2.1, p_26_0.2.2.1, p_26_0.2.2.2.1, p_26_0.2.2.2.2.1, p_26_0.2.2.2.2.2⟩ (by omega)
      · have f_32 : x_31.toInt < r_29.toInt := r_nle rfl rfl c_32
        refine lv_aload_n hx hb dX12_takesIn_75 rfl (lv_at hl 1 rfl) ?_
        refine lv_iload_n hx hb dX12_takesIn_76 rfl (lv_at hl 2 rfl) ?_
        refine lv_iconst (v := 0) hx hb dX12_takesIn_77 (by decide) ?_
        refine th_Vi (As := [.int 0, .int 0]) (rest := []) E hml hl.1 (y_get_v21 l D cI cS τ ρ hW H_26 hT_30 a0 ha0) lk_X12_99 yd_X12_get hT_30 ha0 rfl (by decide) hS_30 (fun _ h => h.elim) ⟨by decide, by decide⟩ (Nat.le_of_ble_eq_true rfl) ⟨by decide, by decide⟩ rfl dX12_takesIn_78 (fun r_33 H_33 locs_33 p_33 hT_33 hk_33 hS_33 => ?_)
        have p_33 : H_26 = H_33 ∧ (ai H_26 (ρ a0 0) 0 = r_33) := p_33
        obtain ⟨rfl, p_33_0⟩ := p_33
        have t_33 : ai H_c42 (ρ a0 0) 0 = r_33 := p_26_2.symm.trans p_33_0
        have c_r_33 := congrArg Int32.toInt t_33
        refine lv_istore (lv' := [(5, .int r_33), (4, .int z42_0), (0, .ref a0), (1, .int 0), (2, .int x1), (3, .int x2)]) hx hb dX12_takesIn_81 hl (by decide) rfl (fun ls hl => ?_)
        refine lv_iload hx hb dX12_takesIn_83 (lv_at hl 0 rfl) ?_
        refine lv_bipush (v := 9) hx hb dX12_takesIn_85 (by decide) ?_
        refine lv_icmp_ne (tgt := 97) hx hb dX12_takesIn_87 (by decide) (fun c_34 => ?_) (fun c_34 => ?_)
        · have f_34 : ¬ r_33.toInt = 9 := r_ne rfl (by decide) c_34
          refine lv_aload_n hx hb dX12_takesIn_97 rfl (lv_at hl 2 rfl) ?_
          refine lv_iload_n hx hb dX12_takesIn_98 rfl (lv_at hl 3 rfl) ?_
          refine lv_iconst (v := 0) hx hb dX12_takesIn_99 (by decide) ?_
          refine lv_iload hx hb dX12_takesIn_100 (lv_at hl 0 rfl) ?_
          refine lv_iconst (v := 5) hx hb dX12_takesIn_102 (by decide) ?_
          refine lv_icmp_ne (tgt := 111) hx hb dX12_takesIn_103 (by decide) (fun c_35 => ?_) (fun c_35 => ?_)
          · have f_35 : ¬ r_33.toInt = 5 := r_ne rfl (by decide) c_35
            refine lv_iload hx hb dX12_takesIn_111 (lv_at hl 0 rfl) ?_
            refine lv_bipush (v := 8) hx hb dX12_takesIn_113 (by decide) ?_
            refine lv_icmp_ne (tgt := 123) hx hb dX12_takesIn_115 (by decide) (fun c_36 => ?_) (fun c_36 => ?_)
            · have f_36 : ¬ r_33.toInt = 8 := r_ne rfl (by decide) c_36
              refine lv_iload hx hb dX12_takesIn_123 (lv_at hl 0 rfl) ?_
              refine th_Vv (As := [.int 0, .int 0, .int r_33]) (rest := []) E hml hl.1 (y_set_v25 l D cI cS τ ρ hW H_26 hT_33 a0 r_33 ha0) lk_X12_95 yd_X12_set hT_33 ha0 rfl (by decide) hS_33 (fun q h => (Or.inl h)) ⟨by decide, by decide⟩ (Nat.le_of_ble_eq_true rfl) ⟨by decide, by decide⟩ rfl dX12_takesIn_125 (fun H_37 locs_37 p_37 hT_37 hk_37 hS_37 => ?_)
              have p_37 : (AU 985 H_26 H_37 (ρ a0 0) 0 r_33) := p_37
              have hW_37 : PW N H_37 (ρ a0 0) := PW.put p_26_0.1 p_37 (by show (-2147483648 : Int) ≤ _; exact i_min _) (by show _ ≤ (2147483647 : Int); exact i_max _)
              exact J_128 H_37 locs_37 _ z42_0 hT_37 hS_37 (lv_sub hl [2, 3, 4, 5, 1] rfl) (by omega) (by omega) (by omega) (by omega) bz42_0 ⟨hW_37, (QS.same ((AU.s p_37 (by decide)).trans (p_26_2.trans t_33).symm) ((Eq.trans (AU.o p_37 (by decide) (by decide)) p_26_3).trans p_26_3.symm) p_26_0.2.1), (QS.same (AU.o p_37 (by decide) (by decide)) (AU.o p_37 (by decide) (by decide)) p_26_0.2.2.1), (PL.q (p_37.2 _ (th_ne (hW _ 12 2 ha0 (by decide) (by decide) (by decide)) (hW _ 12 0 ha0 (by decide) (by decide) (by decide)) (by decide))) p_26_0.2.2.2.1), (PL.q (p_37.2 _ (th_ne (hW _ 12 3 ha0 (by decide) (by decide) (by decide)) (hW _ 12 0 ha0 (by decide) (by decide) (by decide)) (by decide))) p_26_0.2.2.2.2.1), (IF.q (p_37.2 _ (th_ne ha0 (hW _ 12 0 ha0 (by decide) (by decide) (by decide)) (by decide))) p_26_0.2.2.2.2.2)⟩ (by rw [(AU.o p_37 (by decide) (by decide))]; omega)
            · have f_36 : r_33.toInt = 8 := r_eq rfl (by decide) c_36
              refine lv_bipush (v := 10) hx hb dX12_takesIn_118 (by decide) ?_
              refine lv_goto (tgt := 125) hx hb dX12_takesIn_120 (by decide) ?_
              refine th_Vv (As := [.int 0, .int 0, .int 10]) (rest := []) E hml hl.1 (y_set_v27 l D cI cS τ ρ hW H_26 hT_33 a0 ha0) lk_X12_95 yd_X12_set hT_33 ha0 rfl (by decide) hS_33 (fun q h => (Or.inl h)) ⟨by decide, by decide⟩ (Nat.le_of_ble_eq_true rfl) ⟨by decide, by decide⟩ rfl dX12_takesIn_125 (fun H_38 locs_38 p_38 hT_38 hk_38 hS_38 => ?_)
              have p_38 : (AU 985 H_26 H_38 (ρ a0 0) 0 (10)) := p_38
              have hW_38 : PW N H_38 (ρ a0 0) := PW.put p_26_0.1 p_38 (by show (-2147483648 : Int) ≤ _; exact i_min _) (by show _ ≤ (2147483647 : Int); exact i_max _)
              exact J_128 H_38 locs_38 _ z42_0 hT_38 hS_38 (lv_sub hl [2, 3, 4, 5, 1] rfl) (by omega) (by omega) (by omega) (by omega) bz42_0 ⟨hW_38, (QS.of (s := (10 : Int32)) (t := (ai H_c42 (ρ a0 0) 2 : Int32)) (AU.s p_38 (by decide)) (Eq.trans (AU.o p_38 (by decide) (by decide)) p_26_3) (by have j := p_26_0.2.1; unfold QS at j; have : (ai H_26 (ρ a0 0) 0).toInt = (r_33 : Int32).toInt := congrArg Int32.toInt (p_26_2.trans t_33); have : (ai H_26 (ρ a0 0) 2).toInt = (ai H_c42 (ρ a0 0) 2 : Int32).toInt := congrArg Int32.toInt p_26_3; have : (10 : Int32).toInt = 10 := (by decide); omega)), (QS.same (AU.o p_38 (by decide) (by decide)) (AU.o p_38 (by decide) (by decide)) p_26_0.2.2.1), (PL.q (p_38.2 _ (th_ne (hW _ 12 2 ha0 (by decide) (by decide) (by decide)) (hW _ 12 0 ha0 (by decide) (by decide) (by decide)) (by decide))) p_26_0.2.2.2.1), (PL.q (p_38.2 _ (th_ne (hW _ 12 3 ha0 (by decide) (by decide) (by decide)) (hW _ 12 0 ha0 (by decide) (by decide) (by decide)) (by decide))) p_26_0.2.2.2.2.1), (IF.q (p_38.2 _ (th_ne ha0 (hW _ 12 0 ha0 (by decide) (by decide) (by decide)) (by decide))) p_26_0.2.2.2.2.2)⟩ (by rw [(AU.o p_38 (by decide) (by decide))]; omega)
          · have f_35 : r_33.toInt = 5 := r_eq rfl (by decide) c_35
            refine lv_bipush (v := 6) hx hb dX12_takesIn_106 (by decide) ?_
            refine lv_goto (tgt := 125) hx hb dX12_takesIn_108 (by decide) ?_
            refine th_Vv (As := [.int 0, .int 0, .int 6]) (rest := []) E hml hl.1 (y_set_v28 l D cI cS τ ρ hW H_26 hT_33 a0 ha0) lk_X12_95 yd_X12_set hT_33 ha0 rfl (by decide) hS_33 (fun q h => (Or.inl h)) ⟨by decide, by decide⟩ (Nat.le_of_ble_eq_true rfl) ⟨by decide, by decide⟩ rfl dX12_takesIn_125 (fun H_39 locs_39 p_39 hT_39 hk_39 hS_39 => ?_)
            have p_39 : (AU 985 H_26 H_39 (ρ a0 0) 0 (6)) := p_39
            have hW_39 : PW N H_39 (ρ a0 0) := PW.put p_26_0.1 p_39 (by show (-2147483648 : Int) ≤ _; exact i_min _) (by show _ ≤ (2147483647 : Int); exact i_max _)
            exact J_128 H_39 locs_39 _ z42_0 hT_39 hS_39 (lv_sub hl [2, 3, 4, 5, 1] rfl) (by omega) (by omega) (by omega) (by omega) bz42_0 ⟨hW_39, (QS.of (s := (6 : Int32)) (t := (ai H_c42 (ρ a0 0) 2 : Int32)) (AU.s p_39 (by decide)) (Eq.trans (AU.o p_39 (by decide) (by decide)) p_26_3) (by have j := p_26_0.2.1; unfold QS at j; have : (ai H_26 (ρ a0 0) 0).toInt = (r_33 : Int32).toInt := congrArg Int32.toInt (p_26_2.trans t_33); have : (ai H_26 (ρ a0 0) 2).toInt = (ai H_c42 (ρ a0 0) 2 : Int32).toInt := congrArg Int32.toInt p_26_3; have : (6 : Int32).toInt = 6 := (by decide); omega)), (QS.same (AU.o p_39 (by decide) (by decide)) (AU.o p_39 (by decide) (by decide)) p_26_0.2.2.1), (PL.q (p_39.2 _ (th_ne (hW _ 12 2 ha0 (by decide) (by decide) (by decide)) (hW _ 12 0 ha0 (by decide) (by decide) (by decide)) (by decide))) p_26_0.2.2.2.1), (PL.q (p_39.2 _ (th_ne (hW _ 12 3 ha0 (by decide) (by decide) (by decide)) (hW _ 12 0 ha0 (by decide) (by decide) (by decide)) (by decide))) p_26_0.2.2.2.2.1), (IF.q (p_39.2 _ (th_ne ha0 (hW _ 12 0 ha0 (by decide) (by decide) (by decide)) (by decide))) p_26_0.2.2.2.2.2)⟩ (by rw [(AU.o p_39 (by decide) (by decide))]; omega)
        · have f_34 : r_33.toInt = 9 := r_eq rfl (by decide) c_34
          refine lv_aload_n hx hb dX12_takesIn_90 rfl (lv_at hl 2 rfl) ?_
          refine lv_iload_n hx hb dX12_takesIn_91 rfl (lv_at hl 3 rfl) ?_
          refine th_Vv (As := [.int 0]) (rest := []) E hml hl.1 (y_shuts l D cI cS τ ρ hW H_26 hT_33 a0 ha0 N hN0 hN1 ⟨p_26_0.1, p_26_0.2.1, p_26_0.2.2.1, p_26_0.2.2.2.1, p_26_0.2.2.2.2.1, p_26_0.2.2.2.2.2⟩) lk_X12_180 yd_X12_shuts hT_33 ha0 rfl (by decide) hS_33 (fun q h => (Or.inl h)) ⟨by decide, by decide⟩ (Nat.le_of_ble_eq_true rfl) ⟨by decide, by decide⟩ rfl dX12_takesIn_92 (fun H_40 locs_40 p_40 hT_40 hk_40 hS_40 => ?_)
          have p_40 : (IM D ρ N H_40 a0) ∧ ((ai H_26 (ρ a0 0) 976).toInt ≤ (ai H_40 (ρ a0 0) 976).toInt) := p_40
          obtain ⟨p_40_0, p_40_1⟩ := p_40
          have mn_40 : (ai H_26 (ρ a0 0) 976).toInt ≤ (ai H_40 (ρ a0 0) 976).toInt := by exact p_40_1
          refine lv_iconst (v := 1) hx hb dX12_takesIn_95 (by decide) ?_
          exact th_iret E hr hlk hs hT_40 hS_40 ⟨⟨p_40_0.1, p_40_0.2.1, p_40_0.2.2.1, p_40_0.2.2.2.1, p_40_0.2.2.2.2.1, p_40_0.2.2.2.2.2⟩, (by omega)⟩ dX12_takesIn_96
  refine lv_aload_n hx hb dX12_takesIn_0 rfl (lv_at hl 0 rfl) ?_
  refine lv_iload_n hx hb dX12_takesIn_1 rfl (lv_at hl 1 rfl) ?_
  refine lv_iconst (v := 0) hx hb dX12_takesIn_2 (by decide) ?_
  refine lv_aload_n hx hb dX12_takesIn_3 rfl (lv_at hl 0 rfl) ?_
  refine lv_iload_n hx hb dX12_takesIn_4 rfl (lv_at hl 1 rfl) ?_
  refine lv_iconst (v := 0) hx hb dX12_takesIn_5 (by decide) ?_
  refine th_Vi (As := [.int 0, .int 0]) (rest := [.int 0, .int 0, .ref a0]) E hml hl.1 (y_get_v21 l D cI cS τ ρ hW H hT a0 ha0) lk_X12_99 yd_X12_get hT ha0 rfl (by decide) hS (fun _ h => h.elim) ⟨by decide, by decide⟩ (Nat.le_of_ble_eq_true rfl) ⟨by decide, by decide⟩ rfl dX12_takesIn_6 (fun r_41 H_41 locs_41 p_41 hT_41 hk_41 hS_41 => ?_)
  have p_41 : H = H_41 ∧ (ai H (ρ a0 0) 0 = r_41) := p_41
  obtain ⟨rfl, p_41_0⟩ := p_41
  have c_r_41 := congrArg Int32.toInt p_41_0
  refine lv_iconst (v := 3) hx hb dX12_takesIn_9 (by decide) ?_
  refine lv_icmp_ne (tgt := 17) hx hb dX12_takesIn_10 (by decide) (fun c_42 => ?_) (fun c_42 => ?_)
  · have f_42 : ¬ r_41.toInt = 3 := r_ne rfl (by decide) c_42
    refine lv_aload_n hx hb dX12_takesIn_17 rfl (lv_at hl 0 rfl) ?_
    refine lv_iload_n hx hb dX12_takesIn_18 rfl (lv_at hl 1 rfl) ?_
    refine lv_iconst (v := 0) hx hb dX12_takesIn_19 (by decide) ?_
    refine th_Vi (As := [.int 0, .int 0]) (rest := [.int 0, .int 0, .ref a0]) E hml hl.1 (y_get_v21 l D cI cS τ ρ hW H hT_41 a0 ha0) lk_X12_99 yd_X12_get hT_41 ha0 rfl (by decide) hS_41 (fun _ h => h.elim) ⟨by decide, by decide⟩ (Nat.le_of_ble_eq_true rfl) ⟨by decide, by decide⟩ rfl dX12_takesIn_20 (fun r_43 H_43 locs_43 p_43 hT_43 hk_43 hS_43 => ?_)
    have p_43 : H = H_43 ∧ (ai H (ρ a0 0) 0 = r_43) := p_43
    obtain ⟨rfl, p_43_0⟩ := p_43
    have s_43 : r_43 = r_41 := p_43_0.symm.trans p_41_0
    refine th_topi s_43 ?_
    refine th_Vv (As := [.int 0, .int 0, .int r_41]) (rest := []) E hml hl.1 (y_set_v25 l D cI cS τ ρ hW H hT_43 a0 r_41 ha0) lk_X12_95 yd_X12_set hT_43 ha0 rfl (by decide) hS_43 (fun q h => (Or.inl h)) ⟨by decide, by decide⟩ (Nat.le_of_ble_eq_true rfl) ⟨by decide, by decide⟩ rfl dX12_takesIn_23 (fun H_44 locs_44 p_44 hT_44 hk_44 hS_44 => ?_)
    have p_44 : (AU 985 H H_44 (ρ a0 0) 0 r_41) := p_44
    have hW_44 : PW N H_44 (ρ a0 0) := PW.put hI.1 p_44 (by show (-2147483648 : Int) ≤ _; exact i_min _) (by show _ ≤ (2147483647 : Int); exact i_max _)
    refine lv_aload_n hx hb dX12_takesIn_26 rfl (lv_at hl 0 rfl) ?_
    refine lv_iload_n hx hb dX12_takesIn_27 rfl (lv_at hl 1 rfl) ?_
    refine lv_iconst (v := 0) hx hb dX12_takesIn_28 (by decide) ?_
    refine th_Vi (As := [.int 0, .int 0]) (rest := []) E hml hl.1 (y_get_v21 l D cI cS τ ρ hW H_44 hT_44 a0 ha0) lk_X12_99 yd_X12_get hT_44 ha0 rfl (by decide) hS_44 (fun _ h => h.elim) ⟨by decide, by decide⟩ (Nat.le_of_ble_eq_true rfl) ⟨by decide, by decide⟩ rfl dX12_takesIn_29 (fun r_45 H_45 locs_45 p_45 hT_45 hk_45 hS_45 => ?_)
    have p_45 : H_44 = H_45 ∧ (ai H_44 (ρ a0 0) 0 = r_45) := p_45
    obtain ⟨rfl, p_45_0⟩ := p_45
    have s_45 : r_45 = r_41 := p_45_0.symm.trans (AU.s p_44 (by decide))
    refine th_topi s_45 ?_
    refine lv_bipush (v := 10) hx hb dX12_takesIn_32 (by decide) ?_
    refine lv_icmp_ne (tgt := 41) hx hb dX12_takesIn_34 (by decide) (fun c_46 => ?_) (fun c_46 => ?_)
    · have f_46 : ¬ r_41.toInt = 10 := r_ne rfl (by decide) c_46
      refine lv_iconst (v := 0) hx hb dX12_takesIn_41 (by decide) ?_
      exact J_42 H_44 locs_45 _ 0 hT_45 hS_45 hl (by omega) (by omega) (by omega) (by omega) (Or.inl rfl) ⟨hW_44, (QS.same ((AU.s p_44 (by decide)).trans p_41_0.symm) (AU.o p_44 (by decide) (by decide)) hI.2.1), (QS.same (AU.o p_44 (by decide) (by decide)) (AU.o p_44 (by decide) (by decide)) hI.2.2.1), (PL.q (p_44.2 _ (th_ne (hW _ 12 2 ha0 (by decide) (by decide) (by decide)) (hW _ 12 0 ha0 (by decide) (by decide) (by decide)) (by decide))) hI.2.2.2.1), (PL.q (p_44.2 _ (th_ne (hW _ 12 3 ha0 (by decide) (by decide) (by decide)) (hW _ 12 0 ha0 (by decide) (by decide) (by decide)) (by decide))) hI.2.2.2.2.1), (IF.q (p_44.2 _ (th_ne ha0 (hW _ 12 0 ha0 (by decide) (by decide) (by decide)) (by decide))) hI.2.2.2.2.2)⟩ (by rw [(AU.o p_44 (by decide) (by decide))]; omega)
    · have f_46 : r_41.toInt = 10 := r_eq rfl (by decide) c_46
      refine lv_iconst (v := 1) hx hb dX12_takesIn_37 (by decide) ?_
      refine lv_goto (tgt := 42) hx hb dX12_takesIn_38 (by decide) ?_
      exact J_42 H_44 locs_45 _ 1 hT_45 hS_45 hl (by omega) (by omega) (by omega) (by omega) (Or.inr rfl) ⟨hW_44, (QS.same ((AU.s p_44 (by decide)).trans p_41_0.symm) (AU.o p_44 (by decide) (by decide)) hI.2.1), (QS.same (AU.o p_44 (by decide) (by decide)) (AU.o p_44 (by decide) (by decide)) hI.2.2.1), (PL.q (p_44.2 _ (th_ne (hW _ 12 2 ha0 (by decide) (by decide) (by decide)) (hW _ 12 0 ha0 (by decide) (by decide) (by decide)) (by decide))) hI.2.2.2.1), (PL.q (p_44.2 _ (th_ne (hW _ 12 3 ha0 (by decide) (by decide) (by decide)) (hW _ 12 0 ha0 (by decide) (by decide) (by decide)) (by decide))) hI.2.2.2.2.1), (IF.q (p_44.2 _ (th_ne ha0 (hW _ 12 0 ha0 (by decide) (by decide) (by decide)) (by decide))) hI.2.2.2.2.2)⟩ (by rw [(AU.o p_44 (by decide) (by decide))]; omega)
  · have f_42 : r_41.toInt = 3 := r_eq rfl (by decide) c_42
    refine lv_iconst (v := 4) hx hb dX12_takesIn_13 (by decide) ?_
    refine lv_goto (tgt := 23) hx hb dX12_takesIn_14 (by decide) ?_
    refine th_Vv (As := [.int 0, .int 0, .int 4]) (rest := []) E hml hl.1 (y_set_v26 l D cI cS τ ρ hW H hT_41 a0 ha0) lk_X12_95 yd_X12_set hT_41 ha0 rfl (by decide) hS_41 (fun q h => (Or.inl h)) ⟨by decide, by decide⟩ (Nat.le_of_ble_eq_true rfl) ⟨by decide, by decide⟩ rfl dX12_takesIn_23 (fun H_47 locs_47 p_47 hT_47 hk_47 hS_47 => ?_)
    have p_47 : (AU 985 H H_47 (ρ a0 0) 0 (4)) := p_47
    have hW_47 : PW N H_47 (ρ a0 0) := PW.put hI.1 p_47 (by show (-2147483648 : Int) ≤ _; exact i_min _) (by show _ ≤ (2147483647 : Int); exact i_max _)
    refine lv_aload_n hx hb dX12_takesIn_26 rfl (lv_at hl 0 rfl) ?_
    refine lv_iload_n hx hb dX12_takesIn_27 rfl (lv_at hl 1 rfl) ?_
    refine lv_iconst (v := 0) hx hb dX12_takesIn_28 (by decide) ?_
    refine th_Vi (As := [.int 0, .int 0]) (rest := []) E hml hl.1 (y_get_v21 l D cI cS τ ρ hW H_47 hT_47 a0 ha0) lk_X12_99 yd_X12_get hT_47 ha0 rfl (by decide) hS_47 (fun _ h => h.elim) ⟨by decide, by decide⟩ (Nat.le_of_ble_eq_true rfl) ⟨by decide, by decide⟩ rfl dX12_takesIn_29 (fun r_48 H_48 locs_48 p_48 hT_48 hk_48 hS_48 => ?_)
    have p_48 : H_47 = H_48 ∧ (ai H_47 (ρ a0 0) 0 = r_48) := p_48
    obtain ⟨rfl, p_48_0⟩ := p_48
    have s_48 : r_48 = 4 := p_48_0.symm.trans (AU.s p_47 (by decide))
    refine th_topi s_48 ?_
    refine lv_bipush (v := 10) hx hb dX12_takesIn_32 (by decide) ?_
    refine lv_icmp_ne (tgt := 41) hx hb dX12_takesIn_34 (by decide) (fun c_49 => ?_) (fun c_49 => absurd c_49 (by decide))
    refine lv_iconst (v := 0) hx hb dX12_takesIn_41 (by decide) ?_
    exact J_42 H_47 locs_48 _ 0 hT_48 hS_48 hl (by omega) (by omega) (by omega) (by omega) (Or.inl rfl) ⟨hW_47, (QS.of (s := (4 : Int32)) (t := (ai H (ρ a0 0) 2 : Int32)) (AU.s p_47 (by decide)) (AU.o p_47 (by decide) (by decide)) (by have j := hI.2.1; unfold QS at j; have : (ai H (ρ a0 0) 0).toInt = (r_41 : Int32).toInt := congrArg Int32.toInt p_41_0; have : (4 : Int32).toInt = 4 := (by decide); omega)), (QS.same (AU.o p_47 (by decide) (by decide)) (AU.o p_47 (by decide) (by decide)) hI.2.2.1), (PL.q (p_47.2 _ (th_ne (hW _ 12 2 ha0 (by decide) (by decide) (by decide)) (hW _ 12 0 ha0 (by decide) (by decide) (by decide)) (by decide))) hI.2.2.2.1), (PL.q (p_47.2 _ (th_ne (hW _ 12 3 ha0 (by decide) (by decide) (by decide)) (hW _ 12 0 ha0 (by decide) (by decide) (by decide)) (by decide))) hI.2.2.2.2.1), (IF.q (p_47.2 _ (th_ne ha0 (hW _ 12 0 ha0 (by decide) (by decide) (by decide)) (by decide))) hI.2.2.2.2.2)⟩ (by rw [(AU.o p_47 (by decide) (by decide))]; omega)
set_option maxHeartbeats 4000000 in
set_option maxRecDepth 100000 in
/-- the reference: has -/
theorem y_has_v2 (l : Launch) (D : va_G) (cI cS : ClassId) (τ : Nat → Option Nat) (ρ : Nat → Nat → Nat) (hW : WF τ ρ) (H : Heap) (hT : TH D cI cS τ ρ H) (a0 : Nat) (ha0 : τ a0 = some 12) : MI l D cI cS τ ρ yX12_has cX12_has 2 (some .boolean) 0 0 H [.ref a0, .int 4] (fun (r : Int32) (u : Heap) => (H = u) ∧ (r = 0 ∨ r = 1)) (fun q => False) := by
  refine MI.of (by decide) (Nat.le_of_ble_eq_true rfl) ?_
  intro p e s m args below meth c E hml hr hlk hs ls hl
  have hx := E.1
  have hb := E.2.1
  have hown := E.2.2.1
  have hts := E.2.2.2.1
  have hS : SS (fun q => False) H H [] := SS.rf
  have hl : lv_has ls 2 [(0, .ref a0), (1, .int 4)] := hl
  refine lv_aload_n hx hb dX12_has_0 rfl (lv_at hl 0 rfl) ?_
  refine gf_X12_19 E hT hW ha0 dX12_has_1 (fun h_1 => ?_)
  refine lv_iconst (v := 1) hx hb dX12_has_4 (by decide) ?_
  refine th_iald E hT h_1 (by decide) (vp_in_iff.mpr ⟨by decide, by decide⟩) dX12_has_5 ?_
  refine th_topi (y := ai H (ρ a0 3) 1) rfl ?_
  refine lv_topi (fun x_2 ex_2 => ?_)
  have c_x_2 := congrArg Int32.toInt ex_2.symm
  refine lv_iload_n hx hb dX12_has_6 rfl (lv_at hl 1 rfl) ?_
  refine lv_iand hx hb dX12_has_7 ?_
  refine lv_topi (fun x_3 ex_3 => ?_)
  have q_3 := i_msk (k := 4) (x := x_2) (by decide) (by decide) ex_3
  refine lv_if_le (tgt := 15) hx hb dX12_has_8 (by decide) (fun c_4 => ?_) (fun c_4 => ?_)
  · have f_4 : x_3.toInt ≤ 0 := r_le rfl (by decide) c_4
    refine lv_iconst (v := 0) hx hb dX12_has_15 (by decide) ?_
    exact th_zret E hr hlk hs (Or.inl rfl) hT hS ⟨rfl, (Or.inl rfl)⟩ dX12_has_16
  · have f_4 : 0 < x_3.toInt := r_nle rfl (by decide) c_4
    refine lv_iconst (v := 1) hx hb dX12_has_11 (by decide) ?_
    refine lv_goto (tgt := 16) hx hb dX12_has_12 (by decide) ?_
    exact th_zret E hr hlk hs (Or.inr rfl) hT hS ⟨rfl, (Or.inr rfl)⟩ dX12_has_16
set_option maxHeartbeats 4000000 in
set_option maxRecDepth 100000 in
/-- the reference: get -/
theorem y_get_v29 (l : Launch) (D : va_G) (cI cS : ClassId) (τ : Nat → Option Nat) (ρ : Nat → Nat → Nat) (hW : WF τ ρ) (H : Heap) (hT : TH D cI cS τ ρ H) (a0 : Nat) (ha0 : τ a0 = some 12) : MI l D cI cS τ ρ yX12_get cX12_get 3 (some .int) 0 0 H [.ref a0, .int 1, .int 1] (fun (r : Int32) (u : Heap) => (H = u) ∧ (ai H (ρ a0 0) 289 = r)) (fun q => False) := by
  refine MI.of (by decide) (Nat.le_of_ble_eq_true rfl) ?_
  intro p e s m args below meth c E hml hr hlk hs ls hl
  have hx := E.1
  have hb := E.2.1
  have hown := E.2.2.1
  have hts := E.2.2.2.1
  have hS : SS (fun q => False) H H [] := SS.rf
  have hl : lv_has ls 3 [(0, .ref a0), (1, .int 1), (2, .int 1)] := hl
  refine lv_aload_n hx hb dX12_get_0 rfl (lv_at hl 0 rfl) ?_
  refine gf_X12_7 E hT hW ha0 dX12_get_1 (fun h_1 => ?_)
  refine lv_sipush (v := 288) hx hb dX12_get_4 (by decide) ?_
  refine lv_iload_n hx hb dX12_get_7 rfl (lv_at hl 1 rfl) ?_
  refine lv_imul hx hb dX12_get_8 ?_
  refine th_topi (y := 288) (by decide) ?_
  refine lv_iload_n hx hb dX12_get_9 rfl (lv_at hl 2 rfl) ?_
  refine lv_iadd hx hb dX12_get_10 ?_
  refine th_topi (y := 289) (by decide) ?_
  refine th_iald E hT h_1 (by decide) (vp_in_iff.mpr ⟨by decide, by decide⟩) dX12_get_11 ?_
  refine th_topi (y := ai H (ρ a0 0) 289) rfl ?_
  refine lv_topi (fun x_2 ex_2 => ?_)
  have c_x_2 := congrArg Int32.toInt ex_2.symm
  exact th_iret E hr hlk hs hT hS ⟨rfl, ex_2.symm⟩ dX12_get_12
set_option maxHeartbeats 4000000 in
set_option maxRecDepth 100000 in
/-- the reference: has -/
theorem y_has_v3 (l : Launch) (D : va_G) (cI cS : ClassId) (τ : Nat → Option Nat) (ρ : Nat → Nat → Nat) (hW : WF τ ρ) (H : Heap) (hT : TH D cI cS τ ρ H) (a0 : Nat) (ha0 : τ a0 = some 12) : MI l D cI cS τ ρ yX12_has cX12_has 2 (some .boolean) 0 0 H [.ref a0, .int 8] (fun (r : Int32) (u : Heap) => (H = u) ∧ (r = 0 ∨ r = 1)) (fun q => False) := by
  refine MI.of (by decide) (Nat.le_of_ble_eq_true rfl) ?_
  intro p e s m args below meth c E hml hr hlk hs ls hl
  have hx := E.1
  have hb := E.2.1
  have hown := E.2.2.1
  have hts := E.2.2.2.1
  have hS : SS (fun q => False) H H [] := SS.rf
  have hl : lv_has ls 2 [(0, .ref a0), (1, .int 8)] := hl
  refine lv_aload_n hx hb dX12_has_0 rfl (lv_at hl 0 rfl) ?_
  refine gf_X12_19 E hT hW ha0 dX12_has_1 (fun h_1 => ?_)
  refine lv_iconst (v := 1) hx hb dX12_has_4 (by decide) ?_
  refine th_iald E hT h_1 (by decide) (vp_in_iff.mpr ⟨by decide, by decide⟩) dX12_has_5 ?_
  refine th_topi (y := ai H (ρ a0 3) 1) rfl ?_
  refine lv_topi (fun x_2 ex_2 => ?_)
  have c_x_2 := congrArg Int32.toInt ex_2.symm
  refine lv_iload_n hx hb dX12_has_6 rfl (lv_at hl 1 rfl) ?_
  refine lv_iand hx hb dX12_has_7 ?_
  refine lv_topi (fun x_3 ex_3 => ?_)
  have q_3 := i_msk (k := 8) (x := x_2) (by decide) (by decide) ex_3
  refine lv_if_le (tgt := 15) hx hb dX12_has_8 (by decide) (fun c_4 => ?_) (fun c_4 => ?_)
  · have f_4 : x_3.toInt ≤ 0 := r_le rfl (by decide) c_4
    refine lv_iconst (v := 0) hx hb dX12_has_15 (by decide) ?_
    exact th_zret E hr hlk hs (Or.inl rfl) hT hS ⟨rfl, (Or.inl rfl)⟩ dX12_has_16
  · have f_4 : 0 < x_3.toInt := r_nle rfl (by decide) c_4
    refine lv_iconst (v := 1) hx hb dX12_has_11 (by decide) ?_
    refine lv_goto (tgt := 16) hx hb dX12_has_12 (by decide) ?_
    exact th_zret E hr hlk hs (Or.inr rfl) hT hS ⟨rfl, (Or.inr rfl)⟩ dX12_has_16
set_option maxHeartbeats 4000000 in
set_option maxRecDepth 100000 in
/-- the reference: has -/
theorem y_has_v4 (l : Launch) (D : va_G) (cI cS : ClassId) (τ : Nat → Option Nat) (ρ : Nat → Nat → Nat) (hW : WF τ ρ) (H : Heap) (hT : TH D cI cS τ ρ H) (a0 : Nat) (ha0 : τ a0 = some 12) : MI l D cI cS τ ρ yX12_has cX12_has 2 (some .boolean) 0 0 H [.ref a0, .int 1] (fun (r : Int32) (u : Heap) => (H = u) ∧ (r = 0 ∨ r = 1)) (fun q => False) := by
  refine MI.of (by decide) (Nat.le_of_ble_eq_true rfl) ?_
  intro p e s m args below meth c E hml hr hlk hs ls hl
  have hx := E.1
  have hb := E.2.1
  have hown := E.2.2.1
  have hts := E.2.2.2.1
  have hS : SS (fun q => False) H H [] := SS.rf
  have hl : lv_has ls 2 [(0, .ref a0), (1, .int 1)] := hl
  refine lv_aload_n hx hb dX12_has_0 rfl (lv_at hl 0 rfl) ?_
  refine gf_X12_19 E hT hW ha0 dX12_has_1 (fun h_1 => ?_)
  refine lv_iconst (v := 1) hx hb dX12_has_4 (by decide) ?_
  refine th_iald E hT h_1 (by decide) (vp_in_iff.mpr ⟨by decide, by decide⟩) dX12_has_5 ?_
  refine th_topi (y := ai H (ρ a0 3) 1) rfl ?_
  refine lv_topi (fun x_2 ex_2 => ?_)
  have c_x_2 := congrArg Int32.toInt ex_2.symm
  refine lv_iload_n hx hb dX12_has_6 rfl (lv_at hl 1 rfl) ?_
  refine lv_iand hx hb dX12_has_7 ?_
  refine lv_topi (fun x_3 ex_3 => ?_)
  have q_3 := i_msk (k := 1) (x := x_2) (by decide) (by decide) ex_3
  refine lv_if_le (tgt := 15) hx hb dX12_has_8 (by decide) (fun c_4 => ?_) (fun c_4 => ?_)
  · have f_4 : x_3.toInt ≤ 0 := r_le rfl (by decide) c_4
    refine lv_iconst (v := 0) hx hb dX12_has_15 (by decide) ?_
    exact th_zret E hr hlk hs (Or.inl rfl) hT hS ⟨rfl, (Or.inl rfl)⟩ dX12_has_16
  · have f_4 : 0 < x_3.toInt := r_nle rfl (by decide) c_4
    refine lv_iconst (v := 1) hx hb dX12_has_11 (by decide) ?_
    refine lv_goto (tgt := 16) hx hb dX12_has_12 (by decide) ?_
    exact th_zret E hr hlk hs (Or.inr rfl) hT hS ⟨rfl, (Or.inr rfl)⟩ dX12_has_16
set_option maxHeartbeats 4000000 in
set_option maxRecDepth 100000 in
/-- the reference: set -/
theorem y_set_v42 (l : Launch) (D : va_G) (cI cS : ClassId) (τ : Nat → Option Nat) (ρ : Nat → Nat → Nat) (hW : WF τ ρ) (H : Heap) (hT : TH D cI cS τ ρ H) (a0 : Nat) (ha0 : τ a0 = some 12) : MV l D cI cS τ ρ yX12_set cX12_set 4 none 0 0 H [.ref a0, .int 1, .int 5, .int 1] (fun (u : Heap) => (AU 985 H u (ρ a0 0) 293 (1))) (fun q => q = ρ a0 0) := by
  refine MV.of (by decide) (Nat.le_of_ble_eq_true rfl) ?_
  intro p e s m args below meth c E hml hr hlk hs ls hl
  have hx := E.1
  have hb := E.2.1
  have hown := E.2.2.1
  have hts := E.2.2.2.1
  have hS : SS (fun q => q = ρ a0 0) H H [] := SS.rf
  have hl : lv_has ls 4 [(0, .ref a0), (1, .int 1), (2, .int 5), (3, .int 1)] := hl
  refine lv_aload_n hx hb dX12_set_0 rfl (lv_at hl 0 rfl) ?_
  refine gf_X12_7 E hT hW ha0 dX12_set_1 (fun h_1 => ?_)
  refine lv_sipush (v := 288) hx hb dX12_set_4 (by decide) ?_
  refine lv_iload_n hx hb dX12_set_7 rfl (lv_at hl 1 rfl) ?_
  refine lv_imul hx hb dX12_set_8 ?_
  refine th_topi (y := 288) (by decide) ?_
  refine lv_iload_n hx hb dX12_set_9 rfl (lv_at hl 2 rfl) ?_
  refine lv_iadd hx hb dX12_set_10 ?_
  refine th_topi (y := 293) (by decide) ?_
  refine lv_iload_n hx hb dX12_set_11 rfl (lv_at hl 3 rfl) ?_
  refine th_iast E hT hS h_1 rfl (by decide) (vp_in_iff.mpr ⟨by decide, by decide⟩) dX12_set_12 (fun H_2 locs_2 hT_2 hU_2 hS_2 => ?_)
  have hU_2 : AU 985 H H_2 (ρ a0 0) 293 (1) := hU_2
  exact th_vret E hr hlk hs hT_2 hS_2 hU_2 dX12_set_13
set_option maxHeartbeats 4000000 in
set_option maxRecDepth 100000 in
/-- the reference: set -/
theorem y_set_v43 (l : Launch) (D : va_G) (cI cS : ClassId) (τ : Nat → Option Nat) (ρ : Nat → Nat → Nat) (hW : WF τ ρ) (H : Heap) (hT : TH D cI cS τ ρ H) (a0 : Nat) (ha0 : τ a0 = some 12) : MV l D cI cS τ ρ yX12_set cX12_set 4 none 0 0 H [.ref a0, .int 1, .int 0, .int 3] (fun (u : Heap) => (AU 985 H u (ρ a0 0) 288 (3))) (fun q => q = ρ a0 0) := by
  refine MV.of (by decide) (Nat.le_of_ble_eq_true rfl) ?_
  intro p e s m args below meth c E hml hr hlk hs ls hl
  have hx := E.1
  have hb := E.2.1
  have hown := E.2.2.1
  have hts := E.2.2.2.1
  have hS : SS (fun q => q = ρ a0 0) H H [] := SS.rf
  have hl : lv_has ls 4 [(0, .ref a0), (1, .int 1), (2, .int 0), (3, .int 3)] := hl
  refine lv_aload_n hx hb dX12_set_0 rfl (lv_at hl 0 rfl) ?_
  refine gf_X12_7 E hT hW ha0 dX12_set_1 (fun h_1 => ?_)
  refine lv_sipush (v := 288) hx hb dX12_set_4 (by decide) ?_
  refine lv_iload_n hx hb dX12_set_7 rfl (lv_at hl 1 rfl) ?_
  refine lv_imul hx hb dX12_set_8 ?_
  refine th_topi (y := 288) (by decide) ?_
  refine lv_iload_n hx hb dX12_set_9 rfl (lv_at hl 2 rfl) ?_
  refine lv_iadd hx hb dX12_set_10 ?_
  refine th_topi (y := 288) (by decide) ?_
  refine lv_iload_n hx hb dX12_set_11 rfl (lv_at hl 3 rfl) ?_
  refine th_iast E hT hS h_1 rfl (by decide) (vp_in_iff.mpr ⟨by decide, by decide⟩) dX12_set_12 (fun H_2 locs_2 hT_2 hU_2 hS_2 => ?_)
  have hU_2 : AU 985 H H_2 (ρ a0 0) 288 (3) := hU_2
  exact th_vret E hr hlk hs hT_2 hS_2 hU_2 dX12_set_13
set_option maxHeartbeats 4000000 in
set_option maxRecDepth 100000 in
/-- the reference: number -/
theorem y_number_v4 (l : Launch) (D : va_G) (cI cS : ClassId) (τ : Nat → Option Nat) (ρ : Nat → Nat → Nat) (hW : WF τ ρ) (H : Heap) (hT : TH D cI cS τ ρ H) (a0 : Nat) (ha0 : τ a0 = some 12) : MI l D cI cS τ ρ yX12_number cX12_number 3 (some .int) 0 0 H [.ref a0, .int 1, .int 0] (fun (r : Int32) (u : Heap) => (H = u)) (fun q => False) := by
  refine MI.of (by decide) (Nat.le_of_ble_eq_true rfl) ?_
  intro p e s m args below meth c E hml hr hlk hs ls hl
  have hx := E.1
  have hb := E.2.1
  have hown := E.2.2.1
  have hts := E.2.2.2.1
  have hS : SS (fun q => False) H H [] := SS.rf
  have hl : lv_has ls 3 [(0, .ref a0), (1, .int 1), (2, .int 0)] := hl
  refine lv_aload_n hx hb dX12_number_0 rfl (lv_at hl 0 rfl) ?_
  refine gf_X12_35 E hT hW ha0 dX12_number_1 (fun h_1 => ?_)
  refine lv_iload_n hx hb dX12_number_4 rfl (lv_at hl 1 rfl) ?_
  refine th_iald E hT h_1 (by decide) (vp_in_iff.mpr ⟨by decide, by decide⟩) dX12_number_5 ?_
  refine th_topi (y := ai H (ρ a0 9) 1) rfl ?_
  refine lv_topi (fun x_2 ex_2 => ?_)
  have c_x_2 := congrArg Int32.toInt ex_2.symm
  refine lv_iload_n hx hb dX12_number_6 rfl (lv_at hl 2 rfl) ?_
  refine lv_iadd hx hb dX12_number_7 ?_
  refine lv_topi (fun x_3 ex_3 => ?_)
  have q_x_3 : x_3.toInt = x_2.toInt + 0 := i_add (k := 0) (by decide) ex_3.symm (by have := i_min x_2; omega) (by have := i_max x_2; omega)
  refine lv_sipush (v := 256) hx hb dX12_number_8 (by decide) ?_
  refine lv_irem hx hb dX12_number_11 (by decide) ?_
  refine lv_topi (fun x_4 ex_4 => ?_)
  have q_4 := i_rem (k := 256) (x := x_3) (by decide) (by decide) ex_4
  exact th_iret E hr hlk hs hT hS rfl dX12_number_12
set_option maxHeartbeats 4000000 in
set_option maxRecDepth 100000 in
/-- the reference: nextHeld -/
theorem y_nextHeld_v3 (l : Launch) (D : va_G) (cI cS : ClassId) (τ : Nat → Option Nat) (ρ : Nat → Nat → Nat) (hW : WF τ ρ) (H : Heap) (hT : TH D cI cS τ ρ H) (a0 : Nat) (x1 : Int32) (ha0 : τ a0 = some 12) (N : Int) (hN0 : 0 ≤ N) (hN1 : N ≤ 600) (hI : IM D ρ N H a0) (hp0 : 0 ≤ x1.toInt ∧ x1.toInt ≤ 700) : MI l D cI cS τ ρ yX12_nextHeld cX12_nextHeld 5 (some .int) 2 44 H [.ref a0, .int 1, .int x1, .int 1] (fun (r : Int32) (u : Heap) => (H = u) ∧ (r.toInt = -4 ∨ (x1.toInt ≤ r.toInt ∧ r.toInt < (ai H (ρ a0 0) 295).toInt ∧ heldP 288 H (ρ a0 0) r)) ∧ (-4 ≤ r.toInt ∧ r.toInt ≤ 700)) (fun q => False) := by
  refine MI.of (by decide) (Nat.le_of_ble_eq_true rfl) ?_
  intro p e s m args below meth c E hml hr hlk hs ls hl
  have hx := E.1
  have hb := E.2.1
  have hown := E.2.2.1
  have hts := E.2.2.2.1
  have hS : SS (fun q => False) H H [] := SS.rf
  have hl : lv_has ls 5 [(0, .ref a0), (1, .int 1), (2, .int x1), (3, .int 1)] := hl
  have n01 := hI.2.2.2.2.2.1
  have n23 := hI.2.2.2.2.2.2.1
  have L_3 : ∀ (n : Nat) (lc_c3 : List Loc) (ls : Array Slot) (y3_4 : Int32), SS (fun q => False) H H lc_c3 → lv_has ls 5 [(0, .ref a0), (1, .int 1), (2, .int x1), (3, .int 1), (4, .int y3_4)] → 0 ≤ x1.toInt → x1.toInt ≤ 700 → 0 ≤ y3_4.toInt → y3_4.toInt ≤ 700 → x1.toInt ≤ y3_4.toInt → ((ai H (ρ a0 0) 295).toInt - y3_4.toInt).toNat < n → W p l e (rmO 2 44) s m args below meth c H lc_c3 0 0 (MQ below (va_Qi (fun (r : Int32) (u : Heap) => (H = u) ∧ (r.toInt = -4 ∨ (x1.toInt ≤ r.toInt ∧ r.toInt < (ai H (ρ a0 0) 295).toInt ∧ heldP 288 H (ρ a0 0) r)) ∧ (-4 ≤ r.toInt ∧ r.toInt ≤ 700)) (Bt D cI cS τ ρ H) (fun q => False)) args s 0 0 (fun q => False)) (F0 m 3 ls []) := by
    intro n
    induction n with
    | zero => intro lc_c3 ls y3_4 hS_c3 hl ly3_2 uy3_2 ly3_4 uy3_4 hx3_0 hm; exact absurd hm (Nat.not_lt_zero _)
    | succ n ih_3 =>
      intro lc_c3 ls y3_4 hS_c3 hl ly3_2 uy3_2 ly3_4 uy3_4 hx3_0 hm_3
      refine lv_iload hx hb dX12_nextHeld_3 (lv_at hl 4 rfl) ?_
      refine lv_aload_n hx hb dX12_nextHeld_5 rfl (lv_at hl 0 rfl) ?_
      refine lv_iload_n hx hb dX12_nextHeld_6 rfl (lv_at hl 1 rfl) ?_
      refine lv_bipush (v := 7) hx hb dX12_nextHeld_7 (by decide) ?_
      refine th_Vi (As := [.int 1, .int 7]) (rest := [.int y3_4]) E hml hl.1 (y_get_v19 l D cI cS τ ρ hW H hT a0 ha0) lk_X12_99 yd_X12_get hT ha0 rfl (by decide) hS_c3 (fun _ h => h.elim) ⟨by decide, by decide⟩ (Nat.le_of_ble_eq_true rfl) ⟨by decide, by decide⟩ rfl dX12_nextHeld_9 (fun r_1 H_1 locs_1 p_1 hT_1 hk_1 hS_1 => ?_)
      have p_1 : H = H_1 ∧ (ai H (ρ a0 0) 295 = r_1) := p_1
      obtain ⟨rfl, p_1_0⟩ := p_1
      have b_r_1 : 0 ≤ r_1.toInt ∧ r_1.toInt ≤ N + 33 := by rw [← p_1_0]; exact hI.1 295 (by decide)
      have c_r_1 := congrArg Int32.toInt p_1_0
      refine lv_icmp_ge (tgt := 32) hx hb dX12_nextHeld_12 (by decide) (fun c_2 => ?_) (fun c_2 => ?_)
      · have f_2 : r_1.toInt ≤ y3_4.toInt := r_le rfl rfl c_2
        refine lv_iload_n hx hb dX12_nextHeld_32 rfl (lv_at hl 3 rfl) ?_
        refine lv_if_eq (tgt := 53) hx hb dX12_nextHeld_33 (by decide) (fun c_3 => absurd c_3 (by decide)) (fun c_3 => ?_)
        refine lv_iload hx hb dX12_nextHeld_36 (lv_at hl 4 rfl) ?_
        refine lv_aload_n hx hb dX12_nextHeld_38 rfl (lv_at hl 0 rfl) ?_
        refine lv_iload_n hx hb dX12_nextHeld_39 rfl (lv_at hl 1 rfl) ?_
        refine lv_bipush (v := 7) hx hb dX12_nextHeld_40 (by decide) ?_
        refine th_Vi (As := [.int 1, .int 7]) (rest := [.int y3_4]) E hml hl.1 (y_get_v19 l D cI cS τ ρ hW H hT_1 a0 ha0) lk_X12_99 yd_X12_get hT_1 ha0 rfl (by decide) hS_1 (fun _ h => h.elim) ⟨by decide, by decide⟩ (Nat.le_of_ble_eq_true rfl) ⟨by decide, by decide⟩ rfl dX12_nextHeld_42 (fun r_4 H_4 locs_4 p_4 hT_4 hk_4 hS_4 => ?_)
        have p_4 : H = H_4 ∧ (ai H (ρ a0 0) 295 = r_4) := p_4
        obtain ⟨rfl, p_4_0⟩ := p_4
        have s_4 : r_4 = r_1 := p_4_0.symm.trans p_1_0
        refine th_topi s_4 ?_
        refine lv_icmp_lt (tgt := 53) hx hb dX12_nextHeld_45 (by decide) (fun c_5 => ?_) (fun c_5 => ?_)
        · have f_5 : y3_4.toInt < r_1.toInt := r_lt rfl rfl c_5
          refine lv_iload hx hb dX12_nextHeld_53 (lv_at hl 4 rfl) ?_
          exact th_iret E hr hlk hs hT_4 hS_4 ⟨rfl, (Or.inr ⟨by omega, by first | omega | (exfalso; omega), by first | (exfalso; omega) | (rcases trivial with h | h; exact h.2; exfalso; omega)⟩), (by omega)⟩ dX12_nextHeld_55
        · have f_5 : r_1.toInt ≤ y3_4.toInt := r_nlt rfl rfl c_5
          refine lv_bipush (v := (-4)) hx hb dX12_nextHeld_48 (by decide) ?_
          refine lv_goto (tgt := 55) hx hb dX12_nextHeld_50 (by decide) ?_
          exact th_iret E hr hlk hs hT_4 hS_4 ⟨rfl, (Or.inl (by decide)), (by have : ((-4) : Int32).toInt = -4 := (by decide); omega)⟩ dX12_nextHeld_55
      · have f_2 : y3_4.toInt < r_1.toInt := r_nle rfl rfl c_2
        refine lv_aload_n hx hb dX12_nextHeld_15 rfl (lv_at hl 0 rfl) ?_
        refine lv_iload_n hx hb dX12_nextHeld_16 rfl (lv_at hl 1 rfl) ?_
        refine lv_iload hx hb dX12_nextHeld_17 (lv_at hl 4 rfl) ?_
        refine th_Vi (As := [.int 1, .int y3_4]) (rest := []) E hml hl.1 (y_isHeld l D cI cS τ ρ hW H hT_1 a0 y3_4 ha0 (by omega)) lk_X12_118 yd_X12_isHeld hT_1 ha0 rfl (by decide) hS_1 (fun _ h => h.elim) ⟨by decide, by decide⟩ (Nat.le_of_ble_eq_true rfl) ⟨by decide, by decide⟩ rfl dX12_nextHeld_19 (fun r_6 H_6 locs_6 p_6 hT_6 hk_6 hS_6 => ?_)
        have p_6 : H = H_6 ∧ (r_6 = 0 ∨ r_6 = 1) ∧ ((r_6.toInt = 1 ∧ heldP 288 H (ρ a0 0) y3_4) ∨ (r_6.toInt = 0 ∧ ¬ heldP 288 H (ρ a0 0) y3_4)) := p_6
        obtain ⟨rfl, p_6_0, p_6_1⟩ := p_6
        have z_6 := b_iv p_6_0
        refine lv_iload_n hx hb dX12_nextHeld_22 rfl (lv_at hl 3 rfl) ?_
        refine lv_icmp_eq (tgt := 32) hx hb dX12_nextHeld_23 (by decide) (fun c_7 => ?_) (fun c_7 => ?_)
        · have f_7 : r_6.toInt = 1 := r_eq rfl (by decide) c_7
          refine lv_iload_n hx hb dX12_nextHeld_32 rfl (lv_at hl 3 rfl) ?_
          refine lv_if_eq (tgt := 53) hx hb dX12_nextHeld_33 (by decide) (fun c_8 => absurd c_8 (by decide)) (fun c_8 => ?_)
          refine lv_iload hx hb dX12_nextHeld_36 (lv_at hl 4 rfl) ?_
          refine lv_aload_n hx hb dX12_nextHeld_38 rfl (lv_at hl 0 rfl) ?_
          refine lv_iload_n hx hb dX12_nextHeld_39 rfl (lv_at hl 1 rfl) ?_
          refine lv_bipush (v := 7) hx hb dX12_nextHeld_40 (by decide) ?_
          refine th_Vi (As := [.int 1, .int 7]) (rest := [.int y3_4]) E hml hl.1 (y_get_v19 l D cI cS τ ρ hW H hT_6 a0 ha0) lk_X12_99 yd_X12_get hT_6 ha0 rfl (by decide) hS_6 (fun _ h => h.elim) ⟨by decide, by decide⟩ (Nat.le_of_ble_eq_true rfl) ⟨by decide, by decide⟩ rfl dX12_nextHeld_42 (fun r_9 H_9 locs_9 p_9 hT_9 hk_9 hS_9 => ?_)
          have p_9 : H = H_9 ∧ (ai H (ρ a0 0) 295 = r_9) := p_9
          obtain ⟨rfl, p_9_0⟩ := p_9
          have s_9 : r_9 = r_1 := p_9_0.symm.trans p_1_0
          refine th_topi s_9 ?_
          refine lv_icmp_lt (tgt := 53) hx hb dX12_nextHeld_45 (by decide) (fun c_10 => ?_) (fun c_10 => ?_)
          · have f_10 : y3_4.toInt < r_1.toInt := r_lt rfl rfl c_10
            refine lv_iload hx hb dX12_nextHeld_53 (lv_at hl 4 rfl) ?_
            exact th_iret E hr hlk hs hT_9 hS_9 ⟨rfl, (Or.inr ⟨by omega, by first | omega | (exfalso; omega), by first | (exfalso; omega) | (rcases p_6_1 with h | h; exact h.2; exfalso; omega)⟩), (by omega)⟩ dX12_nextHeld_55
          · have f_10 : r_1.toInt ≤ y3_4.toInt := r_nlt rfl rfl c_10
            refine lv_bipush (v := (-4)) hx hb dX12_nextHeld_48 (by decide) ?_
            refine lv_goto (tgt := 55) hx hb dX12_nextHeld_50 (by decide) ?_
            exact th_iret E hr hlk hs hT_9 hS_9 ⟨rfl, (Or.inl (by decide)), (by have : ((-4) : Int32).toInt = -4 := (by decide); omega)⟩ dX12_nextHeld_55
        · have f_7 : ¬ r_6.toInt = 1 := r_ne rfl (by decide) c_7
          obtain ⟨x_11, ex_11⟩ : ∃ y : Int32, y3_4 + 1 = y := ⟨_, rfl⟩
          have q_x_11 : x_11.toInt = y3_4.toInt + 1 := i_add (k := 1) (by decide) ex_11 (by have := i_min y3_4; omega) (by have := i_max y3_4; omega)
          refine lv_iinc (v := x_11) (lv' := [(4, .int x_11), (0, .ref a0), (1, .int 1), (2, .int x1), (3, .int 1)]) hx hb dX12_nextHeld_26 hl (k := 4) rfl (by rw [← ex_11]; rfl) (by decide) rfl (fun ls hl => ?_)
          refine lv_goto (tgt := 3) hx hb dX12_nextHeld_29 (by decide) ?_
          exact ih_3 locs_6 _ x_11 hS_6 (lv_sub hl [1, 2, 3, 4, 0] rfl) (by omega) (by omega) (by omega) (by omega) (by omega) (by omega)
  refine lv_iload_n hx hb dX12_nextHeld_0 rfl (lv_at hl 2 rfl) ?_
  refine lv_istore (lv' := [(4, .int x1), (0, .ref a0), (1, .int 1), (2, .int x1), (3, .int 1)]) hx hb dX12_nextHeld_1 hl (by decide) rfl (fun ls hl => ?_)
  exact L_3 _ [] _ x1 hS (lv_sub hl [1, 2, 3, 4, 0] rfl) (by omega) (by omega) (by omega) (by omega) (by omega) (Nat.lt_succ_self _)
set_option maxHeartbeats 4000000 in
set_option maxRecDepth 100000 in
/-- the reference: nextHeld -/
theorem y_nextHeld_v4 (l : Launch) (D : va_G) (cI cS : ClassId) (τ : Nat → Option Nat) (ρ : Nat → Nat → Nat) (hW : WF τ ρ) (H : Heap) (hT : TH D cI cS τ ρ H) (a0 : Nat) (x1 : Int32) (ha0 : τ a0 = some 12) (N : Int) (hN0 : 0 ≤ N) (hN1 : N ≤ 600) (hI : IM D ρ N H a0) (hp0 : 0 ≤ x1.toInt ∧ x1.toInt ≤ 700) : MI l D cI cS τ ρ yX12_nextHeld cX12_nextHeld 5 (some .int) 2 44 H [.ref a0, .int 1, .int x1, .int 0] (fun (r : Int32) (u : Heap) => (H = u) ∧ (x1.toInt ≤ r.toInt ∧ r.toInt ≤ 700) ∧ ((x1.toInt < (ai H (ρ a0 0) 295).toInt ∧ heldP 288 H (ρ a0 0) x1) → x1.toInt + 1 ≤ r.toInt)) (fun q => False) := by
  refine MI.of (by decide) (Nat.le_of_ble_eq_true rfl) ?_
  intro p e s m args below meth c E hml hr hlk hs ls hl
  have hx := E.1
  have hb := E.2.1
  have hown := E.2.2.1
  have hts := E.2.2.2.1
  have hS : SS (fun q => False) H H [] := SS.rf
  have hl : lv_has ls 5 [(0, .ref a0), (1, .int 1), (2, .int x1), (3, .int 0)] := hl
  have n01 := hI.2.2.2.2.2.1
  have n23 := hI.2.2.2.2.2.2.1
  have L_3 : ∀ (n : Nat) (lc_c3 : List Loc) (ls : Array Slot) (y3_4 : Int32), SS (fun q => False) H H lc_c3 → lv_has ls 5 [(0, .ref a0), (1, .int 1), (2, .int x1), (3, .int 0), (4, .int y3_4)] → 0 ≤ x1.toInt → x1.toInt ≤ 700 → 0 ≤ y3_4.toInt → y3_4.toInt ≤ 700 → x1.toInt ≤ y3_4.toInt → ((ai H (ρ a0 0) 295).toInt - y3_4.toInt).toNat < n → W p l e (rmO 2 44) s m args below meth c H lc_c3 0 0 (MQ below (va_Qi (fun (r : Int32) (u : Heap) => (H = u) ∧ (x1.toInt ≤ r.toInt ∧ r.toInt ≤ 700) ∧ ((x1.toInt < (ai H (ρ a0 0) 295).toInt ∧ heldP 288 H (ρ a0 0) x1) → x1.toInt + 1 ≤ r.toInt)) (Bt D cI cS τ ρ H) (fun q => False)) args s 0 0 (fun q => False)) (F0 m 3 ls []) := by
    intro n
    induction n with
    | zero => intro lc_c3 ls y3_4 hS_c3 hl ly3_2 uy3_2 ly3_4 uy3_4 hx3_0 hm; exact absurd hm (Nat.not_lt_zero _)
    | succ n ih_3 =>
      intro lc_c3 ls y3_4 hS_c3 hl ly3_2 uy3_2 ly3_4 uy3_4 hx3_0 hm_3
      refine lv_iload hx hb dX12_nextHeld_3 (lv_at hl 4 rfl) ?_
      refine lv_aload_n hx hb dX12_nextHeld_5 rfl (lv_at hl 0 rfl) ?_
      refine lv_iload_n hx hb dX12_nextHeld_6 rfl (lv_at hl 1 rfl) ?_
      refine lv_bipush (v := 7) hx hb dX12_nextHeld_7 (by decide) ?_
      refine th_Vi (As := [.int 1, .int 7]) (rest := [.int y3_4]) E hml hl.1 (y_get_v19 l D cI cS τ ρ hW H hT a0 ha0) lk_X12_99 yd_X12_get hT ha0 rfl (by decide) hS_c3 (fun _ h => h.elim) ⟨by decide, by decide⟩ (Nat.le_of_ble_eq_true rfl) ⟨by decide, by decide⟩ rfl dX12_nextHeld_9 (fun r_1 H_1 locs_1 p_1 hT_1 hk_1 hS_1 => ?_)
      have p_1 : H = H_1 ∧ (ai H (ρ a0 0) 295 = r_1) := p_1
      obtain ⟨rfl, p_1_0⟩ := p_1
      have b_r_1 : 0 ≤ r_1.toInt ∧ r_1.toInt ≤ N + 33 := by rw [← p_1_0]; exact hI.1 295 (by decide)
      have c_r_1 := congrArg Int32.toInt p_1_0
      refine lv_icmp_ge (tgt := 32) hx hb dX12_nextHeld_12 (by decide) (fun c_2 => ?_) (fun c_2 => ?_)
      · have f_2 : r_1.toInt ≤ y3_4.toInt := r_le rfl rfl c_2
        refine lv_iload_n hx hb dX12_nextHeld_32 rfl (lv_at hl 3 rfl) ?_
        refine lv_if_eq (tgt := 53) hx hb dX12_nextHeld_33 (by decide) (fun c_3 => ?_) (fun c_3 => absurd (by decide) c_3)
        refine lv_iload hx hb dX12_nextHeld_53 (lv_at hl 4 rfl) ?_
        exact th_iret E hr hlk hs hT_1 hS_1 ⟨rfl, (by omega), (fun h => by first | omega | (exfalso; omega) | (by_cases q : y3_4.toInt = x1.toInt; exfalso; have e9 := Int32.toInt_inj.mp q; rw [e9] at trivial; rcases trivial with g | g; omega; exact g.2 h.2; omega))⟩ dX12_nextHeld_55
      · have f_2 : y3_4.toInt < r_1.toInt := r_nle rfl rfl c_2
        refine lv_aload_n hx hb dX12_nextHeld_15 rfl (lv_at hl 0 rfl) ?_
        refine lv_iload_n hx hb dX12_nextHeld_16 rfl (lv_at hl 1 rfl) ?_
        refine lv_iload hx hb dX12_nextHeld_17 (lv_at hl 4 rfl) ?_
        refine th_Vi (As := [.int 1, .int y3_4]) (rest := []) E hml hl.1 (y_isHeld l D cI cS τ ρ hW H hT_1 a0 y3_4 ha0 (by omega)) lk_X12_118 yd_X12_isHeld hT_1 ha0 rfl (by decide) hS_1 (fun _ h => h.elim) ⟨by decide, by decide⟩ (Nat.le_of_ble_eq_true rfl) ⟨by decide, by decide⟩ rfl dX12_nextHeld_19 (fun r_4 H_4 locs_4 p_4 hT_4 hk_4 hS_4 => ?_)
        have p_4 : H = H_4 ∧ (r_4 = 0 ∨ r_4 = 1) ∧ ((r_4.toInt = 1 ∧ heldP 288 H (ρ a0 0) y3_4) ∨ (r_4.toInt = 0 ∧ ¬ heldP 288 H (ρ a0 0) y3_4)) := p_4
        obtain ⟨rfl, p_4_0, p_4_1⟩ := p_4
        have z_4 := b_iv p_4_0
        refine lv_iload_n hx hb dX12_nextHeld_22 rfl (lv_at hl 3 rfl) ?_
        refine lv_icmp_eq (tgt := 32) hx hb dX12_nextHeld_23 (by decide) (fun c_5 => ?_) (fun c_5 => ?_)
        · have f_5 : r_4.toInt = 0 := r_eq rfl (by decide) c_5
          refine lv_iload_n hx hb dX12_nextHeld_32 rfl (lv_at hl 3 rfl) ?_
          refine lv_if_eq (tgt := 53) hx hb dX12_nextHeld_33 (by decide) (fun c_6 => ?_) (fun c_6 => absurd (by decide) c_6)
          refine lv_iload hx hb dX12_nextHeld_53 (lv_at hl 4 rfl) ?_
          exact th_iret E hr hlk hs hT_4 hS_4 ⟨rfl, (by omega), (fun h => by first | omega | (exfalso; omega) | (by_cases q : y3_4.toInt = x1.toInt; exfalso; have e9 := Int32.toInt_inj.mp q; rw [e9] at p_4_1; rcases p_4_1 with g | g; omega; exact g.2 h.2; omega))⟩ dX12_nextHeld_55
        · have f_5 : ¬ r_4.toInt = 0 := r_ne rfl (by decide) c_5
          have nz_r_4 : ¬ r_4 = 0 := c_5
          obtain ⟨x_7, ex_7⟩ : ∃ y : Int32, y3_4 + 1 = y := ⟨_, rfl⟩
          have q_x_7 : x_7.toInt = y3_4.toInt + 1 := i_add (k := 1) (by decide) ex_7 (by have := i_min y3_4; omega) (by have := i_max y3_4; omega)
          refine lv_iinc (v := x_7) (lv' := [(4, .int x_7), (0, .ref a0), (1, .int 1), (2, .int x1), (3, .int 0)]) hx hb dX12_nextHeld_26 hl (k := 4) rfl (by rw [← ex_7]; rfl) (by decide) rfl (fun ls hl => ?_)
          refine lv_goto (tgt := 3) hx hb dX12_nextHeld_29 (by decide) ?_
          exact ih_3 locs_4 _ x_7 hS_4 (lv_sub hl [1, 2, 3, 4, 0] rfl) (by omega) (by omega) (by omega) (by omega) (by omega) (by omega)
  refine lv_iload_n hx hb dX12_nextHeld_0 rfl (lv_at hl 2 rfl) ?_
  refine lv_istore (lv' := [(4, .int x1), (0, .ref a0), (1, .int 1), (2, .int x1), (3, .int 0)]) hx hb dX12_nextHeld_1 hl (by decide) rfl (fun ls hl => ?_)
  exact L_3 _ [] _ x1 hS (lv_sub hl [1, 2, 3, 4, 0] rfl) (by omega) (by omega) (by omega) (by omega) (by omega) (Nat.lt_succ_self _)
set_option maxHeartbeats 4000000 in
set_option maxRecDepth 100000 in
/-- the reference: spans -/
theorem y_spans_v2 (l : Launch) (D : va_G) (cI cS : ClassId) (τ : Nat → Option Nat) (ρ : Nat → Nat → Nat) (hW : WF τ ρ) (H : Heap) (hT : TH D cI cS τ ρ H) (a0 : Nat) (ha0 : τ a0 = some 12) (N : Int) (hN0 : 0 ≤ N) (hN1 : N ≤ 600) (hI : IM D ρ N H a0) : MV l D cI cS τ ρ yX12_spans cX12_spans 4 none 3 68 H [.ref a0, .int 1] (fun (u : Heap) => (IM D ρ N u a0) ∧ ((ai H (ρ a0 0) 976).toInt ≤ (ai u (ρ a0 0) 976).toInt)) (fun q => q = ρ a0 2) := by
  refine MV.of (by decide) (Nat.le_of_ble_eq_true rfl) ?_
  intro p e s m args below meth c E hml hr hlk hs ls hl
  have hx := E.1
  have hb := E.2.1
  have hown := E.2.2.1
  have hts := E.2.2.2.1
  have hS : SS (fun q => q = ρ a0 2) H H [] := SS.rf
  have hl : lv_has ls 4 [(0, .ref a0), (1, .int 1)] := hl
  have n01 := hI.2.2.2.2.2.1
  have n23 := hI.2.2.2.2.2.2.1
  have L_13 : ∀ (n : Nat) (H_c13 : Heap) (lc_c13 : List Loc) (ls : Array Slot) (y13_2 : Int32) (g13_0 : Int32), TH D cI cS τ ρ H_c13 → SS (fun q => q = ρ a0 2) H H_c13 lc_c13 → lv_has ls 4 [(0, .ref a0), (1, .int 1), (2, .int y13_2)] → -4 ≤ y13_2.toInt → y13_2.toInt ≤ 700 → ai H_c13 (ρ a0 2) 6 = g13_0 → IM D ρ N H_c13 a0 → (ai H (ρ a0 0) 976).toInt ≤ (ai H_c13 (ρ a0 0) 976).toInt → y13_2.toInt = -4 ∨ 0 ≤ y13_2.toInt → (2 - g13_0.toInt).toNat < n → W p l e (rmO 3 68) s m args below meth c H_c13 lc_c13 0 0 (MQ below (va_Qv (fun (u : Heap) => (IM D ρ N u a0) ∧ ((ai H (ρ a0 0) 976).toInt ≤ (ai u (ρ a0 0) 976).toInt)) (Bt D cI cS τ ρ H) (fun q => q = ρ a0 2)) args s 0 0 (fun q => q = ρ a0 2)) (F0 m 13 ls []) := by
    intro n
    induction n with
    | zero => intro H_c13 lc_c13 ls y13_2 g13_0 hT_c13 hS_c13 hl ly13_2 uy13_2 hg13_0 hI_c13 hmn_c13 hx13_0 hm; exact absurd hm (Nat.not_lt_zero _)
    | succ n ih_13 =>
      intro H_c13 lc_c13 ls y13_2 g13_0 hT_c13 hS_c13 hl ly13_2 uy13_2 hg13_0 hI_c13 hmn_c13 hx13_0 hm_13
      have bb_g13_0 : 0 ≤ g13_0.toInt ∧ g13_0.toInt ≤ 2 := by rw [← hg13_0]; exact hI_c13.2.2.2.1 6 (by decide)
      have cg_g13_0 := congrArg Int32.toInt hg13_0
      refine lv_iload_n hx hb dX12_spans_13 rfl (lv_at hl 2 rfl) ?_
      refine lv_bipush (v := (-4)) hx hb dX12_spans_14 (by decide) ?_
      refine lv_icmp_eq (tgt := 112) hx hb dX12_spans_16 (by decide) (fun c_1 => ?_) (fun c_1 => ?_)
      · have f_1 : y13_2.toInt = -4 := r_eq rfl (by decide) c_1
        exact th_vret E hr hlk hs hT_c13 hS_c13 ⟨⟨hI_c13.1, hI_c13.2.1, hI_c13.2.2.1, hI_c13.2.2.2.1, hI_c13.2.2.2.2.1, hI_c13.2.2.2.2.2⟩, (by omega)⟩ dX12_spans_112
      · have f_1 : ¬ y13_2.toInt = -4 := r_ne rfl (by decide) c_1
        refine lv_aload_n hx hb dX12_spans_19 rfl (lv_at hl 0 rfl) ?_
        refine gf_X12_16 E hT_c13 hW ha0 dX12_spans_20 (fun h_2 => ?_)
        refine lv_bipush (v := 6) hx hb dX12_spans_23 (by decide) ?_
        refine th_iald E hT_c13 h_2 (by decide) (vp_in_iff.mpr ⟨by decide, by decide⟩) dX12_spans_25 ?_
        refine th_topi (y := ai H_c13 (ρ a0 2) 6) rfl ?_
        refine th_topi (y := g13_0) hg13_0 ?_
        refine lv_iconst (v := 2) hx hb dX12_spans_26 (by decide) ?_
        refine lv_icmp_ge (tgt := 112) hx hb dX12_spans_27 (by decide) (fun c_4 => ?_) (fun c_4 => ?_)
        · have f_4 : 2 ≤ g13_0.toInt := r_le (by decide) rfl c_4
          exact th_vret E hr hlk hs hT_c13 hS_c13 ⟨⟨hI_c13.1, hI_c13.2.1, hI_c13.2.2.1, hI_c13.2.2.2.1, hI_c13.2.2.2.2.1, hI_c13.2.2.2.2.2⟩, (by omega)⟩ dX12_spans_112
        · have f_4 : g13_0.toInt < 2 := r_nle (by decide) rfl c_4
          refine lv_aload_n hx hb dX12_spans_30 rfl (lv_at hl 0 rfl) ?_
          refine lv_iload_n hx hb dX12_spans_31 rfl (lv_at hl 1 rfl) ?_
          refine lv_iload_n hx hb dX12_spans_32 rfl (lv_at hl 2 rfl) ?_
          refine lv_iconst (v := 0) hx hb dX12_spans_33 (by decide) ?_
          refine th_Vi (As := [.int 1, .int y13_2, .int 0]) (rest := []) E hml hl.1 (y_nextHeld_v4 l D cI cS τ ρ hW H_c13 hT_c13 a0 y13_2 ha0 N hN0 hN1 ⟨hI_c13.1, hI_c13.2.1, hI_c13.2.2.1, hI_c13.2.2.2.1, hI_c13.2.2.2.2.1, hI_c13.2.2.2.2.2⟩ (by omega)) lk_X12_122 yd_X12_nextHeld hT_c13 ha0 rfl (by decide) hS_c13 (fun _ h => h.elim) ⟨by decide, by decide⟩ (Nat.le_of_ble_eq_true rfl) ⟨by decide, by decide⟩ rfl dX12_spans_34 (fun r_5 H_5 locs_5 p_5 hT_5 hk_5 hS_5 => ?_)
          have p_5 : H_c13 = H_5 ∧ (y13_2.toInt ≤ r_5.toInt ∧ r_5.toInt ≤ 700) ∧ ((y13_2.toInt < (ai H_c13 (ρ a0 0) 295).toInt ∧ heldP 288 H_c13 (ρ a0 0) y13_2) → y13_2.toInt + 1 ≤ r_5.toInt) := p_5
          obtain ⟨rfl, p_5_0, p_5_1⟩ := p_5
          refine lv_istore_n (lv' := [(3, .int r_5), (0, .ref a0), (1, .int 1), (2, .int y13_2)]) hx hb dX12_spans_37 rfl hl (by decide) rfl (fun ls hl => ?_)
          refine lv_aload_n hx hb dX12_spans_38 rfl (lv_at hl 1 rfl) ?_
          refine gf_X12_16 E hT_5 hW ha0 dX12_spans_39 (fun h_6 => ?_)
          refine lv_bipush (v := 8) hx hb dX12_spans_42 (by decide) ?_
          refine lv_iconst (v := 2) hx hb dX12_spans_44 (by decide) ?_
          refine lv_aload_n hx hb dX12_spans_45 rfl (lv_at hl 1 rfl) ?_
          refine gf_X12_16 E hT_5 hW ha0 dX12_spans_46 (fun h_7 => ?_)
          refine lv_bipush (v := 6) hx hb dX12_spans_49 (by decide) ?_
          refine th_iald E hT_5 h_7 (by decide) (vp_in_iff.mpr ⟨by decide, by decide⟩) dX12_spans_51 ?_
          refine th_topi (y := ai H_c13 (ρ a0 2) 6) rfl ?_
          refine th_topi (y := g13_0) hg13_0 ?_
          refine lv_imul hx hb dX12_spans_52 ?_
          refine lv_topi (fun x_9 ex_9 => ?_)
          have q_9 : x_9.toInt = 2 * g13_0.toInt := i_ml (by decide) rfl ex_9 (by omega) (by omega)
          refine lv_iadd hx hb dX12_spans_53 ?_
          refine lv_topi (fun x_10 ex_10 => ?_)
          have q_10 : x_10.toInt = 8 + x_9.toInt := i_pl (by decide) rfl ex_10 (by omega) (by omega)
          refine lv_aload_n hx hb dX12_spans_54 rfl (lv_at hl 1 rfl) ?_
          refine lv_iconst (v := 1) hx hb dX12_spans_55 (by decide) ?_
          refine lv_iload_n hx hb dX12_spans_56 rfl (lv_at hl 2 rfl) ?_
          refine lv_isub hx hb dX12_spans_57 ?_
          refine th_topi (y := 0) (by decide) ?_
          refine lv_iload_n hx hb dX12_spans_58 rfl (lv_at hl 3 rfl) ?_
          refine th_Vi (As := [.int 0, .int y13_2]) (rest := [.int x_10, .ref (ρ a0 2)]) E hml hl.1 (y_number_v3 l D cI cS τ ρ hW H_c13 hT_5 a0 y13_2 ha0) lk_X12_112 yd_X12_number hT_5 ha0 rfl (by decide) hS_5 (fun _ h => h.elim) ⟨by decide, by decide⟩ (Nat.le_of_ble_eq_true rfl) ⟨by decide, by decide⟩ rfl dX12_spans_59 (fun r_11 H_11 locs_11 p_11 hT_11 hk_11 hS_11 => ?_)
          have p_11 : H_c13 = H_11 := p_11
          obtain rfl := p_11
          refine th_iast E hT_11 hS_11 h_6 rfl (by decide) (vp_in_iff.mpr ⟨by omega, by omega⟩) dX12_spans_62 (fun H_12 locs_12 hT_12 hU_12 hS_12 => ?_)
          have hU_12 : AU 20 H_c13 H_12 (ρ a0 2) x_10.toInt.toNat r_11 := hU_12
          have hL_12 : PL H_12 (ρ a0 2) := PL.free hI_c13.2.2.2.1 hU_12 (by omega)
          refine lv_aload_n hx hb dX12_spans_63 rfl (lv_at hl 1 rfl) ?_
          refine gf_X12_16 E hT_12 hW ha0 dX12_spans_64 (fun h_13 => ?_)
          refine lv_bipush (v := 8) hx hb dX12_spans_67 (by decide) ?_
          refine lv_iconst (v := 2) hx hb dX12_spans_69 (by decide) ?_
          refine lv_aload_n hx hb dX12_spans_70 rfl (lv_at hl 1 rfl) ?_
          refine gf_X12_16 E hT_12 hW ha0 dX12_spans_71 (fun h_14 => ?_)
          refine lv_bipush (v := 6) hx hb dX12_spans_74 (by decide) ?_
          refine th_iald E hT_12 h_14 (by decide) (vp_in_iff.mpr ⟨by decide, by decide⟩) dX12_spans_76 ?_
          refine th_topi (y := ai H_12 (ρ a0 2) 6) rfl ?_
          refine th_topi (y := g13_0) (Eq.trans (AU.o hU_12 (by decide) (by omega)) hg13_0) ?_
          refine lv_imul hx hb dX12_spans_77 ?_
          refine lv_topi (fun x_16 ex_16 => ?_)
          have q_16 : x_16.toInt = 2 * g13_0.toInt := i_ml (by decide) rfl ex_16 (by omega) (by omega)
          refine lv_iadd hx hb dX12_spans_78 ?_
          refine lv_topi (fun x_17 ex_17 => ?_)
          have q_17 : x_17.toInt = 8 + x_16.toInt := i_pl (by decide) rfl ex_17 (by omega) (by omega)
          refine lv_iconst (v := 1) hx hb dX12_spans_79 (by decide) ?_
          refine lv_iadd hx hb dX12_spans_80 ?_
          refine lv_topi (fun x_18 ex_18 => ?_)
          have q_18 : x_18.toInt = x_17.toInt + 1 := i_pl rfl (by decide) ex_18 (by omega) (by omega)
          refine lv_aload_n hx hb dX12_spans_81 rfl (lv_at hl 1 rfl) ?_
          refine lv_iconst (v := 1) hx hb dX12_spans_82 (by decide) ?_
          refine lv_iload_n hx hb dX12_spans_83 rfl (lv_at hl 2 rfl) ?_
          refine lv_isub hx hb dX12_spans_84 ?_
          refine th_topi (y := 0) (by decide) ?_
          refine lv_iload_n hx hb dX12_spans_85 rfl (lv_at hl 0 rfl) ?_
          refine th_Vi (As := [.int 0, .int r_5]) (rest := [.int x_18, .ref (ρ a0 2)]) E hml hl.1 (y_number_v3 l D cI cS τ ρ hW H_12 hT_12 a0 r_5 ha0) lk_X12_112 yd_X12_number hT_12 ha0 rfl (by decide) hS_12 (fun _ h => h.elim) ⟨by decide, by decide⟩ (Nat.le_of_ble_eq_true rfl) ⟨by decide, by decide⟩ rfl dX12_spans_86 (fun r_19 H_19 locs_19 p_19 hT_19 hk_19 hS_19 => ?_)
          have p_19 : H_12 = H_19 := p_19
          obtain rfl := p_19
          refine th_iast E hT_19 hS_19 h_13 rfl (by decide) (vp_in_iff.mpr ⟨by omega, by omega⟩) dX12_spans_89 (fun H_20 locs_20 hT_20 hU_20 hS_20 => ?_)
          have hU_20 : AU 20 H_12 H_20 (ρ a0 2) x_18.toInt.toNat r_19 := hU_20
          have hL_20 : PL H_20 (ρ a0 2) := PL.free hL_12 hU_20 (by omega)
          refine lv_aload_n hx hb dX12_spans_90 rfl (lv_at hl 1 rfl) ?_
          refine gf_X12_16 E hT_20 hW ha0 dX12_spans_91 (fun h_21 => ?_)
          refine lv_bipush (v := 6) hx hb dX12_spans_94 (by decide) ?_
          refine lv_dup2_11 hx hb dX12_spans_96 rfl rfl ?_
          refine th_iald E hT_20 h_21 (by decide) (vp_in_iff.mpr ⟨by decide, by decide⟩) dX12_spans_97 ?_
          refine th_topi (y := ai H_20 (ρ a0 2) 6) rfl ?_
          refine th_topi (y := g13_0) (Eq.trans (AU.o hU_20 (by decide) (by omega)) (Eq.trans (AU.o hU_12 (by decide) (by omega)) hg13_0)) ?_
          refine lv_iconst (v := 1) hx hb dX12_spans_98 (by decide) ?_
          refine lv_iadd hx hb dX12_spans_99 ?_
          refine lv_topi (fun x_23 ex_23 => ?_)
          have q_23 : x_23.toInt = g13_0.toInt + 1 := i_pl rfl (by decide) ex_23 (by omega) (by omega)
          refine th_iast E hT_20 hS_20 h_21 rfl (by decide) (vp_in_iff.mpr ⟨by decide, by decide⟩) dX12_spans_100 (fun H_24 locs_24 hT_24 hU_24 hS_24 => ?_)
          have hU_24 : AU 20 H_20 H_24 (ρ a0 2) 6 x_23 := hU_24
          have hL_24 : PL H_24 (ρ a0 2) := PL.put hL_20 hU_24 (by show (0 : Int) ≤ x_23.toInt; omega) (by show x_23.toInt ≤ (2 : Int); omega)
          refine lv_aload_n hx hb dX12_spans_101 rfl (lv_at hl 1 rfl) ?_
          refine lv_iload_n hx hb dX12_spans_102 rfl (lv_at hl 2 rfl) ?_
          refine lv_iload_n hx hb dX12_spans_103 rfl (lv_at hl 0 rfl) ?_
          refine lv_iconst (v := 1) hx hb dX12_spans_104 (by decide) ?_
          refine th_Vi (As := [.int 1, .int r_5, .int 1]) (rest := []) E hml hl.1 (y_nextHeld_v3 l D cI cS τ ρ hW H_24 hT_24 a0 r_5 ha0 N hN0 hN1 ⟨(PW.q (hU_24.2 _ (th_ne (hW _ 12 0 ha0 (by decide) (by decide) (by decide)) (hW _ 12 2 ha0 (by decide) (by decide) (by decide)) (by decide))) (PW.q (hU_20.2 _ (th_ne (hW _ 12 0 ha0 (by decide) (by decide) (by decide)) (hW _ 12 2 ha0 (by decide) (by decide) (by decide)) (by decide))) (PW.q (hU_12.2 _ (th_ne (hW _ 12 0 ha0 (by decide) (by decide) (by decide)) (hW _ 12 2 ha0 (by decide) (by decide) (by decide)) (by decide))) hI_c13.1))), (QS.same (Eq.trans (ai_q (hU_24.2 _ (th_ne (hW _ 12 0 ha0 (by decide) (by decide) (by decide)) (hW _ 12 2 ha0 (by decide) (by decide) (by decide)) (by decide)))) (Eq.trans (ai_q (hU_20.2 _ (th_ne (hW _ 12 0 ha0 (by decide) (by decide) (by decide)) (hW _ 12 2 ha0 (by decide) (by decide) (by decide)) (by decide)))) (ai_q (hU_12.2 _ (th_ne (hW _ 12 0 ha0 (by decide) (by decide) (by decide)) (hW _ 12 2 ha0 (by decide) (by decide) (by decide)) (by decide)))))) (Eq.trans (ai_q (hU_24.2 _ (th_ne (hW _ 12 0 ha0 (by decide) (by decide) (by decide)) (hW _ 12 2 ha0 (by decide) (by decide) (by decide)) (by decide)))) (Eq.trans (ai_q (hU_20.2 _ (th_ne (hW _ 12 0 ha0 (by decide) (by decide) (by decide)) (hW _ 12 2 ha0 (by decide) (by decide) (by decide)) (by decide)))) (ai_q (hU_12.2 _ (th_ne (hW _ 12 0 ha0 (by decide) (by decide) (by decide)) (hW _ 12 2 ha0 (by decide) (by decide) (by decide)) (by decide)))))) hI_c13.2.1), (QS.same (Eq.trans (ai_q (hU_24.2 _ (th_ne (hW _ 12 0 ha0 (by decide) (by decide) (by decide)) (hW _ 12 2 ha0 (by decide) (by decide) (by decide)) (by decide)))) (Eq.trans (ai_q (hU_20.2 _ (th_ne (hW _ 12 0 ha0 (by decide) (by decide) (by decide)) (hW _ 12 2 ha0 (by decide) (by decide) (by decide)) (by decide)))) (ai_q (hU_12.2 _ (th_ne (hW _ 12 0 ha0 (by decide) (by decide) (by decide)) (hW _ 12 2 ha0 (by decide) (by decide) (by decide)) (by decide)))))) (Eq.trans (ai_q (hU_24.2 _ (th_ne (hW _ 12 0 ha0 (by decide) (by decide) (by decide)) (hW _ 12 2 ha0 (by decide) (by decide) (by decide)) (by decide)))) (Eq.trans (ai_q (hU_20.2 _ (th_ne (hW _ 12 0 ha0 (by decide) (by decide) (by decide)) (hW _ 12 2 ha0 (by decide) (by decide) (by decide)) (by decide)))) (ai_q (hU_12.2 _ (th_ne (hW _ 12 0 ha0 (by decide) (by decide) (by decide)) (hW _ 12 2 ha0 (by decide) (by decide) (by decide)) (by decide)))))) hI_c13.2.2.1), hL_24, (PL.q (hU_24.2 _ (Ne.symm n23)) (PL.q (hU_20.2 _ (Ne.symm n23)) (PL.q (hU_12.2 _ (Ne.symm n23)) hI_c13.2.2.2.2.1))), (IF.q (hU_24.2 _ (th_ne ha0 (hW _ 12 2 ha0 (by decide) (by decide) (by decide)) (by decide))) (IF.q (hU_20.2 _ (th_ne ha0 (hW _ 12 2 ha0 (by decide) (by decide) (by decide)) (by decide))) (IF.q (hU_12.2 _ (th_ne ha0 (hW _ 12 2 ha0 (by decide) (by decide) (by decide)) (by decide))) hI_c13.2.2.2.2.2)))⟩ (by omega)) lk_X12_122 yd_X12_nextHeld hT_24 ha0 rfl (by decide) hS_24 (fun _ h => h.elim) ⟨by decide, by decide⟩ (Nat.le_of_ble_eq_true rfl) ⟨by decide, by decide⟩ rfl dX12_spans_105 (fun r_25 H_25 locs_25 p_25 hT_25 hk_25 hS_25 => ?_)
          have p_25 : H_24 = H_25 ∧ (r_25.toInt = -4 ∨ (r_5.toInt ≤ r_25.toInt ∧ r_25.toInt < (ai H_24 (ρ a0 0) 295).toInt ∧ heldP 288 H_24 (ρ a0 0) r_25)) ∧ (-4 ≤ r_25.toInt ∧ r_25.toInt ≤ 700) := p_25
          obtain ⟨rfl, p_25_0, p_25_1⟩ := p_25
          refine lv_istore_n (lv' := [(2, .int r_25), (3, .int r_5), (0, .ref a0), (1, .int 1)]) hx hb dX12_spans_108 rfl hl (by decide) rfl (fun ls hl => ?_)
          refine lv_goto (tgt := 13) hx hb dX12_spans_109 (by decide) ?_
          exact ih_13 H_24 locs_25 _ r_25 x_23 hT_25 hS_25 (lv_sub hl [2, 3, 0] rfl) (by omega) (by omega) (AU.s hU_24 (by decide)) ⟨(PW.q (hU_24.2 _ (th_ne (hW _ 12 0 ha0 (by decide) (by decide) (by decide)) (hW _ 12 2 ha0 (by decide) (by decide) (by decide)) (by decide))) (PW.q (hU_20.2 _ (th_ne (hW _ 12 0 ha0 (by decide) (by decide) (by decide)) (hW _ 12 2 ha0 (by decide) (by decide) (by decide)) (by decide))) (PW.q (hU_12.2 _ (th_ne (hW _ 12 0 ha0 (by decide) (by decide) (by decide)) (hW _ 12 2 ha0 (by decide) (by decide) (by decide)) (by decide))) hI_c13.1))), (QS.same (Eq.trans (ai_q (hU_24.2 _ (th_ne (hW _ 12 0 ha0 (by decide) (by decide) (by decide)) (hW _ 12 2 ha0 (by decide) (by decide) (by decide)) (by decide)))) (Eq.trans (ai_q (hU_20.2 _ (th_ne (hW _ 12 0 ha0 (by decide) (by decide) (by decide)) (hW _ 12 2 ha0 (by decide) (by decide) (by decide)) (by decide)))) (ai_q (hU_12.2 _ (th_ne (hW _ 12 0 ha0 (by decide) (by decide) (by decide)) (hW _ 12 2 ha0 (by decide) (by decide) (by decide)) (by decide)))))) (Eq.trans (ai_q (hU_24.2 _ (th_ne (hW _ 12 0 ha0 (by decide) (by decide) (by decide)) (hW _ 12 2 ha0 (by decide) (by decide) (by decide)) (by decide)))) (Eq.trans (ai_q (hU_20.2 _ (th_ne (hW _ 12 0 ha0 (by decide) (by decide) (by decide)) (hW _ 12 2 ha0 (by decide) (by decide) (by decide)) (by decide)))) (ai_q (hU_12.2 _ (th_ne (hW _ 12 0 ha0 (by decide) (by decide) (by decide)) (hW _ 12 2 ha0 (by decide) (by decide) (by decide)) (by decide)))))) hI_c13.2.1), (QS.same (Eq.trans (ai_q (hU_24.2 _ (th_ne (hW _ 12 0 ha0 (by decide) (by decide) (by decide)) (hW _ 12 2 ha0 (by decide) (by decide) (by decide)) (by decide)))) (Eq.trans (ai_q (hU_20.2 _ (th_ne (hW _ 12 0 ha0 (by decide) (by decide) (by decide)) (hW _ 12 2 ha0 (by decide) (by decide) (by decide)) (by decide)))) (ai_q (hU_12.2 _ (th_ne (hW _ 12 0 ha0 (by decide) (by decide) (by decide)) (hW _ 12 2 ha0 (by decide) (by decide) (by decide)) (by decide)))))) (Eq.trans (ai_q (hU_24.2 _ (th_ne (hW _ 12 0 ha0 (by decide) (by decide) (by decide)) (hW _ 12 2 ha0 (by decide) (by decide) (by decide)) (by decide)))) (Eq.trans (ai_q (hU_20.2 _ (th_ne (hW _ 12 0 ha0 (by decide) (by decide) (by decide)) (hW _ 12 2 ha0 (by decide) (by decide) (by decide)) (by decide)))) (ai_q (hU_12.2 _ (th_ne (hW _ 12 0 ha0 (by decide) (by decide) (by decide)) (hW _ 12 2 ha0 (by decide) (by decide) (by decide)) (by decide)))))) hI_c13.2.2.1), hL_24, (PL.q (hU_24.2 _ (Ne.symm n23)) (PL.q (hU_20.2 _ (Ne.symm n23)) (PL.q (hU_12.2 _ (Ne.symm n23)) hI_c13.2.2.2.2.1))), (IF.q (hU_24.2 _ (th_ne ha0 (hW _ 12 2 ha0 (by decide) (by decide) (by decide)) (by decide))) (IF.q (hU_20.2 _ (th_ne ha0 (hW _ 12 2 ha0 (by decide) (by decide) (by decide)) (by decide))) (IF.q (hU_12.2 _ (th_ne ha0 (hW _ 12 2 ha0 (by decide) (by decide) (by decide)) (by decide))) hI_c13.2.2.2.2.2)))⟩ (by rw [(Eq.trans (ai_q (hU_24.2 _ (th_ne (hW _ 12 0 ha0 (by decide) (by decide) (by decide)) (hW _ 12 2 ha0 (by decide) (by decide) (by decide)) (by decide)))) (Eq.trans (ai_q (hU_20.2 _ (th_ne (hW _ 12 0 ha0 (by decide) (by decide) (by decide)) (hW _ 12 2 ha0 (by decide) (by decide) (by decide)) (by decide)))) (ai_q (hU_12.2 _ (th_ne (hW _ 12 0 ha0 (by decide) (by decide) (by decide)) (hW _ 12 2 ha0 (by decide) (by decide) (by decide)) (by decide))))))]; omega) (by omega) (by omega)
  refine lv_aload_n hx hb dX12_spans_0 rfl (lv_at hl 0 rfl) ?_
  refine lv_iload_n hx hb dX12_spans_1 rfl (lv_at hl 1 rfl) ?_
  refine lv_aload_n hx hb dX12_spans_2 rfl (lv_at hl 0 rfl) ?_
  refine lv_iload_n hx hb dX12_spans_3 rfl (lv_at hl 1 rfl) ?_
  refine lv_iconst (v := 5) hx hb dX12_spans_4 (by decide) ?_
  refine th_Vi (As := [.int 1, .int 5]) (rest := [.int 1, .ref a0]) E hml hl.1 (y_get_v18 l D cI cS τ ρ hW H hT a0 ha0) lk_X12_99 yd_X12_get hT ha0 rfl (by decide) hS (fun _ h => h.elim) ⟨by decide, by decide⟩ (Nat.le_of_ble_eq_true rfl) ⟨by decide, by decide⟩ rfl dX12_spans_5 (fun r_26 H_26 locs_26 p_26 hT_26 hk_26 hS_26 => ?_)
  have p_26 : H = H_26 ∧ (ai H (ρ a0 0) 293 = r_26) := p_26
  obtain ⟨rfl, p_26_0⟩ := p_26
  have b_r_26 : 0 ≤ r_26.toInt ∧ r_26.toInt ≤ N + 33 := by rw [← p_26_0]; exact hI.1 293 (by decide)
  have c_r_26 := congrArg Int32.toInt p_26_0
  refine lv_iconst (v := 1) hx hb dX12_spans_8 (by decide) ?_
  refine th_Vi (As := [.int 1, .int r_26, .int 1]) (rest := []) E hml hl.1 (y_nextHeld_v3 l D cI cS τ ρ hW H hT_26 a0 r_26 ha0 N hN0 hN1 ⟨hI.1, hI.2.1, hI.2.2.1, hI.2.2.2.1, hI.2.2.2.2.1, hI.2.2.2.2.2⟩ (by omega)) lk_X12_122 yd_X12_nextHeld hT_26 ha0 rfl (by decide) hS_26 (fun _ h => h.elim) ⟨by decide, by decide⟩ (Nat.le_of_ble_eq_true rfl) ⟨by decide, by decide⟩ rfl dX12_spans_9 (fun r_27 H_27 locs_27 p_27 hT_27 hk_27 hS_27 => ?_)
  have p_27 : H = H_27 ∧ (r_27.toInt = -4 ∨ (r_26.toInt ≤ r_27.toInt ∧ r_27.toInt < (ai H (ρ a0 0) 295).toInt ∧ heldP 288 H (ρ a0 0) r_27)) ∧ (-4 ≤ r_27.toInt ∧ r_27.toInt ≤ 700) := p_27
  obtain ⟨rfl, p_27_0, p_27_1⟩ := p_27
  refine lv_istore_n (lv' := [(2, .int r_27), (0, .ref a0), (1, .int 1)]) hx hb dX12_spans_12 rfl hl (by decide) rfl (fun ls hl => ?_)
  exact L_13 _ H locs_27 _ r_27 (ai H (ρ a0 2) 6) hT_27 hS_27 (lv_sub hl [1, 2, 0] rfl) (by omega) (by omega) rfl ⟨hI.1, hI.2.1, hI.2.2.1, hI.2.2.2.1, hI.2.2.2.2.1, hI.2.2.2.2.2⟩ (by omega) (by omega) (Nat.lt_succ_self _)
set_option maxHeartbeats 4000000 in
set_option maxRecDepth 100000 in
/-- the reference: makes -/
theorem y_makes_v4 (l : Launch) (D : va_G) (cI cS : ClassId) (τ : Nat → Option Nat) (ρ : Nat → Nat → Nat) (hW : WF τ ρ) (H : Heap) (hT : TH D cI cS τ ρ H) (a0 : Nat) (x1 : Int32) (x2 : Int32) (ha0 : τ a0 = some 12) (N : Int) (hN0 : 0 ≤ N) (hN1 : N ≤ 600) (hI : IM D ρ N H a0) : MV l D cI cS τ ρ yX12_makes cX12_makes 5 none 4 91 H [.ref a0, .int 1, .int x1, .int x2] (fun (u : Heap) => (IM D ρ N u a0) ∧ ((ai H (ρ a0 0) 976).toInt ≤ (ai u (ρ a0 0) 976).toInt)) (fun q => q = ρ a0 2) := by
  refine MV.of (by decide) (Nat.le_of_ble_eq_true rfl) ?_
  intro p e s m args below meth c E hml hr hlk hs ls hl
  have hx := E.1
  have hb := E.2.1
  have hown := E.2.2.1
  have hts := E.2.2.2.1
  have hS : SS (fun q => q = ρ a0 2) H H [] := SS.rf
  have hl : lv_has ls 5 [(0, .ref a0), (1, .int 1), (2, .int x1), (3, .int x2)] := hl
  have n01 := hI.2.2.2.2.2.1
  have n23 := hI.2.2.2.2.2.2.1
  have L_3 : ∀ (n : Nat) (H_c3 : Heap) (lc_c3 : List Loc) (ls : Array Slot) (y3_4 : Int32), TH D cI cS τ ρ H_c3 → SS (fun q => q = ρ a0 2) H H_c3 lc_c3 → lv_has ls 5 [(0, .ref a0), (1, .int 1), (2, .int x1), (3, .int x2), (4, .int y3_4)] → 0 ≤ y3_4.toInt → IM D ρ N H_c3 a0 → (ai H (ρ a0 0) 976).toInt ≤ (ai H_c3 (ρ a0 0) 976).toInt → (20 - y3_4.toInt).toNat < n → W p l e (rmO 4 91) s m args below meth c H_c3 lc_c3 0 0 (MQ below (va_Qv (fun (u : Heap) => (IM D ρ N u a0) ∧ ((ai H (ρ a0 0) 976).toInt ≤ (ai u (ρ a0 0) 976).toInt)) (Bt D cI cS τ ρ H) (fun q => q = ρ a0 2)) args s 0 0 (fun q => q = ρ a0 2)) (F0 m 3 ls []) := by
    intro n
    induction n with
    | zero => intro H_c3 lc_c3 ls y3_4 hT_c3 hS_c3 hl ly3_4 hI_c3 hmn_c3 hm; exact absurd hm (Nat.not_lt_zero _)
    | succ n ih_3 =>
      intro H_c3 lc_c3 ls y3_4 hT_c3 hS_c3 hl ly3_4 hI_c3 hmn_c3 hm_3
      refine lv_iload hx hb dX12_makes_3 (lv_at hl 4 rfl) ?_
      refine lv_bipush (v := 20) hx hb dX12_makes_5 (by decide) ?_
      refine lv_icmp_ge (tgt := 55) hx hb dX12_makes_7 (by decide) (fun c_1 => ?_) (fun c_1 => ?_)
      · have f_1 : 20 ≤ y3_4.toInt := r_le (by decide) rfl c_1
        refine lv_aload_n hx hb dX12_makes_55 rfl (lv_at hl 0 rfl) ?_
        refine gf_X12_16 E hT_c3 hW ha0 dX12_makes_56 (fun h_2 => ?_)
        refine lv_iconst (v := 0) hx hb dX12_makes_59 (by decide) ?_
        refine lv_iload_n hx hb dX12_makes_60 rfl (lv_at hl 1 rfl) ?_
        refine th_iast E hT_c3 hS_c3 h_2 rfl (by decide) (vp_in_iff.mpr ⟨by decide, by decide⟩) dX12_makes_61 (fun H_3 locs_3 hT_3 hU_3 hS_3 => ?_)
        have hU_3 : AU 20 H_c3 H_3 (ρ a0 2) 0 (1) := hU_3
        have hL_3 : PL H_3 (ρ a0 2) := PL.put hI_c3.2.2.2.1 hU_3 (by show (0 : Int) ≤ (1 : Int32).toInt; have : (1 : Int32).toInt = 1 := (by decide); omega) (by show (1 : Int32).toInt ≤ (1 : Int); have : (1 : Int32).toInt = 1 := (by decide); omega)
        refine lv_aload_n hx hb dX12_makes_62 rfl (lv_at hl 0 rfl) ?_
        refine gf_X12_16 E hT_3 hW ha0 dX12_makes_63 (fun h_4 => ?_)
        refine lv_iconst (v := 1) hx hb dX12_makes_66 (by decide) ?_
        refine lv_iload_n hx hb dX12_makes_67 rfl (lv_at hl 2 rfl) ?_
        refine th_iast E hT_3 hS_3 h_4 rfl (by decide) (vp_in_iff.mpr ⟨by decide, by decide⟩) dX12_makes_68 (fun H_5 locs_5 hT_5 hU_5 hS_5 => ?_)
        have hU_5 : AU 20 H_3 H_5 (ρ a0 2) 1 x1 := hU_5
        have hL_5 : PL H_5 (ρ a0 2) := PL.put hL_3 hU_5 (by show (-2147483648 : Int) ≤ _; exact i_min _) (by show _ ≤ (2147483647 : Int); exact i_max _)
        refine lv_aload_n hx hb dX12_makes_69 rfl (lv_at hl 0 rfl) ?_
        refine gf_X12_16 E hT_5 hW ha0 dX12_makes_70 (fun h_6 => ?_)
        refine lv_iconst (v := 2) hx hb dX12_makes_73 (by decide) ?_
        refine lv_iload_n hx hb dX12_makes_74 rfl (lv_at hl 3 rfl) ?_
        refine th_iast E hT_5 hS_5 h_6 rfl (by decide) (vp_in_iff.mpr ⟨by decide, by decide⟩) dX12_makes_75 (fun H_7 locs_7 hT_7 hU_7 hS_7 => ?_)
        have hU_7 : AU 20 H_5 H_7 (ρ a0 2) 2 x2 := hU_7
        have hL_7 : PL H_7 (ρ a0 2) := PL.put hL_5 hU_7 (by show (-2147483648 : Int) ≤ _; exact i_min _) (by show _ ≤ (2147483647 : Int); exact i_max _)
        refine lv_iload_n hx hb dX12_makes_76 rfl (lv_at hl 2 rfl) ?_
        refine lv_iconst (v := 4) hx hb dX12_makes_77 (by decide) ?_
        refine lv_iand hx hb dX12_makes_78 ?_
        refine lv_topi (fun x_8 ex_8 => ?_)
        have q_8 := i_msk (k := 4) (x := x1) (by decide) (by decide) ex_8
        refine lv_if_le (tgt := 133) hx hb dX12_makes_79 (by decide) (fun c_9 => ?_) (fun c_9 => ?_)
        · have f_9 : x_8.toInt ≤ 0 := r_le rfl (by decide) c_9
          exact th_vret E hr hlk hs hT_7 hS_7 ⟨⟨(PW.q (hU_7.2 _ (th_ne (hW _ 12 0 ha0 (by decide) (by decide) (by decide)) (hW _ 12 2 ha0 (by decide) (by decide) (by decide)) (by decide))) (PW.q (hU_5.2 _ (th_ne (hW _ 12 0 ha0 (by decide) (by decide) (by decide)) (hW _ 12 2 ha0 (by decide) (by decide) (by decide)) (by decide))) (PW.q (hU_3.2 _ (th_ne (hW _ 12 0 ha0 (by decide) (by decide) (by decide)) (hW _ 12 2 ha0 (by decide) (by decide) (by decide)) (by decide))) hI_c3.1))), (QS.same (Eq.trans (ai_q (hU_7.2 _ (th_ne (hW _ 12 0 ha0 (by decide) (by decide) (by decide)) (hW _ 12 2 ha0 (by decide) (by decide) (by decide)) (by decide)))) (Eq.trans (ai_q (hU_5.2 _ (th_ne (hW _ 12 0 ha0 (by decide) (by decide) (by decide)) (hW _ 12 2 ha0 (by decide) (by decide) (by decide)) (by decide)))) (ai_q (hU_3.2 _ (th_ne (hW _ 12 0 ha0 (by decide) (by decide) (by decide)) (hW _ 12 2 ha0 (by decide) (by decide) (by decide)) (by decide)))))) (Eq.trans (ai_q (hU_7.2 _ (th_ne (hW _ 12 0 ha0 (by decide) (by decide) (by decide)) (hW _ 12 2 ha0 (by decide) (by decide) (by decide)) (by decide)))) (Eq.trans (ai_q (hU_5.2 _ (th_ne (hW _ 12 0 ha0 (by decide) (by decide) (by decide)) (hW _ 12 2 ha0 (by decide) (by decide) (by decide)) (by decide)))) (ai_q (hU_3.2 _ (th_ne (hW _ 12 0 ha0 (by decide) (by decide) (by decide)) (hW _ 12 2 ha0 (by decide) (by decide) (by decide)) (by decide)))))) hI_c3.2.1), (QS.same (Eq.trans (ai_q (hU_7.2 _ (th_ne (hW _ 12 0 ha0 (by decide) (by decide) (by decide)) (hW _ 12 2 ha0 (by decide) (by decide) (by decide)) (by decide)))) (Eq.trans (ai_q (hU_5.2 _ (th_ne (hW _ 12 0 ha0 (by decide) (by decide) (by decide)) (hW _ 12 2 ha0 (by decide) (by decide) (by decide)) (by decide)))) (ai_q (hU_3.2 _ (th_ne (hW _ 12 0 ha0 (by decide) (by decide) (by decide)) (hW _ 12 2 ha0 (by decide) (by decide) (by decide)) (by decide)))))) (Eq.trans (ai_q (hU_7.2 _ (th_ne (hW _ 12 0 ha0 (by decide) (by decide) (by decide)) (hW _ 12 2 ha0 (by decide) (by decide) (by decide)) (by decide)))) (Eq.trans (ai_q (hU_5.2 _ (th_ne (hW _ 12 0 ha0 (by decide) (by decide) (by decide)) (hW _ 12 2 ha0 (by decide) (by decide) (by decide)) (by decide)))) (ai_q (hU_3.2 _ (th_ne (hW _ 12 0 ha0 (by decide) (by decide) (by decide)) (hW _ 12 2 ha0 (by decide) (by decide) (by decide)) (by decide)))))) hI_c3.2.2.1), hL_7, (PL.q (hU_7.2 _ (Ne.symm n23)) (PL.q (hU_5.2 _ (Ne.symm n23)) (PL.q (hU_3.2 _ (Ne.symm n23)) hI_c3.2.2.2.2.1))), (IF.q (hU_7.2 _ (th_ne ha0 (hW _ 12 2 ha0 (by decide) (by decide) (by decide)) (by decide))) (IF.q (hU_5.2 _ (th_ne ha0 (hW _ 12 2 ha0 (by decide) (by decide) (by decide)) (by decide))) (IF.q (hU_3.2 _ (th_ne ha0 (hW _ 12 2 ha0 (by decide) (by decide) (by decide)) (by decide))) hI_c3.2.2.2.2.2)))⟩, (by rw [(Eq.trans (ai_q (hU_7.2 _ (th_ne (hW _ 12 0 ha0 (by decide) (by decide) (by decide)) (hW _ 12 2 ha0 (by decide) (by decide) (by decide)) (by decide)))) (Eq.trans (ai_q (hU_5.2 _ (th_ne (hW _ 12 0 ha0 (by decide) (by decide) (by decide)) (hW _ 12 2 ha0 (by decide) (by decide) (by decide)) (by decide)))) (ai_q (hU_3.2 _ (th_ne (hW _ 12 0 ha0 (by decide) (by decide) (by decide)) (hW _ 12 2 ha0 (by decide) (by decide) (by decide)) (by decide))))))]; omega)⟩ dX12_makes_133
        · have f_9 : 0 < x_8.toInt := r_nle rfl (by decide) c_9
          refine lv_iload_n hx hb dX12_makes_82 rfl (lv_at hl 2 rfl) ?_
          refine lv_bipush (v := 8) hx hb dX12_makes_83 (by decide) ?_
          refine lv_iand hx hb dX12_makes_85 ?_
          refine lv_topi (fun x_10 ex_10 => ?_)
          have q_10 := i_msk (k := 8) (x := x1) (by decide) (by decide) ex_10
          refine lv_if_ne (tgt := 133) hx hb dX12_makes_86 (by decide) (fun c_11 => ?_) (fun c_11 => ?_)
          · have f_11 : ¬ x_10.toInt = 0 := r_ne rfl (by decide) c_11
            have nz_x_10 : ¬ x_10 = 0 := c_11
            exact th_vret E hr hlk hs hT_7 hS_7 ⟨⟨(PW.q (hU_7.2 _ (th_ne (hW _ 12 0 ha0 (by decide) (by decide) (by decide)) (hW _ 12 2 ha0 (by decide) (by decide) (by decide)) (by decide))) (PW.q (hU_5.2 _ (th_ne (hW _ 12 0 ha0 (by decide) (by decide) (by decide)) (hW _ 12 2 ha0 (by decide) (by decide) (by decide)) (by decide))) (PW.q (hU_3.2 _ (th_ne (hW _ 12 0 ha0 (by decide) (by decide) (by decide)) (hW _ 12 2 ha0 (by decide) (by decide) (by decide)) (by decide))) hI_c3.1))), (QS.same (Eq.trans (ai_q (hU_7.2 _ (th_ne (hW _ 12 0 ha0 (by decide) (by decide) (by decide)) (hW _ 12 2 ha0 (by decide) (by decide) (by decide)) (by decide)))) (Eq.trans (ai_q (hU_5.2 _ (th_ne (hW _ 12 0 ha0 (by decide) (by decide) (by decide)) (hW _ 12 2 ha0 (by decide) (by decide) (by decide)) (by decide)))) (ai_q (hU_3.2 _ (th_ne (hW _ 12 0 ha0 (by decide) (by decide) (by decide)) (hW _ 12 2 ha0 (by decide) (by decide) (by decide)) (by decide)))))) (Eq.trans (ai_q (hU_7.2 _ (th_ne (hW _ 12 0 ha0 (by decide) (by decide) (by decide)) (hW _ 12 2 ha0 (by decide) (by decide) (by decide)) (by decide)))) (Eq.trans (ai_q (hU_5.2 _ (th_ne (hW _ 12 0 ha0 (by decide) (by decide) (by decide)) (hW _ 12 2 ha0 (by decide) (by decide) (by decide)) (by decide)))) (ai_q (hU_3.2 _ (th_ne (hW _ 12 0 ha0 (by decide) (by decide) (by decide)) (hW _ 12 2 ha0 (by decide) (by decide) (by decide)) (by decide)))))) hI_c3.2.1), (QS.same (Eq.trans (ai_q (hU_7.2 _ (th_ne (hW _ 12 0 ha0 (by decide) (by decide) (by decide)) (hW _ 12 2 ha0 (by decide) (by decide) (by decide)) (by decide)))) (Eq.trans (ai_q (hU_5.2 _ (th_ne (hW _ 12 0 ha0 (by decide) (by decide) (by decide)) (hW _ 12 2 ha0 (by decide) (by decide) (by decide)) (by decide)))) (ai_q (hU_3.2 _ (th_ne (hW _ 12 0 ha0 (by decide) (by decide) (by decide)) (hW _ 12 2 ha0 (by decide) (by decide) (by decide)) (by decide)))))) (Eq.trans (ai_q (hU_7.2 _ (th_ne (hW _ 12 0 ha0 (by decide) (by decide) (by decide)) (hW _ 12 2 ha0 (by decide) (by decide) (by decide)) (by decide)))) (Eq.trans (ai_q (hU_5.2 _ (th_ne (hW _ 12 0 ha0 (by decide) (by decide) (by decide)) (hW _ 12 2 ha0 (by decide) (by decide) (by decide)) (by decide)))) (ai_q (hU_3.2 _ (th_ne (hW _ 12 0 ha0 (by decide) (by decide) (by decide)) (hW _ 12 2 ha0 (by decide) (by decide) (by decide)) (by decide)))))) hI_c3.2.2.1), hL_7, (PL.q (hU_7.2 _ (Ne.symm n23)) (PL.q (hU_5.2 _ (Ne.symm n23)) (PL.q (hU_3.2 _ (Ne.symm n23)) hI_c3.2.2.2.2.1))), (IF.q (hU_7.2 _ (th_ne ha0 (hW _ 12 2 ha0 (by decide) (by decide) (by decide)) (by decide))) (IF.q (hU_5.2 _ (th_ne ha0 (hW _ 12 2 ha0 (by decide) (by decide) (by decide)) (by decide))) (IF.q (hU_3.2 _ (th_ne ha0 (hW _ 12 2 ha0 (by decide) (by decide) (by decide)) (by decide))) hI_c3.2.2.2.2.2)))⟩, (by rw [(Eq.trans (ai_q (hU_7.2 _ (th_ne (hW _ 12 0 ha0 (by decide) (by decide) (by decide)) (hW _ 12 2 ha0 (by decide) (by decide) (by decide)) (by decide)))) (Eq.trans (ai_q (hU_5.2 _ (th_ne (hW _ 12 0 ha0 (by decide) (by decide) (by decide)) (hW _ 12 2 ha0 (by decide) (by decide) (by decide)) (by decide)))) (ai_q (hU_3.2 _ (th_ne (hW _ 12 0 ha0 (by decide) (by decide) (by decide)) (hW _ 12 2 ha0 (by decide) (by decide) (by decide)) (by decide))))))]; omega)⟩ dX12_makes_133
          · have f_11 : x_10.toInt = 0 := r_eq rfl (by decide) c_11
            refine lv_aload_n hx hb dX12_makes_89 rfl (lv_at hl 0 rfl) ?_
            refine gf_X12_16 E hT_7 hW ha0 dX12_makes_90 (fun h_12 => ?_)
            refine lv_iconst (v := 3) hx hb dX12_makes_93 (by decide) ?_
            refine lv_aload_n hx hb dX12_makes_94 rfl (lv_at hl 0 rfl) ?_
            refine lv_iconst (v := 1) hx hb dX12_makes_95 (by decide) ?_
            refine lv_iload_n hx hb dX12_makes_96 rfl (lv_at hl 1 rfl) ?_
            refine lv_isub hx hb dX12_makes_97 ?_
            refine th_topi (y := 0) (by decide) ?_
            refine lv_aload_n hx hb dX12_makes_98 rfl (lv_at hl 0 rfl) ?_
            refine lv_iload_n hx hb dX12_makes_99 rfl (lv_at hl 1 rfl) ?_
            refine lv_iconst (v := 5) hx hb dX12_makes_100 (by decide) ?_
            refine th_Vi (As := [.int 1, .int 5]) (rest := [.int 0, .ref a0, .int 3, .ref (ρ a0 2)]) E hml hl.1 (y_get_v18 l D cI cS τ ρ hW H_7 hT_7 a0 ha0) lk_X12_99 yd_X12_get hT_7 ha0 rfl (by decide) hS_7 (fun _ h => h.elim) ⟨by decide, by decide⟩ (Nat.le_of_ble_eq_true rfl) ⟨by decide, by decide⟩ rfl dX12_makes_101 (fun r_13 H_13 locs_13 p_13 hT_13 hk_13 hS_13 => ?_)
            have p_13 : H_7 = H_13 ∧ (ai H_7 (ρ a0 0) 293 = r_13) := p_13
            obtain ⟨rfl, p_13_0⟩ := p_13
            have t_13 : ai H_c3 (ρ a0 0) 293 = r_13 := (Eq.trans (ai_q (hU_7.2 _ (th_ne (hW _ 12 0 ha0 (by decide) (by decide) (by decide)) (hW _ 12 2 ha0 (by decide) (by decide) (by decide)) (by decide)))) (Eq.trans (ai_q (hU_5.2 _ (th_ne (hW _ 12 0 ha0 (by decide) (by decide) (by decide)) (hW _ 12 2 ha0 (by decide) (by decide) (by decide)) (by decide)))) (ai_q (hU_3.2 _ (th_ne (hW _ 12 0 ha0 (by decide) (by decide) (by decide)) (hW _ 12 2 ha0 (by decide) (by decide) (by decide)) (by decide)))))).symm.trans p_13_0
            have b_r_13 : 0 ≤ r_13.toInt ∧ r_13.toInt ≤ N + 33 := by rw [← t_13]; exact hI_c3.1 293 (by decide)
            have c_r_13 := congrArg Int32.toInt t_13
            refine th_Vi (As := [.int 0, .int r_13]) (rest := [.int 3, .ref (ρ a0 2)]) E hml hl.1 (y_number_v3 l D cI cS τ ρ hW H_7 hT_13 a0 r_13 ha0) lk_X12_112 yd_X12_number hT_13 ha0 rfl (by decide) hS_13 (fun _ h => h.elim) ⟨by decide, by decide⟩ (Nat.le_of_ble_eq_true rfl) ⟨by decide, by decide⟩ rfl dX12_makes_104 (fun r_14 H_14 locs_14 p_14 hT_14 hk_14 hS_14 => ?_)
            have p_14 : H_7 = H_14 := p_14
            obtain rfl := p_14
            refine th_iast E hT_14 hS_14 h_12 rfl (by decide) (vp_in_iff.mpr ⟨by decide, by decide⟩) dX12_makes_107 (fun H_15 locs_15 hT_15 hU_15 hS_15 => ?_)
            have hU_15 : AU 20 H_7 H_15 (ρ a0 2) 3 r_14 := hU_15
            have hL_15 : PL H_15 (ρ a0 2) := PL.put hL_7 hU_15 (by show (-2147483648 : Int) ≤ _; exact i_min _) (by show _ ≤ (2147483647 : Int); exact i_max _)
            refine lv_aload_n hx hb dX12_makes_108 rfl (lv_at hl 0 rfl) ?_
            refine gf_X12_16 E hT_15 hW ha0 dX12_makes_109 (fun h_16 => ?_)
            refine lv_iconst (v := 4) hx hb dX12_makes_112 (by decide) ?_
            refine lv_aload_n hx hb dX12_makes_113 rfl (lv_at hl 0 rfl) ?_
            refine lv_iload_n hx hb dX12_makes_114 rfl (lv_at hl 1 rfl) ?_
            refine lv_bipush (v := 7) hx hb dX12_makes_115 (by decide) ?_
            refine th_Vi (As := [.int 1, .int 7]) (rest := [.int 4, .ref (ρ a0 2)]) E hml hl.1 (y_get_v19 l D cI cS τ ρ hW H_15 hT_15 a0 ha0) lk_X12_99 yd_X12_get hT_15 ha0 rfl (by decide) hS_15 (fun _ h => h.elim) ⟨by decide, by decide⟩ (Nat.le_of_ble_eq_true rfl) ⟨by decide, by decide⟩ rfl dX12_makes_117 (fun r_17 H_17 locs_17 p_17 hT_17 hk_17 hS_17 => ?_)
            have p_17 : H_15 = H_17 ∧ (ai H_15 (ρ a0 0) 295 = r_17) := p_17
            obtain ⟨rfl, p_17_0⟩ := p_17
            have t_17 : ai H_c3 (ρ a0 0) 295 = r_17 := (Eq.trans (ai_q (hU_15.2 _ (th_ne (hW _ 12 0 ha0 (by decide) (by decide) (by decide)) (hW _ 12 2 ha0 (by decide) (by decide) (by decide)) (by decide)))) (Eq.trans (ai_q (hU_7.2 _ (th_ne (hW _ 12 0 ha0 (by decide) (by decide) (by decide)) (hW _ 12 2 ha0 (by decide) (by decide) (by decide)) (by decide)))) (Eq.trans (ai_q (hU_5.2 _ (th_ne (hW _ 12 0 ha0 (by decide) (by decide) (by decide)) (hW _ 12 2 ha0 (by decide) (by decide) (by decide)) (by decide)))) (ai_q (hU_3.2 _ (th_ne (hW _ 12 0 ha0 (by decide) (by decide) (by decide)) (hW _ 12 2 ha0 (by decide) (by decide) (by decide)) (by decide))))))).symm.trans p_17_0
            have b_r_17 : 0 ≤ r_17.toInt ∧ r_17.toInt ≤ N + 33 := by rw [← t_17]; exact hI_c3.1 295 (by decide)
            have c_r_17 := congrArg Int32.toInt t_17
            refine lv_aload_n hx hb dX12_makes_120 rfl (lv_at hl 0 rfl) ?_
            refine lv_iload_n hx hb dX12_makes_121 rfl (lv_at hl 1 rfl) ?_
            refine lv_iconst (v := 5) hx hb dX12_makes_122 (by decide) ?_
            refine th_Vi (As := [.int 1, .int 5]) (rest := [.int r_17, .int 4, .ref (ρ a0 2)]) E hml hl.1 (y_get_v18 l D cI cS τ ρ hW H_15 hT_17 a0 ha0) lk_X12_99 yd_X12_get hT_17 ha0 rfl (by decide) hS_17 (fun _ h => h.elim) ⟨by decide, by decide⟩ (Nat.le_of_ble_eq_true rfl) ⟨by decide, by decide⟩ rfl dX12_makes_123 (fun r_18 H_18 locs_18 p_18 hT_18 hk_18 hS_18 => ?_)
            have p_18 : H_15 = H_18 ∧ (ai H_15 (ρ a0 0) 293 = r_18) := p_18
            obtain ⟨rfl, p_18_0⟩ := p_18
            have s_18 : r_18 = r_13 := p_18_0.symm.trans (Eq.trans (ai_q (hU_15.2 _ (th_ne (hW _ 12 0 ha0 (by decide) (by decide) (by decide)) (hW _ 12 2 ha0 (by decide) (by decide) (by decide)) (by decide)))) ((Eq.trans (ai_q (hU_7.2 _ (th_ne (hW _ 12 0 ha0 (by decide) (by decide) (by decide)) (hW _ 12 2 ha0 (by decide) (by decide) (by decide)) (by decide)))) (Eq.trans (ai_q (hU_5.2 _ (th_ne (hW _ 12 0 ha0 (by decide) (by decide) (by decide)) (hW _ 12 2 ha0 (by decide) (by decide) (by decide)) (by decide)))) (ai_q (hU_3.2 _ (th_ne (hW _ 12 0 ha0 (by decide) (by decide) (by decide)) (hW _ 12 2 ha0 (by decide) (by decide) (by decide)) (by decide)))))).trans t_13))
            refine th_topi s_18 ?_
            refine lv_isub hx hb dX12_makes_126 ?_
            refine lv_topi (fun x_19 ex_19 => ?_)
            have q_19 : x_19.toInt = r_17.toInt - r_13.toInt := i_mi rfl rfl ex_19 (by omega) (by omega)
            refine th_iast E hT_18 hS_18 h_16 rfl (by decide) (vp_in_iff.mpr ⟨by decide, by decide⟩) dX12_makes_127 (fun H_20 locs_20 hT_20 hU_20 hS_20 => ?_)
            have hU_20 : AU 20 H_15 H_20 (ρ a0 2) 4 x_19 := hU_20
            have hL_20 : PL H_20 (ρ a0 2) := PL.put hL_15 hU_20 (by show (-2147483648 : Int) ≤ _; exact i_min _) (by show _ ≤ (2147483647 : Int); exact i_max _)
            refine lv_aload_n hx hb dX12_makes_128 rfl (lv_at hl 0 rfl) ?_
            refine lv_iload_n hx hb dX12_makes_129 rfl (lv_at hl 1 rfl) ?_
            refine th_Vv (As := [.int 1]) (rest := []) E hml hl.1 (y_spans_v2 l D cI cS τ ρ hW H_20 hT_20 a0 ha0 N hN0 hN1 ⟨(PW.q (hU_20.2 _ (th_ne (hW _ 12 0 ha0 (by decide) (by decide) (by decide)) (hW _ 12 2 ha0 (by decide) (by decide) (by decide)) (by decide))) (PW.q (hU_15.2 _ (th_ne (hW _ 12 0 ha0 (by decide) (by decide) (by decide)) (hW _ 12 2 ha0 (by decide) (by decide) (by decide)) (by decide))) (PW.q (hU_7.2 _ (th_ne (hW _ 12 0 ha0 (by decide) (by decide) (by decide)) (hW _ 12 2 ha0 (by decide) (by decide) (by decide)) (by decide))) (PW.q (hU_5.2 _ (th_ne (hW _ 12 0 ha0 (by decide) (by decide) (by decide)) (hW _ 12 2 ha0 (by decide) (by decide) (by decide)) (by decide))) (PW.q (hU_3.2 _ (th_ne (hW _ 12 0 ha0 (by decide) (by decide) (by decide)) (hW _ 12 2 ha0 (by decide) (by decide) (by decide)) (by decide))) hI_c3.1))))), (QS.same (Eq.trans (ai_q (hU_20.2 _ (th_ne (hW _ 12 0 ha0 (by decide) (by decide) (by decide)) (hW _ 12 2 ha0 (by decide) (by decide) (by decide)) (by decide)))) (Eq.trans (ai_q (hU_15.2 _ (th_ne (hW _ 12 0 ha0 (by decide) (by decide) (by decide)) (hW _ 12 2 ha0 (by decide) (by decide) (by decide)) (by decide)))) (Eq.trans (ai_q (hU_7.2 _ (th_ne (hW _ 12 0 ha0 (by decide) (by decide) (by decide)) (hW _ 12 2 ha0 (by decide) (by decide) (by decide)) (by decide)))) (Eq.trans (ai_q (hU_5.2 _ (th_ne (hW _ 12 0 ha0 (by decide) (by decide) (by decide)) (hW _ 12 2 ha0 (by decide) (by decide) (by decide)) (by decide)))) (ai_q (hU_3.2 _ (th_ne (hW _ 12 0 ha0 (by decide) (by decide) (by decide)) (hW _ 12 2 ha0 (by decide) (by decide) (by decide)) (by decide)))))))) (Eq.trans (ai_q (hU_20.2 _ (th_ne (hW _ 12 0 ha0 (by decide) (by decide) (by decide)) (hW _ 12 2 ha0 (by decide) (by decide) (by decide)) (by decide)))) (Eq.trans (ai_q (hU_15.2 _ (th_ne (hW _ 12 0 ha0 (by decide) (by decide) (by decide)) (hW _ 12 2 ha0 (by decide) (by decide) (by decide)) (by decide)))) (Eq.trans (ai_q (hU_7.2 _ (th_ne (hW _ 12 0 ha0 (by decide) (by decide) (by decide)) (hW _ 12 2 ha0 (by decide) (by decide) (by decide)) (by decide)))) (Eq.trans (ai_q (hU_5.2 _ (th_ne (hW _ 12 0 ha0 (by decide) (by decide) (by decide)) (hW _ 12 2 ha0 (by decide) (by decide) (by decide)) (by decide)))) (ai_q (hU_3.2 _ (th_ne (hW _ 12 0 ha0 (by decide) (by decide) (by decide)) (hW _ 12 2 ha0 (by decide) (by decide) (by decide)) (by decide)))))))) hI_c3.2.1), (QS.same (Eq.trans (ai_q (hU_20.2 _ (th_ne (hW _ 12 0 ha0 (by decide) (by decide) (by decide)) (hW _ 12 2 ha0 (by decide) (by decide) (by decide)) (by decide)))) (Eq.trans (ai_q (hU_15.2 _ (th_ne (hW _ 12 0 ha0 (by decide) (by decide) (by decide)) (hW _ 12 2 ha0 (by decide) (by decide) (by decide)) (by decide)))) (Eq.trans (ai_q (hU_7.2 _ (th_ne (hW _ 12 0 ha0 (by decide) (by decide) (by decide)) (hW _ 12 2 ha0 (by decide) (by decide) (by decide)) (by decide)))) (Eq.trans (ai_q (hU_5.2 _ (th_ne (hW _ 12 0 ha0 (by decide) (by decide) (by decide)) (hW _ 12 2 ha0 (by decide) (by decide) (by decide)) (by decide)))) (ai_q (hU_3.2 _ (th_ne (hW _ 12 0 ha0 (by decide) (by decide) (by decide)) (hW _ 12 2 ha0 (by decide) (by decide) (by decide)) (by decide)))))))) (Eq.trans (ai_q (hU_20.2 _ (th_ne (hW _ 12 0 ha0 (by decide) (by decide) (by decide)) (hW _ 12 2 ha0 (by decide) (by decide) (by decide)) (by decide)))) (Eq.trans (ai_q (hU_15.2 _ (th_ne (hW _ 12 0 ha0 (by decide) (by decide) (by decide)) (hW _ 12 2 ha0 (by decide) (by decide) (by decide)) (by decide)))) (Eq.trans (ai_q (hU_7.2 _ (th_ne (hW _ 12 0 ha0 (by decide) (by decide) (by decide)) (hW _ 12 2 ha0 (by decide) (by decide) (by decide)) (by decide)))) (Eq.trans (ai_q (hU_5.2 _ (th_ne (hW _ 12 0 ha0 (by decide) (by decide) (by decide)) (hW _ 12 2 ha0 (by decide) (by decide) (by decide)) (by decide)))) (ai_q (hU_3.2 _ (th_ne (hW _ 12 0 ha0 (by decide) (by decide) (by decide)) (hW _ 12 2 ha0 (by decide) (by decide) (by decide)) (by decide)))))))) hI_c3.2.2.1), hL_20, (PL.q (hU_20.2 _ (Ne.symm n23)) (PL.q (hU_15.2 _ (Ne.symm n23)) (PL.q (hU_7.2 _ (Ne.symm n23)) (PL.q (hU_5.2 _ (Ne.symm n23)) (PL.q (hU_3.2 _ (Ne.symm n23)) hI_c3.2.2.2.2.1))))), (IF.q (hU_20.2 _ (th_ne ha0 (hW _ 12 2 ha0 (by decide) (by decide) (by decide)) (by decide))) (IF.q (hU_15.2 _ (th_ne ha0 (hW _ 12 2 ha0 (by decide) (by decide) (by decide)) (by decide))) (IF.q (hU_7.2 _ (th_ne ha0 (hW _ 12 2 ha0 (by decide) (by decide) (by decide)) (by decide))) (IF.q (hU_5.2 _ (th_ne ha0 (hW _ 12 2 ha0 (by decide) (by decide) (by decide)) (by decide))) (IF.q (hU_3.2 _ (th_ne ha0 (hW _ 12 2 ha0 (by decide) (by decide) (by decide)) (by decide))) hI_c3.2.2.2.2.2)))))⟩) lk_X12_115 yd_X12_spans hT_20 ha0 rfl (by decide) hS_20 (fun q h => h) ⟨by decide, by decide⟩ (Nat.le_of_ble_eq_true rfl) ⟨by decide, by decide⟩ rfl dX12_makes_130 (fun H_21 locs_21 p_21 hT_21 hk_21 hS_21 => ?_)
            have p_21 : (IM D ρ N H_21 a0) ∧ ((ai H_20 (ρ a0 0) 976).toInt ≤ (ai H_21 (ρ a0 0) 976).toInt) := p_21
            obtain ⟨p_21_0, p_21_1⟩ := p_21
            have mn_21 : (ai H_c3 (ρ a0 0) 976).toInt ≤ (ai H_21 (ρ a0 0) 976).toInt := by have h := p_21_1; rw [(Eq.trans (ai_q (hU_20.2 _ (th_ne (hW _ 12 0 ha0 (by decide) (by decide) (by decide)) (hW _ 12 2 ha0 (by decide) (by decide) (by decide)) (by decide)))) (Eq.trans (ai_q (hU_15.2 _ (th_ne (hW _ 12 0 ha0 (by decide) (by decide) (by decide)) (hW _ 12 2 ha0 (by decide) (by decide) (by decide)) (by decide)))) (Eq.trans (ai_q (hU_7.2 _ (th_ne (hW _ 12 0 ha0 (by decide) (by decide) (by decide)) (hW _ 12 2 ha0 (by decide) (by decide) (by decide)) (by decide)))) (Eq.trans (ai_q (hU_5.2 _ (th_ne (hW _ 12 0 ha0 (by decide) (by decide) (by decide)) (hW _ 12 2 ha0 (by decide) (by decide) (by decide)) (by decide)))) (ai_q (hU_3.2 _ (th_ne (hW _ 12 0 ha0 (by decide) (by decide) (by decide)) (hW _ 12 2 ha0 (by decide) (by decide) (by decide)) (by decide))))))))] at h; exact h
            exact th_vret E hr hlk hs hT_21 hS_21 ⟨⟨p_21_0.1, p_21_0.2.1, p_21_0.2.2.1, p_21_0.2.2.2.1, p_21_0.2.2.2.2.1, p_21_0.2.2.2.2.2⟩, (by rw [(Eq.trans (ai_q (hk_21 _ (th_ne (hW _ 12 0 ha0 (by decide) (by decide) (by decide)) (hW _ 12 2 ha0 (by decide) (by decide) (by decide)) (by decide)))) (Eq.trans (ai_q (hU_20.2 _ (th_ne (hW _ 12 0 ha0 (by decide) (by decide) (by decide)) (hW _ 12 2 ha0 (by decide) (by decide) (by decide)) (by decide)))) (Eq.trans (ai_q (hU_15.2 _ (th_ne (hW _ 12 0 ha0 (by decide) (by decide) (by decide)) (hW _ 12 2 ha0 (by decide) (by decide) (by decide)) (by decide)))) (Eq.trans (ai_q (hU_7.2 _ (th_ne (hW _ 12 0 ha0 (by decide) (by decide) (by decide)) (hW _ 12 2 ha0 (by decide) (by decide) (by decide)) (by decide)))) (Eq.trans (ai_q (hU_5.2 _ (th_ne (hW _ 12 0 ha0 (by decide) (by decide) (by decide)) (hW _ 12 2 ha0 (by decide) (by decide) (by decide)) (by decide)))) (ai_q (hU_3.2 _ (th_ne (hW _ 12 0 ha0 (by decide) (by decide) (by decide)) (hW _ 12 2 ha0 (by decide) (by decide) (by decide)) (by decide)))))))))]; omega)⟩ dX12_makes_133
      · have f_1 : y3_4.toInt < 20 := r_nle (by decide) rfl c_1
        refine lv_aload_n hx hb dX12_makes_10 rfl (lv_at hl 0 rfl) ?_
        refine gf_X12_16 E hT_c3 hW ha0 dX12_makes_11 (fun h_22 => ?_)
        refine lv_iload hx hb dX12_makes_14 (lv_at hl 4 rfl) ?_
        refine lv_iload hx hb dX12_makes_16 (lv_at hl 4 rfl) ?_
        refine lv_iconst (v := 3) hx hb dX12_makes_18 (by decide) ?_
        refine lv_icmp_lt (tgt := 42) hx hb dX12_makes_19 (by decide) (fun c_23 => ?_) (fun c_23 => ?_)
        · have f_23 : y3_4.toInt < 3 := r_lt rfl (by decide) c_23
          refine lv_iconst (v := 0) hx hb dX12_makes_42 (by decide) ?_
          refine lv_goto (tgt := 48) hx hb dX12_makes_43 (by decide) ?_
          refine th_iast E hT_c3 hS_c3 h_22 rfl (by decide) (vp_in_iff.mpr ⟨by omega, by omega⟩) dX12_makes_48 (fun H_24 locs_24 hT_24 hU_24 hS_24 => ?_)
          have hU_24 : AU 20 H_c3 H_24 (ρ a0 2) y3_4.toInt.toNat (0) := hU_24
          have hL_24 : PL H_24 (ρ a0 2) := PL.zero hI_c3.2.2.2.1 hU_24
          obtain ⟨x_25, ex_25⟩ : ∃ y : Int32, y3_4 + 1 = y := ⟨_, rfl⟩
          have q_x_25 : x_25.toInt = y3_4.toInt + 1 := i_add (k := 1) (by decide) ex_25 (by have := i_min y3_4; omega) (by have := i_max y3_4; omega)
          refine lv_iinc (v := x_25) (lv' := [(4, .int x_25), (0, .ref a0), (1, .int 1), (2, .int x1), (3, .int x2)]) hx hb dX12_makes_49 hl (k := 4) rfl (by rw [← ex_25]; rfl) (by decide) rfl (fun ls hl => ?_)
          refine lv_goto (tgt := 3) hx hb dX12_makes_52 (by decide) ?_
          exact ih_3 H_24 locs_24 _ x_25 hT_24 hS_24 (lv_sub hl [1, 2, 3, 4, 0] rfl) (by omega) ⟨(PW.q (hU_24.2 _ (th_ne (hW _ 12 0 ha0 (by decide) (by decide) (by decide)) (hW _ 12 2 ha0 (by decide) (by decide) (by decide)) (by decide))) hI_c3.1), (QS.same (ai_q (hU_24.2 _ (th_ne (hW _ 12 0 ha0 (by decide) (by decide) (by decide)) (hW _ 12 2 ha0 (by decide) (by decide) (by decide)) (by decide)))) (ai_q (hU_24.2 _ (th_ne (hW _ 12 0 ha0 (by decide) (by decide) (by decide)) (hW _ 12 2 ha0 (by decide) (by decide) (by decide)) (by decide)))) hI_c3.2.1), (QS.same (ai_q (hU_24.2 _ (th_ne (hW _ 12 0 ha0 (by decide) (by decide) (by decide)) (hW _ 12 2 ha0 (by decide) (by decide) (by decide)) (by decide)))) (ai_q (hU_24.2 _ (th_ne (hW _ 12 0 ha0 (by decide) (by decide) (by decide)) (hW _ 12 2 ha0 (by decide) (by decide) (by decide)) (by decide)))) hI_c3.2.2.1), hL_24, (PL.q (hU_24.2 _ (Ne.symm n23)) hI_c3.2.2.2.2.1), (IF.q (hU_24.2 _ (th_ne ha0 (hW _ 12 2 ha0 (by decide) (by decide) (by decide)) (by decide))) hI_c3.2.2.2.2.2)⟩ (by rw [(ai_q (hU_24.2 _ (th_ne (hW _ 12 0 ha0 (by decide) (by decide) (by decide)) (hW _ 12 2 ha0 (by decide) (by decide) (by decide)) (by decide))))]; omega) (by omega)
        · have f_23 : 3 ≤ y3_4.toInt := r_nlt rfl (by decide) c_23
          refine lv_iload hx hb dX12_makes_22 (lv_at hl 4 rfl) ?_
          refine lv_iconst (v := 5) hx hb dX12_makes_24 (by decide) ?_
          refine lv_icmp_eq (tgt := 42) hx hb dX12_makes_25 (by decide) (fun c_26 => ?_) (fun c_26 => ?_)
          · have f_26 : y3_4.toInt = 5 := r_eq rfl (by decide) c_26
            refine lv_iconst (v := 0) hx hb dX12_makes_42 (by decide) ?_
            refine lv_goto (tgt := 48) hx hb dX12_makes_43 (by decide) ?_
            refine th_iast E hT_c3 hS_c3 h_22 rfl (by decide) (vp_in_iff.mpr ⟨by omega, by omega⟩) dX12_makes_48 (fun H_27 locs_27 hT_27 hU_27 hS_27 => ?_)
            have hU_27 : AU 20 H_c3 H_27 (ρ a0 2) y3_4.toInt.toNat (0) := hU_27
            have hL_27 : PL H_27 (ρ a0 2) := PL.zero hI_c3.2.2.2.1 hU_27
            obtain ⟨x_28, ex_28⟩ : ∃ y : Int32, y3_4 + 1 = y := ⟨_, rfl⟩
            have q_x_28 : x_28.toInt = y3_4.toInt + 1 := i_add (k := 1) (by decide) ex_28 (by have := i_min y3_4; omega) (by have := i_max y3_4; omega)
            refine lv_iinc (v := x_28) (lv' := [(4, .int x_28), (0, .ref a0), (1, .int 1), (2, .int x1), (3, .int x2)]) hx hb dX12_makes_49 hl (k := 4) rfl (by rw [← ex_28]; rfl) (by decide) rfl (fun ls hl => ?_)
            refine lv_goto (tgt := 3) hx hb dX12_makes_52 (by decide) ?_
            exact ih_3 H_27 locs_27 _ x_28 hT_27 hS_27 (lv_sub hl [1, 2, 3, 4, 0] rfl) (by omega) ⟨(PW.q (hU_27.2 _ (th_ne (hW _ 12 0 ha0 (by decide) (by decide) (by decide)) (hW _ 12 2 ha0 (by decide) (by decide) (by decide)) (by decide))) hI_c3.1), (QS.same (ai_q (hU_27.2 _ (th_ne (hW _ 12 0 ha0 (by decide) (by decide) (by decide)) (hW _ 12 2 ha0 (by decide) (by decide) (by decide)) (by decide)))) (ai_q (hU_27.2 _ (th_ne (hW _ 12 0 ha0 (by decide) (by decide) (by decide)) (hW _ 12 2 ha0 (by decide) (by decide) (by decide)) (by decide)))) hI_c3.2.1), (QS.same (ai_q (hU_27.2 _ (th_ne (hW _ 12 0 ha0 (by decide) (by decide) (by decide)) (hW _ 12 2 ha0 (by decide) (by decide) (by decide)) (by decide)))) (ai_q (hU_27.2 _ (th_ne (hW _ 12 0 ha0 (by decide) (by decide) (by decide)) (hW _ 12 2 ha0 (by decide) (by decide) (by decide)) (by decide)))) hI_c3.2.2.1), hL_27, (PL.q (hU_27.2 _ (Ne.symm n23)) hI_c3.2.2.2.2.1), (IF.q (hU_27.2 _ (th_ne ha0 (hW _ 12 2 ha0 (by decide) (by decide) (by decide)) (by decide))) hI_c3.2.2.2.2.2)⟩ (by rw [(ai_q (hU_27.2 _ (th_ne (hW _ 12 0 ha0 (by decide) (by decide) (by decide)) (hW _ 12 2 ha0 (by decide) (by decide) (by decide)) (by decide))))]; omega) (by omega)
          · have f_26 : ¬ y3_4.toInt = 5 := r_ne rfl (by decide) c_26
            refine lv_iload hx hb dX12_makes_28 (lv_at hl 4 rfl) ?_
            refine lv_bipush (v := 6) hx hb dX12_makes_30 (by decide) ?_
            refine lv_icmp_eq (tgt := 42) hx hb dX12_makes_32 (by decide) (fun c_29 => ?_) (fun c_29 => ?_)
            · have f_29 : y3_4.toInt = 6 := r_eq rfl (by decide) c_29
              refine lv_iconst (v := 0) hx hb dX12_makes_42 (by decide) ?_
              refine lv_goto (tgt := 48) hx hb dX12_makes_43 (by decide) ?_
              refine th_iast E hT_c3 hS_c3 h_22 rfl (by decide) (vp_in_iff.mpr ⟨by omega, by omega⟩) dX12_makes_48 (fun H_30 locs_30 hT_30 hU_30 hS_30 => ?_)
              have hU_30 : AU 20 H_c3 H_30 (ρ a0 2) y3_4.toInt.toNat (0) := hU_30
              have hL_30 : PL H_30 (ρ a0 2) := PL.zero hI_c3.2.2.2.1 hU_30
              obtain ⟨x_31, ex_31⟩ : ∃ y : Int32, y3_4 + 1 = y := ⟨_, rfl⟩
              have q_x_31 : x_31.toInt = y3_4.toInt + 1 := i_add (k := 1) (by decide) ex_31 (by have := i_min y3_4; omega) (by have := i_max y3_4; omega)
              refine lv_iinc (v := x_31) (lv' := [(4, .int x_31), (0, .ref a0), (1, .int 1), (2, .int x1), (3, .int x2)]) hx hb dX12_makes_49 hl (k := 4) rfl (by rw [← ex_31]; rfl) (by decide) rfl (fun ls hl => ?_)
              refine lv_goto (tgt := 3) hx hb dX12_makes_52 (by decide) ?_
              exact ih_3 H_30 locs_30 _ x_31 hT_30 hS_30 (lv_sub hl [1, 2, 3, 4, 0] rfl) (by omega) ⟨(PW.q (hU_30.2 _ (th_ne (hW _ 12 0 ha0 (by decide) (by decide) (by decide)) (hW _ 12 2 ha0 (by decide) (by decide) (by decide)) (by decide))) hI_c3.1), (QS.same (ai_q (hU_30.2 _ (th_ne (hW _ 12 0 ha0 (by decide) (by decide) (by decide)) (hW _ 12 2 ha0 (by decide) (by decide) (by decide)) (by decide)))) (ai_q (hU_30.2 _ (th_ne (hW _ 12 0 ha0 (by decide) (by decide) (by decide)) (hW _ 12 2 ha0 (by decide) (by decide) (by decide)) (by decide)))) hI_c3.2.1), (QS.same (ai_q (hU_30.2 _ (th_ne (hW _ 12 0 ha0 (by decide) (by decide) (by decide)) (hW _ 12 2 ha0 (by decide) (by decide) (by decide)) (by decide)))) (ai_q (hU_30.2 _ (th_ne (hW _ 12 0 ha0 (by decide) (by decide) (by decide)) (hW _ 12 2 ha0 (by decide) (by decide) (by decide)) (by decide)))) hI_c3.2.2.1), hL_30, (PL.q (hU_30.2 _ (Ne.symm n23)) hI_c3.2.2.2.2.1), (IF.q (hU_30.2 _ (th_ne ha0 (hW _ 12 2 ha0 (by decide) (by decide) (by decide)) (by decide))) hI_c3.2.2.2.2.2)⟩ (by rw [(ai_q (hU_30.2 _ (th_ne (hW _ 12 0 ha0 (by decide) (by decide) (by decide)) (hW _ 12 2 ha0 (by decide) (by decide) (by decide)) (by decide))))]; omega) (by omega)
            · have f_29 : ¬ y3_4.toInt = 6 := r_ne rfl (by decide) c_29
              refine lv_iload hx hb dX12_makes_35 (lv_at hl 4 rfl) ?_
              refine lv_bipush (v := 12) hx hb dX12_makes_37 (by decide) ?_
              refine lv_icmp_lt (tgt := 46) hx hb dX12_makes_39 (by decide) (fun c_32 => ?_) (fun c_32 => ?_)
              · have f_32 : y3_4.toInt < 12 := r_lt rfl (by decide) c_32
                refine lv_bipush (v := (-4)) hx hb dX12_makes_46 (by decide) ?_
                refine th_iast E hT_c3 hS_c3 h_22 rfl (by decide) (vp_in_iff.mpr ⟨by omega, by omega⟩) dX12_makes_48 (fun H_33 locs_33 hT_33 hU_33 hS_33 => ?_)
                have hU_33 : AU 20 H_c3 H_33 (ρ a0 2) y3_4.toInt.toNat ((-4)) := hU_33
                have hL_33 : PL H_33 (ρ a0 2) := PL.free hI_c3.2.2.2.1 hU_33 (by omega)
                obtain ⟨x_34, ex_34⟩ : ∃ y : Int32, y3_4 + 1 = y := ⟨_, rfl⟩
                have q_x_34 : x_34.toInt = y3_4.toInt + 1 := i_add (k := 1) (by decide) ex_34 (by have := i_min y3_4; omega) (by have := i_max y3_4; omega)
                refine lv_iinc (v := x_34) (lv' := [(4, .int x_34), (0, .ref a0), (1, .int 1), (2, .int x1), (3, .int x2)]) hx hb dX12_makes_49 hl (k := 4) rfl (by rw [← ex_34]; rfl) (by decide) rfl (fun ls hl => ?_)
                refine lv_goto (tgt := 3) hx hb dX12_makes_52 (by decide) ?_
                exact ih_3 H_33 locs_33 _ x_34 hT_33 hS_33 (lv_sub hl [1, 2, 3, 4, 0] rfl) (by omega) ⟨(PW.q (hU_33.2 _ (th_ne (hW _ 12 0 ha0 (by decide) (by decide) (by decide)) (hW _ 12 2 ha0 (by decide) (by decide) (by decide)) (by decide))) hI_c3.1), (QS.same (ai_q (hU_33.2 _ (th_ne (hW _ 12 0 ha0 (by decide) (by decide) (by decide)) (hW _ 12 2 ha0 (by decide) (by decide) (by decide)) (by decide)))) (ai_q (hU_33.2 _ (th_ne (hW _ 12 0 ha0 (by decide) (by decide) (by decide)) (hW _ 12 2 ha0 (by decide) (by decide) (by decide)) (by decide)))) hI_c3.2.1), (QS.same (ai_q (hU_33.2 _ (th_ne (hW _ 12 0 ha0 (by decide) (by decide) (by decide)) (hW _ 12 2 ha0 (by decide) (by decide) (by decide)) (by decide)))) (ai_q (hU_33.2 _ (th_ne (hW _ 12 0 ha0 (by decide) (by decide) (by decide)) (hW _ 12 2 ha0 (by decide) (by decide) (by decide)) (by decide)))) hI_c3.2.2.1), hL_33, (PL.q (hU_33.2 _ (Ne.symm n23)) hI_c3.2.2.2.2.1), (IF.q (hU_33.2 _ (th_ne ha0 (hW _ 12 2 ha0 (by decide) (by decide) (by decide)) (by decide))) hI_c3.2.2.2.2.2)⟩ (by rw [(ai_q (hU_33.2 _ (th_ne (hW _ 12 0 ha0 (by decide) (by decide) (by decide)) (hW _ 12 2 ha0 (by decide) (by decide) (by decide)) (by decide))))]; omega) (by omega)
              · have f_32 : 12 ≤ y3_4.toInt := r_nlt rfl (by decide) c_32
                refine lv_iconst (v := 0) hx hb dX12_makes_42 (by decide) ?_
                refine lv_goto (tgt := 48) hx hb dX12_makes_43 (by decide) ?_
                refine th_iast E hT_c3 hS_c3 h_22 rfl (by decide) (vp_in_iff.mpr ⟨by omega, by omega⟩) dX12_makes_48 (fun H_35 locs_35 hT_35 hU_35 hS_35 => ?_)
                have hU_35 : AU 20 H_c3 H_35 (ρ a0 2) y3_4.toInt.toNat (0) := hU_35
                have hL_35 : PL H_35 (ρ a0 2) := PL.zero hI_c3.2.2.2.1 hU_35
                obtain ⟨x_36, ex_36⟩ : ∃ y : Int32, y3_4 + 1 = y := ⟨_, rfl⟩
                have q_x_36 : x_36.toInt = y3_4.toInt + 1 := i_add (k := 1) (by decide) ex_36 (by have := i_min y3_4; omega) (by have := i_max y3_4; omega)
                refine lv_iinc (v := x_36) (lv' := [(4, .int x_36), (0, .ref a0), (1, .int 1), (2, .int x1), (3, .int x2)]) hx hb dX12_makes_49 hl (k := 4) rfl (by rw [← ex_36]; rfl) (by decide) rfl (fun ls hl => ?_)
                refine lv_goto (tgt := 3) hx hb dX12_makes_52 (by decide) ?_
                exact ih_3 H_35 locs_35 _ x_36 hT_35 hS_35 (lv_sub hl [1, 2, 3, 4, 0] rfl) (by omega) ⟨(PW.q (hU_35.2 _ (th_ne (hW _ 12 0 ha0 (by decide) (by decide) (by decide)) (hW _ 12 2 ha0 (by decide) (by decide) (by decide)) (by decide))) hI_c3.1), (QS.same (ai_q (hU_35.2 _ (th_ne (hW _ 12 0 ha0 (by decide) (by decide) (by decide)) (hW _ 12 2 ha0 (by decide) (by decide) (by decide)) (by decide)))) (ai_q (hU_35.2 _ (th_ne (hW _ 12 0 ha0 (by decide) (by decide) (by decide)) (hW _ 12 2 ha0 (by decide) (by decide) (by decide)) (by decide)))) hI_c3.2.1), (QS.same (ai_q (hU_35.2 _ (th_ne (hW _ 12 0 ha0 (by decide) (by decide) (by decide)) (hW _ 12 2 ha0 (by decide) (by decide) (by decide)) (by decide)))) (ai_q (hU_35.2 _ (th_ne (hW _ 12 0 ha0 (by decide) (by decide) (by decide)) (hW _ 12 2 ha0 (by decide) (by decide) (by decide)) (by decide)))) hI_c3.2.2.1), hL_35, (PL.q (hU_35.2 _ (Ne.symm n23)) hI_c3.2.2.2.2.1), (IF.q (hU_35.2 _ (th_ne ha0 (hW _ 12 2 ha0 (by decide) (by decide) (by decide)) (by decide))) hI_c3.2.2.2.2.2)⟩ (by rw [(ai_q (hU_35.2 _ (th_ne (hW _ 12 0 ha0 (by decide) (by decide) (by decide)) (hW _ 12 2 ha0 (by decide) (by decide) (by decide)) (by decide))))]; omega) (by omega)
  refine lv_iconst (v := 0) hx hb dX12_makes_0 (by decide) ?_
  refine lv_istore (lv' := [(4, .int 0), (0, .ref a0), (1, .int 1), (2, .int x1), (3, .int x2)]) hx hb dX12_makes_1 hl (by decide) rfl (fun ls hl => ?_)
  exact L_3 _ H [] _ 0 hT hS (lv_sub hl [1, 2, 3, 4, 0] rfl) (by decide) ⟨hI.1, hI.2.1, hI.2.2.1, hI.2.2.2.1, hI.2.2.2.2.1, hI.2.2.2.2.2⟩ (by omega) (Nat.lt_succ_self _)
set_option maxHeartbeats 4000000 in
set_option maxRecDepth 100000 in
/-- the reference: hello -/
theorem y_hello_v2 (l : Launch) (D : va_G) (cI cS : ClassId) (τ : Nat → Option Nat) (ρ : Nat → Nat → Nat) (hW : WF τ ρ) (H : Heap) (hT : TH D cI cS τ ρ H) (a0 : Nat) (ha0 : τ a0 = some 12) (N : Int) (hN0 : 0 ≤ N) (hN1 : N ≤ 600) (hI : IM D ρ N H a0) : MV l D cI cS τ ρ yX12_hello cX12_hello 2 none 5 115 H [.ref a0, .int 1] (fun (u : Heap) => (IM D ρ N u a0) ∧ ((ai H (ρ a0 0) 976).toInt ≤ (ai u (ρ a0 0) 976).toInt)) (fun q => q = ρ a0 2 ∨ q = ρ a0 0) := by
  refine MV.of (by decide) (Nat.le_of_ble_eq_true rfl) ?_
  intro p e s m args below meth c E hml hr hlk hs ls hl
  have hx := E.1
  have hb := E.2.1
  have hown := E.2.2.1
  have hts := E.2.2.2.1
  have hS : SS (fun q => q = ρ a0 2 ∨ q = ρ a0 0) H H [] := SS.rf
  have hl : lv_has ls 2 [(0, .ref a0), (1, .int 1)] := hl
  have n01 := hI.2.2.2.2.2.1
  have n23 := hI.2.2.2.2.2.2.1
  have J_17 : ∀ (H_c17 : Heap) (lc_c17 : List Loc) (ls : Array Slot) (z17_2 : Int32), TH D cI cS τ ρ H_c17 → SS (fun q => q = ρ a0 2 ∨ q = ρ a0 0) H H_c17 lc_c17 → lv_has ls 2 [(0, .ref a0), (1, .int 1)] → 1 ≤ z17_2.toInt → z17_2.toInt ≤ 5 → IM D ρ N H_c17 a0 → (ai H (ρ a0 0) 976).toInt ≤ (ai H_c17 (ρ a0 0) 976).toInt → W p l e (rmO 5 115) s m args below meth c H_c17 lc_c17 0 0 (MQ below (va_Qv (fun (u : Heap) => (IM D ρ N u a0) ∧ ((ai H (ρ a0 0) 976).toInt ≤ (ai u (ρ a0 0) 976).toInt)) (Bt D cI cS τ ρ H) (fun q => q = ρ a0 2 ∨ q = ρ a0 0)) args s 0 0 (fun q => q = ρ a0 2 ∨ q = ρ a0 0)) (F0 m 17 ls [.int z17_2, .int 1, .ref a0]) := by
    intro H_c17 lc_c17 ls z17_2 hT_c17 hS_c17 hl lz17_2 uz17_2 hI_c17 hmn_c17
    refine lv_aload_n hx hb dX12_hello_17 rfl (lv_at hl 0 rfl) ?_
    refine lv_iload_n hx hb dX12_hello_18 rfl (lv_at hl 1 rfl) ?_
    refine lv_iconst (v := 0) hx hb dX12_hello_19 (by decide) ?_
    refine th_Vi (As := [.int 1, .int 0]) (rest := [.int z17_2, .int 1, .ref a0]) E hml hl.1 (y_number_v4 l D cI cS τ ρ hW H_c17 hT_c17 a0 ha0) lk_X12_112 yd_X12_number hT_c17 ha0 rfl (by decide) hS_c17 (fun _ h => h.elim) ⟨by decide, by decide⟩ (Nat.le_of_ble_eq_true rfl) ⟨by decide, by decide⟩ rfl dX12_hello_20 (fun r_1 H_1 locs_1 p_1 hT_1 hk_1 hS_1 => ?_)
    have p_1 : H_c17 = H_1 := p_1
    obtain rfl := p_1
    refine th_Vv (As := [.int 1, .int z17_2, .int r_1]) (rest := []) E hml hl.1 (y_makes_v4 l D cI cS τ ρ hW H_c17 hT_1 a0 z17_2 r_1 ha0 N hN0 hN1 ⟨hI_c17.1, hI_c17.2.1, hI_c17.2.2.1, hI_c17.2.2.2.1, hI_c17.2.2.2.2.1, hI_c17.2.2.2.2.2⟩) lk_X12_126 yd_X12_makes hT_1 ha0 rfl (by decide) hS_1 (fun q h => (Or.inl h)) ⟨by decide, by decide⟩ (Nat.le_of_ble_eq_true rfl) ⟨by decide, by decide⟩ rfl dX12_hello_23 (fun H_2 locs_2 p_2 hT_2 hk_2 hS_2 => ?_)
    have p_2 : (IM D ρ N H_2 a0) ∧ ((ai H_c17 (ρ a0 0) 976).toInt ≤ (ai H_2 (ρ a0 0) 976).toInt) := p_2
    obtain ⟨p_2_0, p_2_1⟩ := p_2
    have mn_2 : (ai H_c17 (ρ a0 0) 976).toInt ≤ (ai H_2 (ρ a0 0) 976).toInt := by exact p_2_1
    refine lv_aload_n hx hb dX12_hello_26 rfl (lv_at hl 0 rfl) ?_
    refine th_Vv (As := []) (rest := []) E hml hl.1 (y_posts l D cI cS τ ρ hW H_2 hT_2 a0 ha0 N hN0 hN1 ⟨p_2_0.1, p_2_0.2.1, p_2_0.2.2.1, p_2_0.2.2.2.1, p_2_0.2.2.2.2.1, p_2_0.2.2.2.2.2⟩) lk_X12_129 yd_X12_posts hT_2 ha0 rfl (by decide) hS_2 (fun q h => (Or.inr h)) ⟨by decide, by decide⟩ (Nat.le_of_ble_eq_true rfl) ⟨by decide, by decide⟩ rfl dX12_hello_27 (fun H_3 locs_3 p_3 hT_3 hk_3 hS_3 => ?_)
    have p_3 : (IM D ρ N H_3 a0) ∧ ((ai H_2 (ρ a0 0) 976).toInt ≤ (ai H_3 (ρ a0 0) 976).toInt) := p_3
    obtain ⟨p_3_0, p_3_1⟩ := p_3
    have mn_3 : (ai H_c17 (ρ a0 0) 976).toInt ≤ (ai H_3 (ρ a0 0) 976).toInt := by have h := p_3_1; rw [(ai_q (hk_2 _ (th_ne (hW _ 12 0 ha0 (by decide) (by decide) (by decide)) (hW _ 12 2 ha0 (by decide) (by decide) (by decide)) (by decide))))] at h; exact h
    exact th_vret E hr hlk hs hT_3 hS_3 ⟨⟨p_3_0.1, p_3_0.2.1, p_3_0.2.2.1, p_3_0.2.2.2.1, p_3_0.2.2.2.2.1, p_3_0.2.2.2.2.2⟩, (by omega)⟩ dX12_hello_30
  refine lv_aload_n hx hb dX12_hello_0 rfl (lv_at hl 0 rfl) ?_
  refine lv_iload_n hx hb dX12_hello_1 rfl (lv_at hl 1 rfl) ?_
  refine lv_aload_n hx hb dX12_hello_2 rfl (lv_at hl 0 rfl) ?_
  refine lv_iload_n hx hb dX12_hello_3 rfl (lv_at hl 1 rfl) ?_
  refine lv_iconst (v := 0) hx hb dX12_hello_4 (by decide) ?_
  refine th_Vi (As := [.int 1, .int 0]) (rest := [.int 1, .ref a0]) E hml hl.1 (y_get_v20 l D cI cS τ ρ hW H hT a0 ha0) lk_X12_99 yd_X12_get hT ha0 rfl (by decide) hS (fun _ h => h.elim) ⟨by decide, by decide⟩ (Nat.le_of_ble_eq_true rfl) ⟨by decide, by decide⟩ rfl dX12_hello_5 (fun r_4 H_4 locs_4 p_4 hT_4 hk_4 hS_4 => ?_)
  have p_4 : H = H_4 ∧ (ai H (ρ a0 0) 288 = r_4) := p_4
  obtain ⟨rfl, p_4_0⟩ := p_4
  have c_r_4 := congrArg Int32.toInt p_4_0
  refine lv_iconst (v := 2) hx hb dX12_hello_8 (by decide) ?_
  refine lv_icmp_ne (tgt := 16) hx hb dX12_hello_9 (by decide) (fun c_5 => ?_) (fun c_5 => ?_)
  · have f_5 : ¬ r_4.toInt = 2 := r_ne rfl (by decide) c_5
    refine lv_iconst (v := 5) hx hb dX12_hello_16 (by decide) ?_
    exact J_17 H locs_4 _ 5 hT_4 hS_4 hl (by decide) (by decide) ⟨hI.1, hI.2.1, hI.2.2.1, hI.2.2.2.1, hI.2.2.2.2.1, hI.2.2.2.2.2⟩ (by omega)
  · have f_5 : r_4.toInt = 2 := r_eq rfl (by decide) c_5
    refine lv_iconst (v := 1) hx hb dX12_hello_12 (by decide) ?_
    refine lv_goto (tgt := 17) hx hb dX12_hello_13 (by decide) ?_
    exact J_17 H locs_4 _ 1 hT_4 hS_4 hl (by decide) (by decide) ⟨hI.1, hI.2.1, hI.2.2.1, hI.2.2.2.1, hI.2.2.2.2.1, hI.2.2.2.2.2⟩ (by omega)
set_option maxHeartbeats 4000000 in
set_option maxRecDepth 100000 in
/-- the reference: set -/
theorem y_set_v44 (l : Launch) (D : va_G) (cI cS : ClassId) (τ : Nat → Option Nat) (ρ : Nat → Nat → Nat) (hW : WF τ ρ) (H : Heap) (hT : TH D cI cS τ ρ H) (a0 : Nat) (x2 : Int32) (ha0 : τ a0 = some 12) : MV l D cI cS τ ρ yX12_set cX12_set 4 none 0 0 H [.ref a0, .int 1, .int 1, .int x2] (fun (u : Heap) => (AU 985 H u (ρ a0 0) 289 x2)) (fun q => q = ρ a0 0) := by
  refine MV.of (by decide) (Nat.le_of_ble_eq_true rfl) ?_
  intro p e s m args below meth c E hml hr hlk hs ls hl
  have hx := E.1
  have hb := E.2.1
  have hown := E.2.2.1
  have hts := E.2.2.2.1
  have hS : SS (fun q => q = ρ a0 0) H H [] := SS.rf
  have hl : lv_has ls 4 [(0, .ref a0), (1, .int 1), (2, .int 1), (3, .int x2)] := hl
  refine lv_aload_n hx hb dX12_set_0 rfl (lv_at hl 0 rfl) ?_
  refine gf_X12_7 E hT hW ha0 dX12_set_1 (fun h_1 => ?_)
  refine lv_sipush (v := 288) hx hb dX12_set_4 (by decide) ?_
  refine lv_iload_n hx hb dX12_set_7 rfl (lv_at hl 1 rfl) ?_
  refine lv_imul hx hb dX12_set_8 ?_
  refine th_topi (y := 288) (by decide) ?_
  refine lv_iload_n hx hb dX12_set_9 rfl (lv_at hl 2 rfl) ?_
  refine lv_iadd hx hb dX12_set_10 ?_
  refine th_topi (y := 289) (by decide) ?_
  refine lv_iload_n hx hb dX12_set_11 rfl (lv_at hl 3 rfl) ?_
  refine th_iast E hT hS h_1 rfl (by decide) (vp_in_iff.mpr ⟨by decide, by decide⟩) dX12_set_12 (fun H_2 locs_2 hT_2 hU_2 hS_2 => ?_)
  have hU_2 : AU 985 H H_2 (ρ a0 0) 289 x2 := hU_2
  exact th_vret E hr hlk hs hT_2 hS_2 hU_2 dX12_set_13
