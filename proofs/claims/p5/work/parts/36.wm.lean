/-! THE REFERENCE: weak contracts (written by wip/gen) -/
set_option maxHeartbeats 4000000 in
set_option maxRecDepth 100000 in
/-- the reference: times -/
theorem y_times_v4 (l : Launch) (D : va_G) (cI cS : ClassId) (τ : Nat → Option Nat) (ρ : Nat → Nat → Nat) (hW : WF τ ρ) (H : Heap) (hT : TH D cI cS τ ρ H) (a0 : Nat) (ha0 : τ a0 = some 12) (N : Int) (hN0 : 0 ≤ N) (hN1 : N ≤ 600) (hI : IM D ρ N H a0) : MV l D cI cS τ ρ yX12_times cX12_times 3 none 1 23 H [.ref a0, .int 1, .int 0] (fun (u : Heap) => (IM D ρ N u a0) ∧ ((ai H (ρ a0 0) 976).toInt ≤ (ai u (ρ a0 0) 976).toInt)) (fun q => q = ρ a0 0) := by
  refine MV.of (by decide) (Nat.le_of_ble_eq_true rfl) ?_
  intro p e s m args below meth c E hml hr hlk hs ls hl
  have hx := E.1
  have hb := E.2.1
  have hown := E.2.2.1
  have hts := E.2.2.2.1
  have hS : SS (fun q => q = ρ a0 0) H H [] := SS.rf
  have hl : lv_has ls 3 [(0, .ref a0), (1, .int 1), (2, .int 0)] := hl
  have n01 := hI.2.2.2.2.2.1
  have n23 := hI.2.2.2.2.2.2.1
  refine lv_aload_n hx hb dX12_times_0 rfl (lv_at hl 0 rfl) ?_
  refine lv_iload_n hx hb dX12_times_1 rfl (lv_at hl 1 rfl) ?_
  refine lv_bipush (v := 16) hx hb dX12_times_2 (by decide) ?_
  refine th_Vi (As := [.int 1, .int 16]) (rest := []) E hml hl.1 (y_get_v30 l D cI cS τ ρ hW H hT a0 ha0) lk_X12_99 yd_X12_get hT ha0 rfl (by decide) hS (fun _ h => h.elim) ⟨by decide, by decide⟩ (Nat.le_of_ble_eq_true rfl) ⟨by decide, by decide⟩ rfl dX12_times_4 (fun r_1 H_1 locs_1 p_1 hT_1 hk_1 hS_1 => ?_)
  have p_1 : H = H_1 ∧ (ai H (ρ a0 0) 304 = r_1) := p_1
  obtain ⟨rfl, p_1_0⟩ := p_1
  have c_r_1 := congrArg Int32.toInt p_1_0
  refine lv_bipush (v := (-4)) hx hb dX12_times_7 (by decide) ?_
  refine lv_icmp_ne (tgt := 35) hx hb dX12_times_9 (by decide) (fun c_2 => ?_) (fun c_2 => ?_)
  · have f_2 : ¬ r_1.toInt = -4 := r_ne rfl (by decide) c_2
    exact th_vret E hr hlk hs hT_1 hS_1 ⟨⟨hI.1, hI.2.1, hI.2.2.1, hI.2.2.2.1, hI.2.2.2.2.1, hI.2.2.2.2.2⟩, (by omega)⟩ dX12_times_35
  · have f_2 : r_1.toInt = -4 := r_eq rfl (by decide) c_2
    refine lv_aload_n hx hb dX12_times_12 rfl (lv_at hl 0 rfl) ?_
    refine lv_iload_n hx hb dX12_times_13 rfl (lv_at hl 1 rfl) ?_
    refine lv_bipush (v := 16) hx hb dX12_times_14 (by decide) ?_
    refine lv_iload_n hx hb dX12_times_16 rfl (lv_at hl 2 rfl) ?_
    refine th_Vv (As := [.int 1, .int 16, .int 0]) (rest := []) E hml hl.1 (y_set_v65 l D cI cS τ ρ hW H hT_1 a0 ha0) lk_X12_95 yd_X12_set hT_1 ha0 rfl (by decide) hS_1 (fun q h => h) ⟨by decide, by decide⟩ (Nat.le_of_ble_eq_true rfl) ⟨by decide, by decide⟩ rfl dX12_times_17 (fun H_3 locs_3 p_3 hT_3 hk_3 hS_3 => ?_)
    have p_3 : (AU 985 H H_3 (ρ a0 0) 304 (0)) := p_3
    have hW_3 : PW N H_3 (ρ a0 0) := PW.put hI.1 p_3 (by show (-2147483648 : Int) ≤ _; exact i_min _) (by show _ ≤ (2147483647 : Int); exact i_max _)
    refine lv_aload_n hx hb dX12_times_20 rfl (lv_at hl 0 rfl) ?_
    refine lv_iload_n hx hb dX12_times_21 rfl (lv_at hl 1 rfl) ?_
    refine lv_bipush (v := 18) hx hb dX12_times_22 (by decide) ?_
    refine lv_aload_n hx hb dX12_times_24 rfl (lv_at hl 0 rfl) ?_
    refine gf_X12_7 E hT_3 hW ha0 dX12_times_25 (fun h_4 => ?_)
    refine lv_sipush (v := 977) hx hb dX12_times_28 (by decide) ?_
    refine th_iald E hT_3 h_4 (by decide) (vp_in_iff.mpr ⟨by decide, by decide⟩) dX12_times_31 ?_
    refine th_topi (y := ai H_3 (ρ a0 0) 977) rfl ?_
    refine th_topi (y := ai H (ρ a0 0) 977) (AU.o p_3 (by decide) (by decide)) ?_
    refine lv_topi (fun x_5 ex_5 => ?_)
    have c_x_5 := congrArg Int32.toInt ex_5.symm
    refine th_Vv (As := [.int 1, .int 18, .int x_5]) (rest := []) E hml hl.1 (y_set_v49 l D cI cS τ ρ hW H_3 hT_3 a0 x_5 ha0) lk_X12_95 yd_X12_set hT_3 ha0 rfl (by decide) hS_3 (fun q h => h) ⟨by decide, by decide⟩ (Nat.le_of_ble_eq_true rfl) ⟨by decide, by decide⟩ rfl dX12_times_32 (fun H_6 locs_6 p_6 hT_6 hk_6 hS_6 => ?_)
    have p_6 : (AU 985 H_3 H_6 (ρ a0 0) 306 x_5) := p_6
    have hW_6 : PW N H_6 (ρ a0 0) := PW.put hW_3 p_6 (by show (-2147483648 : Int) ≤ _; exact i_min _) (by show _ ≤ (2147483647 : Int); exact i_max _)
    exact th_vret E hr hlk hs hT_6 hS_6 ⟨⟨hW_6, (QS.same (Eq.trans (AU.o p_6 (by decide) (by decide)) (AU.o p_3 (by decide) (by decide))) (Eq.trans (AU.o p_6 (by decide) (by decide)) (AU.o p_3 (by decide) (by decide))) hI.2.1), (QS.same (Eq.trans (AU.o p_6 (by decide) (by decide)) (AU.o p_3 (by decide) (by decide))) (Eq.trans (AU.o p_6 (by decide) (by decide)) (AU.o p_3 (by decide) (by decide))) hI.2.2.1), (PL.q (p_6.2 _ (th_ne (hW _ 12 2 ha0 (by decide) (by decide) (by decide)) (hW _ 12 0 ha0 (by decide) (by decide) (by decide)) (by decide))) (PL.q (p_3.2 _ (th_ne (hW _ 12 2 ha0 (by decide) (by decide) (by decide)) (hW _ 12 0 ha0 (by decide) (by decide) (by decide)) (by decide))) hI.2.2.2.1)), (PL.q (p_6.2 _ (th_ne (hW _ 12 3 ha0 (by decide) (by decide) (by decide)) (hW _ 12 0 ha0 (by decide) (by decide) (by decide)) (by decide))) (PL.q (p_3.2 _ (th_ne (hW _ 12 3 ha0 (by decide) (by decide) (by decide)) (hW _ 12 0 ha0 (by decide) (by decide) (by decide)) (by decide))) hI.2.2.2.2.1)), (IF.q (p_6.2 _ (th_ne ha0 (hW _ 12 0 ha0 (by decide) (by decide) (by decide)) (by decide))) (IF.q (p_3.2 _ (th_ne ha0 (hW _ 12 0 ha0 (by decide) (by decide) (by decide)) (by decide))) hI.2.2.2.2.2))⟩, (by rw [(Eq.trans (AU.o p_6 (by decide) (by decide)) (AU.o p_3 (by decide) (by decide)))]; omega)⟩ dX12_times_35
set_option maxHeartbeats 4000000 in
set_option maxRecDepth 100000 in
/-- the reference: set -/
theorem y_set_v66 (l : Launch) (D : va_G) (cI cS : ClassId) (τ : Nat → Option Nat) (ρ : Nat → Nat → Nat) (hW : WF τ ρ) (H : Heap) (hT : TH D cI cS τ ρ H) (a0 : Nat) (ha0 : τ a0 = some 12) : MV l D cI cS τ ρ yX12_set cX12_set 4 none 0 0 H [.ref a0, .int 1, .int 2, .int 1] (fun (u : Heap) => (AU 985 H u (ρ a0 0) 290 (1))) (fun q => q = ρ a0 0) := by
  refine MV.of (by decide) (Nat.le_of_ble_eq_true rfl) ?_
  intro p e s m args below meth c E hml hr hlk hs ls hl
  have hx := E.1
  have hb := E.2.1
  have hown := E.2.2.1
  have hts := E.2.2.2.1
  have hS : SS (fun q => q = ρ a0 0) H H [] := SS.rf
  have hl : lv_has ls 4 [(0, .ref a0), (1, .int 1), (2, .int 2), (3, .int 1)] := hl
  refine lv_aload_n hx hb dX12_set_0 rfl (lv_at hl 0 rfl) ?_
  refine gf_X12_7 E hT hW ha0 dX12_set_1 (fun h_1 => ?_)
  refine lv_sipush (v := 288) hx hb dX12_set_4 (by decide) ?_
  refine lv_iload_n hx hb dX12_set_7 rfl (lv_at hl 1 rfl) ?_
  refine lv_imul hx hb dX12_set_8 ?_
  refine th_topi (y := 288) (by decide) ?_
  refine lv_iload_n hx hb dX12_set_9 rfl (lv_at hl 2 rfl) ?_
  refine lv_iadd hx hb dX12_set_10 ?_
  refine th_topi (y := 290) (by decide) ?_
  refine lv_iload_n hx hb dX12_set_11 rfl (lv_at hl 3 rfl) ?_
  refine th_iast E hT hS h_1 rfl (by decide) (vp_in_iff.mpr ⟨by decide, by decide⟩) dX12_set_12 (fun H_2 locs_2 hT_2 hU_2 hS_2 => ?_)
  have hU_2 : AU 985 H H_2 (ρ a0 0) 290 (1) := hU_2
  exact th_vret E hr hlk hs hT_2 hS_2 hU_2 dX12_set_13
set_option maxHeartbeats 4000000 in
set_option maxRecDepth 100000 in
/-- the reference: callsOut -/
theorem y_callsOut_v2 (l : Launch) (D : va_G) (cI cS : ClassId) (τ : Nat → Option Nat) (ρ : Nat → Nat → Nat) (hW : WF τ ρ) (H : Heap) (hT : TH D cI cS τ ρ H) (a0 : Nat) (ha0 : τ a0 = some 12) (N : Int) (hN0 : 0 ≤ N) (hN1 : N ≤ 600) (hI : IM D ρ N H a0) : MV l D cI cS τ ρ yX12_callsOut cX12_callsOut 2 none 6 136 H [.ref a0, .int 1] (fun (u : Heap) => (IM D ρ N u a0) ∧ ((ai H (ρ a0 0) 976).toInt ≤ (ai u (ρ a0 0) 976).toInt)) (fun q => q = ρ a0 2 ∨ q = ρ a0 0) := by
  refine MV.of (by decide) (Nat.le_of_ble_eq_true rfl) ?_
  intro p e s m args below meth c E hml hr hlk hs ls hl
  have hx := E.1
  have hb := E.2.1
  have hown := E.2.2.1
  have hts := E.2.2.2.1
  have hS : SS (fun q => q = ρ a0 2 ∨ q = ρ a0 0) H H [] := SS.rf
  have hl : lv_has ls 2 [(0, .ref a0), (1, .int 1)] := hl
  have n01 := hI.2.2.2.2.2.1
  have n23 := hI.2.2.2.2.2.2.1
  refine lv_aload_n hx hb dX12_callsOut_0 rfl (lv_at hl 0 rfl) ?_
  refine lv_iload_n hx hb dX12_callsOut_1 rfl (lv_at hl 1 rfl) ?_
  refine th_Vv (As := [.int 1]) (rest := []) E hml hl.1 (y_hello_v2 l D cI cS τ ρ hW H hT a0 ha0 N hN0 hN1 ⟨hI.1, hI.2.1, hI.2.2.1, hI.2.2.2.1, hI.2.2.2.2.1, hI.2.2.2.2.2⟩) lk_X12_169 yd_X12_hello hT ha0 rfl (by decide) hS (fun q => (fun h => h.elim (fun h => (Or.inl h)) (fun h => (Or.inr h)))) ⟨by decide, by decide⟩ (Nat.le_of_ble_eq_true rfl) ⟨by decide, by decide⟩ rfl dX12_callsOut_2 (fun H_1 locs_1 p_1 hT_1 hk_1 hS_1 => ?_)
  have p_1 : (IM D ρ N H_1 a0) ∧ ((ai H (ρ a0 0) 976).toInt ≤ (ai H_1 (ρ a0 0) 976).toInt) := p_1
  obtain ⟨p_1_0, p_1_1⟩ := p_1
  have mn_1 : (ai H (ρ a0 0) 976).toInt ≤ (ai H_1 (ρ a0 0) 976).toInt := by exact p_1_1
  refine lv_aload_n hx hb dX12_callsOut_5 rfl (lv_at hl 0 rfl) ?_
  refine lv_iload_n hx hb dX12_callsOut_6 rfl (lv_at hl 1 rfl) ?_
  refine lv_iconst (v := 0) hx hb dX12_callsOut_7 (by decide) ?_
  refine th_Vv (As := [.int 1, .int 0]) (rest := []) E hml hl.1 (y_times_v4 l D cI cS τ ρ hW H_1 hT_1 a0 ha0 N hN0 hN1 ⟨p_1_0.1, p_1_0.2.1, p_1_0.2.2.1, p_1_0.2.2.2.1, p_1_0.2.2.2.2.1, p_1_0.2.2.2.2.2⟩) lk_X12_143 yd_X12_times hT_1 ha0 rfl (by decide) hS_1 (fun q h => (Or.inr h)) ⟨by decide, by decide⟩ (Nat.le_of_ble_eq_true rfl) ⟨by decide, by decide⟩ rfl dX12_callsOut_8 (fun H_2 locs_2 p_2 hT_2 hk_2 hS_2 => ?_)
  have p_2 : (IM D ρ N H_2 a0) ∧ ((ai H_1 (ρ a0 0) 976).toInt ≤ (ai H_2 (ρ a0 0) 976).toInt) := p_2
  obtain ⟨p_2_0, p_2_1⟩ := p_2
  have mn_2 : (ai H_1 (ρ a0 0) 976).toInt ≤ (ai H_2 (ρ a0 0) 976).toInt := by exact p_2_1
  refine lv_aload_n hx hb dX12_callsOut_11 rfl (lv_at hl 0 rfl) ?_
  refine lv_iload_n hx hb dX12_callsOut_12 rfl (lv_at hl 1 rfl) ?_
  refine lv_iconst (v := 2) hx hb dX12_callsOut_13 (by decide) ?_
  refine lv_iconst (v := 1) hx hb dX12_callsOut_14 (by decide) ?_
  refine th_Vv (As := [.int 1, .int 2, .int 1]) (rest := []) E hml hl.1 (y_set_v66 l D cI cS τ ρ hW H_2 hT_2 a0 ha0) lk_X12_95 yd_X12_set hT_2 ha0 rfl (by decide) hS_2 (fun q h => (Or.inr h)) ⟨by decide, by decide⟩ (Nat.le_of_ble_eq_true rfl) ⟨by decide, by decide⟩ rfl dX12_callsOut_15 (fun H_3 locs_3 p_3 hT_3 hk_3 hS_3 => ?_)
  have p_3 : (AU 985 H_2 H_3 (ρ a0 0) 290 (1)) := p_3
  have hW_3 : PW N H_3 (ρ a0 0) := PW.put p_2_0.1 p_3 (by show (0 : Int) ≤ (1 : Int32).toInt; have : (1 : Int32).toInt = 1 := (by decide); omega) (by show (1 : Int32).toInt ≤ (N + 2 : Int); have : (1 : Int32).toInt = 1 := (by decide); omega)
  exact th_vret E hr hlk hs hT_3 hS_3 ⟨⟨hW_3, (QS.same (AU.o p_3 (by decide) (by decide)) (AU.o p_3 (by decide) (by decide)) p_2_0.2.1), (QS.of (s := (ai H_2 (ρ a0 0) 288 : Int32)) (t := (1 : Int32)) (AU.o p_3 (by decide) (by decide)) (AU.s p_3 (by decide)) (by have j := p_2_0.2.2.1; unfold QS at j; have : (1 : Int32).toInt = 1 := (by decide); omega)), (PL.q (p_3.2 _ (th_ne (hW _ 12 2 ha0 (by decide) (by decide) (by decide)) (hW _ 12 0 ha0 (by decide) (by decide) (by decide)) (by decide))) p_2_0.2.2.2.1), (PL.q (p_3.2 _ (th_ne (hW _ 12 3 ha0 (by decide) (by decide) (by decide)) (hW _ 12 0 ha0 (by decide) (by decide) (by decide)) (by decide))) p_2_0.2.2.2.2.1), (IF.q (p_3.2 _ (th_ne ha0 (hW _ 12 0 ha0 (by decide) (by decide) (by decide)) (by decide))) p_2_0.2.2.2.2.2)⟩, (by rw [(AU.o p_3 (by decide) (by decide))]; omega)⟩ dX12_callsOut_18
set_option maxHeartbeats 4000000 in
set_option maxRecDepth 100000 in
/-- the reference: dropsAndBreaks -/
theorem y_dropsAndBreaks_v4 (l : Launch) (D : va_G) (cI cS : ClassId) (τ : Nat → Option Nat) (ρ : Nat → Nat → Nat) (hW : WF τ ρ) (H : Heap) (hT : TH D cI cS τ ρ H) (a0 : Nat) (ha0 : τ a0 = some 12) (N : Int) (hN0 : 0 ≤ N) (hN1 : N ≤ 600) (hI : IM D ρ N H a0) : MI l D cI cS τ ρ yX12_dropsAndBreaks cX12_dropsAndBreaks 3 (some .int) 3 67 H [.ref a0, .int 1, .int 3] (fun (r : Int32) (u : Heap) => (IM D ρ N u a0) ∧ ((ai H (ρ a0 0) 976).toInt ≤ (ai u (ρ a0 0) 976).toInt)) (fun q => q = ρ a0 2 ∨ q = ρ a0 0) := by
  refine MI.of (by decide) (Nat.le_of_ble_eq_true rfl) ?_
  intro p e s m args below meth c E hml hr hlk hs ls hl
  have hx := E.1
  have hb := E.2.1
  have hown := E.2.2.1
  have hts := E.2.2.2.1
  have hS : SS (fun q => q = ρ a0 2 ∨ q = ρ a0 0) H H [] := SS.rf
  have hl : lv_has ls 3 [(0, .ref a0), (1, .int 1), (2, .int 3)] := hl
  have n01 := hI.2.2.2.2.2.1
  have n23 := hI.2.2.2.2.2.2.1
  refine lv_aload_n hx hb dX12_dropsAndBreaks_0 rfl (lv_at hl 0 rfl) ?_
  refine lv_iload_n hx hb dX12_dropsAndBreaks_1 rfl (lv_at hl 1 rfl) ?_
  refine th_Vv (As := [.int 1]) (rest := []) E hml hl.1 (y_breaksIt l D cI cS τ ρ hW H hT a0 ha0 N hN0 hN1 ⟨hI.1, hI.2.1, hI.2.2.1, hI.2.2.2.1, hI.2.2.2.2.1, hI.2.2.2.2.2⟩) lk_X12_196 yd_X12_breaksIt hT ha0 rfl (by decide) hS (fun q => (fun h => h.elim (fun h => (Or.inl h)) (fun h => (Or.inr h)))) ⟨by decide, by decide⟩ (Nat.le_of_ble_eq_true rfl) ⟨by decide, by decide⟩ rfl dX12_dropsAndBreaks_2 (fun H_1 locs_1 p_1 hT_1 hk_1 hS_1 => ?_)
  have p_1 : (IM D ρ N H_1 a0) ∧ ((ai H (ρ a0 0) 976).toInt ≤ (ai H_1 (ρ a0 0) 976).toInt) := p_1
  obtain ⟨p_1_0, p_1_1⟩ := p_1
  have mn_1 : (ai H (ρ a0 0) 976).toInt ≤ (ai H_1 (ρ a0 0) 976).toInt := by exact p_1_1
  refine lv_aload_n hx hb dX12_dropsAndBreaks_5 rfl (lv_at hl 0 rfl) ?_
  refine lv_iload_n hx hb dX12_dropsAndBreaks_6 rfl (lv_at hl 2 rfl) ?_
  refine lv_iconst (v := 0) hx hb dX12_dropsAndBreaks_7 (by decide) ?_
  refine th_Vi (As := [.int 3, .int 0]) (rest := []) E hml hl.1 (y_drops_v7 l D cI cS τ ρ hW H_1 hT_1 a0 ha0 N hN0 hN1 ⟨p_1_0.1, p_1_0.2.1, p_1_0.2.2.1, p_1_0.2.2.2.1, p_1_0.2.2.2.2.1, p_1_0.2.2.2.2.2⟩) lk_X12_199 yd_X12_drops hT_1 ha0 rfl (by decide) hS_1 (fun q h => (Or.inr h)) ⟨by decide, by decide⟩ (Nat.le_of_ble_eq_true rfl) ⟨by decide, by decide⟩ rfl dX12_dropsAndBreaks_8 (fun r_2 H_2 locs_2 p_2 hT_2 hk_2 hS_2 => ?_)
  have p_2 : (IM D ρ N H_2 a0) ∧ ((ai H_1 (ρ a0 0) 976).toInt ≤ (ai H_2 (ρ a0 0) 976).toInt) := p_2
  obtain ⟨p_2_0, p_2_1⟩ := p_2
  have mn_2 : (ai H_1 (ρ a0 0) 976).toInt ≤ (ai H_2 (ρ a0 0) 976).toInt := by exact p_2_1
  exact th_iret E hr hlk hs hT_2 hS_2 ⟨⟨p_2_0.1, p_2_0.2.1, p_2_0.2.2.1, p_2_0.2.2.2.1, p_2_0.2.2.2.2.1, p_2_0.2.2.2.2.2⟩, (by omega)⟩ dX12_dropsAndBreaks_11
set_option maxHeartbeats 4000000 in
set_option maxRecDepth 100000 in
/-- the reference: inWaiting -/
theorem y_inWaiting_v2 (l : Launch) (D : va_G) (cI cS : ClassId) (τ : Nat → Option Nat) (ρ : Nat → Nat → Nat) (hW : WF τ ρ) (H : Heap) (hT : TH D cI cS τ ρ H) (a0 : Nat) (ha0 : τ a0 = some 12) (N : Int) (hN0 : 0 ≤ N) (hN1 : N ≤ 600) (hI : IM D ρ N H a0) (hp0 : (ai H (ρ a0 0) 288).toInt = 1) : MI l D cI cS τ ρ yX12_inWaiting cX12_inWaiting 2 (some .int) 7 157 H [.ref a0, .int 1] (fun (r : Int32) (u : Heap) => (IM D ρ N u a0) ∧ ((ai H (ρ a0 0) 976).toInt ≤ (ai u (ρ a0 0) 976).toInt)) (fun q => q = ρ a0 0 ∨ q = ρ a0 2) := by
  refine MI.of (by decide) (Nat.le_of_ble_eq_true rfl) ?_
  intro p e s m args below meth c E hml hr hlk hs ls hl
  have hx := E.1
  have hb := E.2.1
  have hown := E.2.2.1
  have hts := E.2.2.2.1
  have hS : SS (fun q => q = ρ a0 0 ∨ q = ρ a0 2) H H [] := SS.rf
  have hl : lv_has ls 2 [(0, .ref a0), (1, .int 1)] := hl
  have n01 := hI.2.2.2.2.2.1
  have n23 := hI.2.2.2.2.2.2.1
  refine lv_aload_n hx hb dX12_inWaiting_0 rfl (lv_at hl 0 rfl) ?_
  refine lv_bipush (v := 8) hx hb dX12_inWaiting_1 (by decide) ?_
  refine th_Vi (As := [.int 8]) (rest := []) E hml hl.1 (y_has_v3 l D cI cS τ ρ hW H hT a0 ha0) lk_X12_202 yd_X12_has hT ha0 rfl (by decide) hS (fun _ h => h.elim) ⟨by decide, by decide⟩ (Nat.le_of_ble_eq_true rfl) ⟨by decide, by decide⟩ rfl dX12_inWaiting_3 (fun r_1 H_1 locs_1 p_1 hT_1 hk_1 hS_1 => ?_)
  have p_1 : H = H_1 ∧ (r_1 = 0 ∨ r_1 = 1) := p_1
  obtain ⟨rfl, p_1_0⟩ := p_1
  have z_1 := b_iv p_1_0
  refine lv_if_eq (tgt := 16) hx hb dX12_inWaiting_6 (by decide) (fun c_2 => ?_) (fun c_2 => ?_)
  · have f_2 : r_1.toInt = 0 := r_eq rfl (by decide) c_2
    refine lv_aload_n hx hb dX12_inWaiting_16 rfl (lv_at hl 0 rfl) ?_
    refine lv_iconst (v := 4) hx hb dX12_inWaiting_17 (by decide) ?_
    refine th_Vi (As := [.int 4]) (rest := []) E hml hl.1 (y_has_v2 l D cI cS τ ρ hW H hT_1 a0 ha0) lk_X12_202 yd_X12_has hT_1 ha0 rfl (by decide) hS_1 (fun _ h => h.elim) ⟨by decide, by decide⟩ (Nat.le_of_ble_eq_true rfl) ⟨by decide, by decide⟩ rfl dX12_inWaiting_18 (fun r_3 H_3 locs_3 p_3 hT_3 hk_3 hS_3 => ?_)
    have p_3 : H = H_3 ∧ (r_3 = 0 ∨ r_3 = 1) := p_3
    obtain ⟨rfl, p_3_0⟩ := p_3
    have z_3 := b_iv p_3_0
    refine lv_if_eq (tgt := 31) hx hb dX12_inWaiting_21 (by decide) (fun c_4 => ?_) (fun c_4 => ?_)
    · have f_4 : r_3.toInt = 0 := r_eq rfl (by decide) c_4
      refine lv_aload_n hx hb dX12_inWaiting_31 rfl (lv_at hl 0 rfl) ?_
      refine lv_iconst (v := 1) hx hb dX12_inWaiting_32 (by decide) ?_
      refine th_Vi (As := [.int 1]) (rest := []) E hml hl.1 (y_has_v4 l D cI cS τ ρ hW H hT_3 a0 ha0) lk_X12_202 yd_X12_has hT_3 ha0 rfl (by decide) hS_3 (fun _ h => h.elim) ⟨by decide, by decide⟩ (Nat.le_of_ble_eq_true rfl) ⟨by decide, by decide⟩ rfl dX12_inWaiting_33 (fun r_5 H_5 locs_5 p_5 hT_5 hk_5 hS_5 => ?_)
      have p_5 : H = H_5 ∧ (r_5 = 0 ∨ r_5 = 1) := p_5
      obtain ⟨rfl, p_5_0⟩ := p_5
      have z_5 := b_iv p_5_0
      refine lv_if_ne (tgt := 46) hx hb dX12_inWaiting_36 (by decide) (fun c_6 => ?_) (fun c_6 => ?_)
      · have f_6 : ¬ r_5.toInt = 0 := r_ne rfl (by decide) c_6
        have nz_r_5 : ¬ r_5 = 0 := c_6
        refine lv_aload_n hx hb dX12_inWaiting_46 rfl (lv_at hl 0 rfl) ?_
        refine lv_iload_n hx hb dX12_inWaiting_47 rfl (lv_at hl 1 rfl) ?_
        refine lv_iconst (v := 5) hx hb dX12_inWaiting_48 (by decide) ?_
        refine lv_iconst (v := 1) hx hb dX12_inWaiting_49 (by decide) ?_
        refine th_Vv (As := [.int 1, .int 5, .int 1]) (rest := []) E hml hl.1 (y_set_v42 l D cI cS τ ρ hW H hT_5 a0 ha0) lk_X12_95 yd_X12_set hT_5 ha0 rfl (by decide) hS_5 (fun q h => (Or.inl h)) ⟨by decide, by decide⟩ (Nat.le_of_ble_eq_true rfl) ⟨by decide, by decide⟩ rfl dX12_inWaiting_50 (fun H_7 locs_7 p_7 hT_7 hk_7 hS_7 => ?_)
        have p_7 : (AU 985 H H_7 (ρ a0 0) 293 (1)) := p_7
        have hW_7 : PW N H_7 (ρ a0 0) := PW.put hI.1 p_7 (by show (0 : Int) ≤ (1 : Int32).toInt; have : (1 : Int32).toInt = 1 := (by decide); omega) (by show (1 : Int32).toInt ≤ (N + 33 : Int); have : (1 : Int32).toInt = 1 := (by decide); omega)
        refine lv_aload_n hx hb dX12_inWaiting_53 rfl (lv_at hl 0 rfl) ?_
        refine lv_iload_n hx hb dX12_inWaiting_54 rfl (lv_at hl 1 rfl) ?_
        refine lv_iconst (v := 0) hx hb dX12_inWaiting_55 (by decide) ?_
        refine lv_iconst (v := 3) hx hb dX12_inWaiting_56 (by decide) ?_
        refine th_Vv (As := [.int 1, .int 0, .int 3]) (rest := []) E hml hl.1 (y_set_v43 l D cI cS τ ρ hW H_7 hT_7 a0 ha0) lk_X12_95 yd_X12_set hT_7 ha0 rfl (by decide) hS_7 (fun q h => (Or.inl h)) ⟨by decide, by decide⟩ (Nat.le_of_ble_eq_true rfl) ⟨by decide, by decide⟩ rfl dX12_inWaiting_57 (fun H_8 locs_8 p_8 hT_8 hk_8 hS_8 => ?_)
        have p_8 : (AU 985 H_7 H_8 (ρ a0 0) 288 (3)) := p_8
        have hW_8 : PW N H_8 (ρ a0 0) := PW.put hW_7 p_8 (by show (-2147483648 : Int) ≤ _; exact i_min _) (by show _ ≤ (2147483647 : Int); exact i_max _)
        refine lv_aload_n hx hb dX12_inWaiting_60 rfl (lv_at hl 0 rfl) ?_
        refine lv_iload_n hx hb dX12_inWaiting_61 rfl (lv_at hl 1 rfl) ?_
        refine th_Vv (As := [.int 1]) (rest := []) E hml hl.1 (y_callsOut_v2 l D cI cS τ ρ hW H_8 hT_8 a0 ha0 N hN0 hN1 ⟨hW_8, (QS.same (Eq.trans (AU.o p_8 (by decide) (by decide)) (AU.o p_7 (by decide) (by decide))) (Eq.trans (AU.o p_8 (by decide) (by decide)) (AU.o p_7 (by decide) (by decide))) hI.2.1), (QS.of (s := (3 : Int32)) (t := (ai H (ρ a0 0) 290 : Int32)) (AU.s p_8 (by decide)) (Eq.trans (AU.o p_8 (by decide) (by decide)) (AU.o p_7 (by decide) (by decide))) (by have j := hI.2.2.1; unfold QS at j; have : (3 : Int32).toInt = 3 := (by decide); omega)), (PL.q (p_8.2 _ (th_ne (hW _ 12 2 ha0 (by decide) (by decide) (by decide)) (hW _ 12 0 ha0 (by decide) (by decide) (by decide)) (by decide))) (PL.q (p_7.2 _ (th_ne (hW _ 12 2 ha0 (by decide) (by decide) (by decide)) (hW _ 12 0 ha0 (by decide) (by decide) (by decide)) (by decide))) hI.2.2.2.1)), (PL.q (p_8.2 _ (th_ne (hW _ 12 3 ha0 (by decide) (by decide) (by decide)) (hW _ 12 0 ha0 (by decide) (by decide) (by decide)) (by decide))) (PL.q (p_7.2 _ (th_ne (hW _ 12 3 ha0 (by decide) (by decide) (by decide)) (hW _ 12 0 ha0 (by decide) (by decide) (by decide)) (by decide))) hI.2.2.2.2.1)), (IF.q (p_8.2 _ (th_ne ha0 (hW _ 12 0 ha0 (by decide) (by decide) (by decide)) (by decide))) (IF.q (p_7.2 _ (th_ne ha0 (hW _ 12 0 ha0 (by decide) (by decide) (by decide)) (by decide))) hI.2.2.2.2.2))⟩) lk_X12_163 yd_X12_callsOut hT_8 ha0 rfl (by decide) hS_8 (fun q => (fun h => h.elim (fun h => (Or.inr h)) (fun h => (Or.inl h)))) ⟨by decide, by decide⟩ (Nat.le_of_ble_eq_true rfl) ⟨by decide, by decide⟩ rfl dX12_inWaiting_62 (fun H_9 locs_9 p_9 hT_9 hk_9 hS_9 => ?_)
        have p_9 : (IM D ρ N H_9 a0) ∧ ((ai H_8 (ρ a0 0) 976).toInt ≤ (ai H_9 (ρ a0 0) 976).toInt) := p_9
        obtain ⟨p_9_0, p_9_1⟩ := p_9
        have mn_9 : (ai H (ρ a0 0) 976).toInt ≤ (ai H_9 (ρ a0 0) 976).toInt := by have h := p_9_1; rw [(Eq.trans (AU.o p_8 (by decide) (by decide)) (AU.o p_7 (by decide) (by decide)))] at h; exact h
        refine lv_iconst (v := 1) hx hb dX12_inWaiting_65 (by decide) ?_
        exact th_iret E hr hlk hs hT_9 hS_9 ⟨⟨p_9_0.1, p_9_0.2.1, p_9_0.2.2.1, p_9_0.2.2.2.1, p_9_0.2.2.2.2.1, p_9_0.2.2.2.2.2⟩, (by omega)⟩ dX12_inWaiting_66
      · have f_6 : r_5.toInt = 0 := r_eq rfl (by decide) c_6
        refine lv_aload_n hx hb dX12_inWaiting_39 rfl (lv_at hl 0 rfl) ?_
        refine lv_iconst (v := 4) hx hb dX12_inWaiting_40 (by decide) ?_
        refine lv_iconst (v := 0) hx hb dX12_inWaiting_41 (by decide) ?_
        refine th_Vi (As := [.int 4, .int 0]) (rest := []) E hml hl.1 (y_drops l D cI cS τ ρ hW H hT_5 a0 ha0 N hN0 hN1 ⟨hI.1, hI.2.1, hI.2.2.1, hI.2.2.2.1, hI.2.2.2.2.1, hI.2.2.2.2.2⟩) lk_X12_199 yd_X12_drops hT_5 ha0 rfl (by decide) hS_5 (fun q h => (Or.inl h)) ⟨by decide, by decide⟩ (Nat.le_of_ble_eq_true rfl) ⟨by decide, by decide⟩ rfl dX12_inWaiting_42 (fun r_10 H_10 locs_10 p_10 hT_10 hk_10 hS_10 => ?_)
        have p_10 : (IM D ρ N H_10 a0) ∧ ((ai H (ρ a0 0) 976).toInt ≤ (ai H_10 (ρ a0 0) 976).toInt) := p_10
        obtain ⟨p_10_0, p_10_1⟩ := p_10
        have mn_10 : (ai H (ρ a0 0) 976).toInt ≤ (ai H_10 (ρ a0 0) 976).toInt := by exact p_10_1
        exact th_iret E hr hlk hs hT_10 hS_10 ⟨⟨p_10_0.1, p_10_0.2.1, p_10_0.2.2.1, p_10_0.2.2.2.1, p_10_0.2.2.2.2.1, p_10_0.2.2.2.2.2⟩, (by omega)⟩ dX12_inWaiting_45
    · have f_4 : ¬ r_3.toInt = 0 := r_ne rfl (by decide) c_4
      have nz_r_3 : ¬ r_3 = 0 := c_4
      refine lv_aload_n hx hb dX12_inWaiting_24 rfl (lv_at hl 0 rfl) ?_
      refine lv_iload_n hx hb dX12_inWaiting_25 rfl (lv_at hl 1 rfl) ?_
      refine lv_iconst (v := 3) hx hb dX12_inWaiting_26 (by decide) ?_
      refine th_Vi (As := [.int 1, .int 3]) (rest := []) E hml hl.1 (y_dropsAndBreaks_v4 l D cI cS τ ρ hW H hT_3 a0 ha0 N hN0 hN1 ⟨hI.1, hI.2.1, hI.2.2.1, hI.2.2.2.1, hI.2.2.2.2.1, hI.2.2.2.2.2⟩) lk_X12_205 yd_X12_dropsAndBreaks hT_3 ha0 rfl (by decide) hS_3 (fun q => (fun h => h.elim (fun h => (Or.inr h)) (fun h => (Or.inl h)))) ⟨by decide, by decide⟩ (Nat.le_of_ble_eq_true rfl) ⟨by decide, by decide⟩ rfl dX12_inWaiting_27 (fun r_11 H_11 locs_11 p_11 hT_11 hk_11 hS_11 => ?_)
      have p_11 : (IM D ρ N H_11 a0) ∧ ((ai H (ρ a0 0) 976).toInt ≤ (ai H_11 (ρ a0 0) 976).toInt) := p_11
      obtain ⟨p_11_0, p_11_1⟩ := p_11
      have mn_11 : (ai H (ρ a0 0) 976).toInt ≤ (ai H_11 (ρ a0 0) 976).toInt := by exact p_11_1
      exact th_iret E hr hlk hs hT_11 hS_11 ⟨⟨p_11_0.1, p_11_0.2.1, p_11_0.2.2.1, p_11_0.2.2.2.1, p_11_0.2.2.2.2.1, p_11_0.2.2.2.2.2⟩, (by omega)⟩ dX12_inWaiting_30
  · have f_2 : ¬ r_1.toInt = 0 := r_ne rfl (by decide) c_2
    have nz_r_1 : ¬ r_1 = 0 := c_2
    refine lv_aload_n hx hb dX12_inWaiting_9 rfl (lv_at hl 0 rfl) ?_
    refine lv_iconst (v := 2) hx hb dX12_inWaiting_10 (by decide) ?_
    refine lv_iconst (v := 0) hx hb dX12_inWaiting_11 (by decide) ?_
    refine th_Vi (As := [.int 2, .int 0]) (rest := []) E hml hl.1 (y_drops_v2 l D cI cS τ ρ hW H hT_1 a0 ha0 N hN0 hN1 ⟨hI.1, hI.2.1, hI.2.2.1, hI.2.2.2.1, hI.2.2.2.2.1, hI.2.2.2.2.2⟩) lk_X12_199 yd_X12_drops hT_1 ha0 rfl (by decide) hS_1 (fun q h => (Or.inl h)) ⟨by decide, by decide⟩ (Nat.le_of_ble_eq_true rfl) ⟨by decide, by decide⟩ rfl dX12_inWaiting_12 (fun r_12 H_12 locs_12 p_12 hT_12 hk_12 hS_12 => ?_)
    have p_12 : (IM D ρ N H_12 a0) ∧ ((ai H (ρ a0 0) 976).toInt ≤ (ai H_12 (ρ a0 0) 976).toInt) := p_12
    obtain ⟨p_12_0, p_12_1⟩ := p_12
    have mn_12 : (ai H (ρ a0 0) 976).toInt ≤ (ai H_12 (ρ a0 0) 976).toInt := by exact p_12_1
    exact th_iret E hr hlk hs hT_12 hS_12 ⟨⟨p_12_0.1, p_12_0.2.1, p_12_0.2.2.1, p_12_0.2.2.2.1, p_12_0.2.2.2.2.1, p_12_0.2.2.2.2.2⟩, (by omega)⟩ dX12_inWaiting_15
set_option maxHeartbeats 4000000 in
set_option maxRecDepth 100000 in
/-- the reference: inShut -/
theorem y_inShut_v2 (l : Launch) (D : va_G) (cI cS : ClassId) (τ : Nat → Option Nat) (ρ : Nat → Nat → Nat) (hW : WF τ ρ) (H : Heap) (hT : TH D cI cS τ ρ H) (a0 : Nat) (ha0 : τ a0 = some 12) (N : Int) (hN0 : 0 ≤ N) (hN1 : N ≤ 600) (hI : IM D ρ N H a0) : MI l D cI cS τ ρ yX12_inShut cX12_inShut 2 (some .int) 3 67 H [.ref a0, .int 1] (fun (r : Int32) (u : Heap) => (IM D ρ N u a0) ∧ ((ai H (ρ a0 0) 976).toInt ≤ (ai u (ρ a0 0) 976).toInt)) (fun q => q = ρ a0 2 ∨ q = ρ a0 0) := by
  refine MI.of (by decide) (Nat.le_of_ble_eq_true rfl) ?_
  intro p e s m args below meth c E hml hr hlk hs ls hl
  have hx := E.1
  have hb := E.2.1
  have hown := E.2.2.1
  have hts := E.2.2.2.1
  have hS : SS (fun q => q = ρ a0 2 ∨ q = ρ a0 0) H H [] := SS.rf
  have hl : lv_has ls 2 [(0, .ref a0), (1, .int 1)] := hl
  have n01 := hI.2.2.2.2.2.1
  have n23 := hI.2.2.2.2.2.2.1
  have J_14 : ∀ (H_c14 : Heap) (lc_c14 : List Loc) (ls : Array Slot), TH D cI cS τ ρ H_c14 → SS (fun q => q = ρ a0 2 ∨ q = ρ a0 0) H H_c14 lc_c14 → lv_has ls 2 [(0, .ref a0), (1, .int 1)] → IM D ρ N H_c14 a0 → (ai H (ρ a0 0) 976).toInt ≤ (ai H_c14 (ρ a0 0) 976).toInt → W p l e (rmO 3 67) s m args below meth c H_c14 lc_c14 0 0 (MQ below (va_Qi (fun (r : Int32) (u : Heap) => (IM D ρ N u a0) ∧ ((ai H (ρ a0 0) 976).toInt ≤ (ai u (ρ a0 0) 976).toInt)) (Bt D cI cS τ ρ H) (fun q => q = ρ a0 2 ∨ q = ρ a0 0)) args s 0 0 (fun q => q = ρ a0 2 ∨ q = ρ a0 0)) (F0 m 14 ls []) := by
    intro H_c14 lc_c14 ls hT_c14 hS_c14 hl hI_c14 hmn_c14
    refine lv_aload_n hx hb dX12_inShut_14 rfl (lv_at hl 0 rfl) ?_
    refine lv_iconst (v := 1) hx hb dX12_inShut_15 (by decide) ?_
    refine lv_iconst (v := 0) hx hb dX12_inShut_16 (by decide) ?_
    refine th_Vi (As := [.int 1, .int 0]) (rest := []) E hml hl.1 (y_drops_v8 l D cI cS τ ρ hW H_c14 hT_c14 a0 ha0 N hN0 hN1 ⟨hI_c14.1, hI_c14.2.1, hI_c14.2.2.1, hI_c14.2.2.2.1, hI_c14.2.2.2.2.1, hI_c14.2.2.2.2.2⟩) lk_X12_199 yd_X12_drops hT_c14 ha0 rfl (by decide) hS_c14 (fun q h => (Or.inr h)) ⟨by decide, by decide⟩ (Nat.le_of_ble_eq_true rfl) ⟨by decide, by decide⟩ rfl dX12_inShut_17 (fun r_1 H_1 locs_1 p_1 hT_1 hk_1 hS_1 => ?_)
    have p_1 : (IM D ρ N H_1 a0) ∧ ((ai H_c14 (ρ a0 0) 976).toInt ≤ (ai H_1 (ρ a0 0) 976).toInt) := p_1
    obtain ⟨p_1_0, p_1_1⟩ := p_1
    have mn_1 : (ai H_c14 (ρ a0 0) 976).toInt ≤ (ai H_1 (ρ a0 0) 976).toInt := by exact p_1_1
    exact th_iret E hr hlk hs hT_1 hS_1 ⟨⟨p_1_0.1, p_1_0.2.1, p_1_0.2.2.1, p_1_0.2.2.2.1, p_1_0.2.2.2.2.1, p_1_0.2.2.2.2.2⟩, (by omega)⟩ dX12_inShut_20
  refine lv_aload_n hx hb dX12_inShut_0 rfl (lv_at hl 0 rfl) ?_
  refine lv_bipush (v := 8) hx hb dX12_inShut_1 (by decide) ?_
  refine th_Vi (As := [.int 8]) (rest := []) E hml hl.1 (y_has_v3 l D cI cS τ ρ hW H hT a0 ha0) lk_X12_202 yd_X12_has hT ha0 rfl (by decide) hS (fun _ h => h.elim) ⟨by decide, by decide⟩ (Nat.le_of_ble_eq_true rfl) ⟨by decide, by decide⟩ rfl dX12_inShut_3 (fun r_2 H_2 locs_2 p_2 hT_2 hk_2 hS_2 => ?_)
  have p_2 : H = H_2 ∧ (r_2 = 0 ∨ r_2 = 1) := p_2
  obtain ⟨rfl, p_2_0⟩ := p_2
  have z_2 := b_iv p_2_0
  refine lv_if_ne (tgt := 14) hx hb dX12_inShut_6 (by decide) (fun c_3 => ?_) (fun c_3 => ?_)
  · have f_3 : ¬ r_2.toInt = 0 := r_ne rfl (by decide) c_3
    have nz_r_2 : ¬ r_2 = 0 := c_3
    exact J_14 H locs_2 _ hT_2 hS_2 hl ⟨hI.1, hI.2.1, hI.2.2.1, hI.2.2.2.1, hI.2.2.2.2.1, hI.2.2.2.2.2⟩ (by omega)
  · have f_3 : r_2.toInt = 0 := r_eq rfl (by decide) c_3
    refine lv_aload_n hx hb dX12_inShut_9 rfl (lv_at hl 0 rfl) ?_
    refine lv_iload_n hx hb dX12_inShut_10 rfl (lv_at hl 1 rfl) ?_
    refine th_Vv (As := [.int 1]) (rest := []) E hml hl.1 (y_breaksIt l D cI cS τ ρ hW H hT_2 a0 ha0 N hN0 hN1 ⟨hI.1, hI.2.1, hI.2.2.1, hI.2.2.2.1, hI.2.2.2.2.1, hI.2.2.2.2.2⟩) lk_X12_196 yd_X12_breaksIt hT_2 ha0 rfl (by decide) hS_2 (fun q => (fun h => h.elim (fun h => (Or.inl h)) (fun h => (Or.inr h)))) ⟨by decide, by decide⟩ (Nat.le_of_ble_eq_true rfl) ⟨by decide, by decide⟩ rfl dX12_inShut_11 (fun H_4 locs_4 p_4 hT_4 hk_4 hS_4 => ?_)
    have p_4 : (IM D ρ N H_4 a0) ∧ ((ai H (ρ a0 0) 976).toInt ≤ (ai H_4 (ρ a0 0) 976).toInt) := p_4
    obtain ⟨p_4_0, p_4_1⟩ := p_4
    have mn_4 : (ai H (ρ a0 0) 976).toInt ≤ (ai H_4 (ρ a0 0) 976).toInt := by exact p_4_1
    exact J_14 H_4 locs_4 _ hT_4 hS_4 hl ⟨p_4_0.1, p_4_0.2.1, p_4_0.2.2.1, p_4_0.2.2.2.1, p_4_0.2.2.2.2.1, p_4_0.2.2.2.2.2⟩ (by omega)
set_option maxHeartbeats 4000000 in
set_option maxRecDepth 100000 in
/-- the reference: arrives -/
theorem y_arrives (l : Launch) (D : va_G) (cI cS : ClassId) (τ : Nat → Option Nat) (ρ : Nat → Nat → Nat) (hW : WF τ ρ) (H : Heap) (hT : TH D cI cS τ ρ H) (a0 : Nat) (x0 : Int32) (ha0 : τ a0 = some 12) (N : Int) (hN0 : 0 ≤ N) (hN1 : N ≤ 600) (hI : IM D ρ N H a0) (hp0 : 0 ≤ x0.toInt ∧ x0.toInt + 1 ≤ (ai H (ρ a0 0) 976).toInt) : MI l D cI cS τ ρ yX12_arrives cX12_arrives 5 (some .int) 11 261 H [.ref a0, .int x0] (fun (r : Int32) (u : Heap) => (IM D ρ N u a0) ∧ ((ai H (ρ a0 0) 976).toInt - 1 ≤ (ai u (ρ a0 0) 976).toInt)) (fun q => q = ρ a0 3 ∨ q = ρ a0 0 ∨ q = ρ a0 2) := by
  refine MI.of (by decide) (Nat.le_of_ble_eq_true rfl) ?_
  intro p e s m args below meth c E hml hr hlk hs ls hl
  have hx := E.1
  have hb := E.2.1
  have hown := E.2.2.1
  have hts := E.2.2.2.1
  have hS : SS (fun q => q = ρ a0 3 ∨ q = ρ a0 0 ∨ q = ρ a0 2) H H [] := SS.rf
  have hl : lv_has ls 5 [(0, .ref a0), (1, .int x0)] := hl
  have n01 := hI.2.2.2.2.2.1
  have n23 := hI.2.2.2.2.2.2.1
  have bM : 0 ≤ (ai H (ρ a0 0) 976).toInt ∧ (ai H (ρ a0 0) 976).toInt ≤ 20 := hI.1 976 (by decide)
  have L_2 : ∀ (n : Nat) (H_c2 : Heap) (lc_c2 : List Loc) (ls : Array Slot) (y2_2 : Int32), TH D cI cS τ ρ H_c2 → SS (fun q => q = ρ a0 3 ∨ q = ρ a0 0 ∨ q = ρ a0 2) H H_c2 lc_c2 → lv_has ls 5 [(0, .ref a0), (1, .int x0), (2, .int y2_2)] → 0 ≤ x0.toInt → x0.toInt ≤ 19 → 0 ≤ y2_2.toInt → ai H_c2 (ρ a0 0) 976 = ai H (ρ a0 0) 976 → IM D ρ N H_c2 a0 → (20 - y2_2.toInt).toNat < n → W p l e (rmO 11 261) s m args below meth c H_c2 lc_c2 0 0 (MQ below (va_Qi (fun (r : Int32) (u : Heap) => (IM D ρ N u a0) ∧ ((ai H (ρ a0 0) 976).toInt - 1 ≤ (ai u (ρ a0 0) 976).toInt)) (Bt D cI cS τ ρ H) (fun q => q = ρ a0 3 ∨ q = ρ a0 0 ∨ q = ρ a0 2)) args s 0 0 (fun q => q = ρ a0 3 ∨ q = ρ a0 0 ∨ q = ρ a0 2)) (F0 m 2 ls []) := by
    intro n
    induction n with
    | zero => intro H_c2 lc_c2 ls y2_2 hT_c2 hS_c2 hl ly2_1 uy2_1 ly2_2 hg2_0 hI_c2 hm; exact absurd hm (Nat.not_lt_zero _)
    | succ n ih_2 =>
      intro H_c2 lc_c2 ls y2_2 hT_c2 hS_c2 hl ly2_1 uy2_1 ly2_2 hg2_0 hI_c2 hm_2
      have bb_g2_0 : 0 ≤ (ai H (ρ a0 0) 976).toInt ∧ (ai H (ρ a0 0) 976).toInt ≤ 20 := by rw [← hg2_0]; exact hI_c2.1 976 (by decide)
      have cg_g2_0 := congrArg Int32.toInt hg2_0
      refine lv_iload_n hx hb dX12_arrives_2 rfl (lv_at hl 2 rfl) ?_
      refine lv_bipush (v := 20) hx hb dX12_arrives_3 (by decide) ?_
      refine lv_icmp_ge (tgt := 35) hx hb dX12_arrives_5 (by decide) (fun c_1 => ?_) (fun c_1 => ?_)
      · have f_1 : 20 ≤ y2_2.toInt := r_le (by decide) rfl c_1
        refine lv_aload_n hx hb dX12_arrives_35 rfl (lv_at hl 0 rfl) ?_
        refine lv_iload_n hx hb dX12_arrives_36 rfl (lv_at hl 1 rfl) ?_
        refine th_Vv (As := [.int x0]) (rest := []) E hml hl.1 (y_removes l D cI cS τ ρ hW H_c2 hT_c2 a0 x0 ha0 N hN0 hN1 ⟨hI_c2.1, hI_c2.2.1, hI_c2.2.2.1, hI_c2.2.2.2.1, hI_c2.2.2.2.2.1, hI_c2.2.2.2.2.2⟩ (by have : (ai H_c2 (ρ a0 0) 976).toInt = (ai H (ρ a0 0) 976 : Int32).toInt := congrArg Int32.toInt hg2_0; omega)) lk_X12_236 yd_X12_removes hT_c2 ha0 rfl (by decide) hS_c2 (fun q h => (Or.inr (Or.inl h))) ⟨by decide, by decide⟩ (Nat.le_of_ble_eq_true rfl) ⟨by decide, by decide⟩ rfl dX12_arrives_37 (fun H_2 locs_2 p_2 hT_2 hk_2 hS_2 => ?_)
        have p_2 : (IM D ρ N H_2 a0) ∧ ((ai H_2 (ρ a0 0) 976).toInt = (ai H_c2 (ρ a0 0) 976).toInt - 1) := p_2
        obtain ⟨p_2_0, p_2_1⟩ := p_2
        refine lv_aload_n hx hb dX12_arrives_40 rfl (lv_at hl 0 rfl) ?_
        refine gf_X12_7 E hT_2 hW ha0 dX12_arrives_41 (fun h_3 => ?_)
        refine lv_sipush (v := 982) hx hb dX12_arrives_44 (by decide) ?_
        refine lv_iconst (v := 0) hx hb dX12_arrives_47 (by decide) ?_
        refine th_iast E hT_2 hS_2 h_3 (Or.inr (Or.inl rfl)) (by decide) (vp_in_iff.mpr ⟨by decide, by decide⟩) dX12_arrives_48 (fun H_4 locs_4 hT_4 hU_4 hS_4 => ?_)
        have hU_4 : AU 985 H_2 H_4 (ρ a0 0) 982 (0) := hU_4
        have hW_4 : PW N H_4 (ρ a0 0) := PW.put p_2_0.1 hU_4 (by show (-2147483648 : Int) ≤ _; exact i_min _) (by show (0 : Int32).toInt ≤ (2 : Int); have : (0 : Int32).toInt = 0 := (by decide); omega)
        refine lv_iconst (v := 1) hx hb dX12_arrives_49 (by decide) ?_
        refine lv_aload_n hx hb dX12_arrives_50 rfl (lv_at hl 0 rfl) ?_
        refine gf_X12_19 E hT_4 hW ha0 dX12_arrives_51 (fun h_5 => ?_)
        refine lv_iconst (v := 0) hx hb dX12_arrives_54 (by decide) ?_
        refine th_iald E hT_4 h_5 (by decide) (vp_in_iff.mpr ⟨by decide, by decide⟩) dX12_arrives_55 ?_
        refine th_topi (y := ai H_4 (ρ a0 3) 0) rfl ?_
        refine th_topi (y := ai H_c2 (ρ a0 3) 0) (Eq.trans (ai_q (hU_4.2 _ (th_ne (hW _ 12 3 ha0 (by decide) (by decide) (by decide)) (hW _ 12 0 ha0 (by decide) (by decide) (by decide)) (by decide)))) (ai_q (hk_2 _ (th_ne (hW _ 12 3 ha0 (by decide) (by decide) (by decide)) (hW _ 12 0 ha0 (by decide) (by decide) (by decide)) (by decide))))) ?_
        refine lv_topi (fun x_6 ex_6 => ?_)
        have c_x_6 := congrArg Int32.toInt ex_6.symm
        have b_x_6 : 0 ≤ x_6.toInt ∧ x_6.toInt ≤ 1 := by rw [← ex_6.symm]; exact hI_c2.2.2.2.2.1 0 (by decide)
        refine lv_isub hx hb dX12_arrives_56 ?_
        refine lv_topi (fun x_7 ex_7 => ?_)
        have q_7 : x_7.toInt = 1 - x_6.toInt := i_mi (by decide) rfl ex_7 (by omega) (by omega)
        refine lv_istore_n (lv' := [(2, .int x_7), (0, .ref a0), (1, .int x0)]) hx hb dX12_arrives_57 rfl hl (by decide) rfl (fun ls hl => ?_)
        rcases (show x_7.toInt = 0 ∨ x_7.toInt = 1 by omega) with g_9 | g_9
        · have e_9 : x_7 = 0 := i_eqc g_9 (by decide)
          have hl : lv_has ls 5 [(2, .int 0), (0, .ref a0), (1, .int x0)] := by rw [e_9] at hl; exact hl
          refine lv_aload_n hx hb dX12_arrives_58 rfl (lv_at hl 1 rfl) ?_
          refine lv_iload_n hx hb dX12_arrives_59 rfl (lv_at hl 0 rfl) ?_
          refine lv_iconst (v := 0) hx hb dX12_arrives_60 (by decide) ?_
          refine th_Vi (As := [.int 0, .int 0]) (rest := []) E hml hl.1 (y_get_v21 l D cI cS τ ρ hW H_4 hT_4 a0 ha0) lk_X12_99 yd_X12_get hT_4 ha0 rfl (by decide) hS_4 (fun _ h => h.elim) ⟨by decide, by decide⟩ (Nat.le_of_ble_eq_true rfl) ⟨by decide, by decide⟩ rfl dX12_arrives_61 (fun r_8 H_8 locs_8 p_8 hT_8 hk_8 hS_8 => ?_)
          have p_8 : H_4 = H_8 ∧ (ai H_4 (ρ a0 0) 0 = r_8) := p_8
          obtain ⟨rfl, p_8_0⟩ := p_8
          have t_8 : ai H_2 (ρ a0 0) 0 = r_8 := (AU.o hU_4 (by decide) (by decide)).symm.trans p_8_0
          have c_r_8 := congrArg Int32.toInt t_8
          refine lv_istore_n (lv' := [(3, .int r_8), (2, .int 0), (0, .ref a0), (1, .int x0)]) hx hb dX12_arrives_64 rfl hl (by decide) rfl (fun ls hl => ?_)
          refine lv_iload_n hx hb dX12_arrives_65 rfl (lv_at hl 0 rfl) ?_
          refine lv_if_ne (tgt := 77) hx hb dX12_arrives_66 (by decide) (fun c_9 => ?_) (fun c_9 => ?_)
          · have f_9 : ¬ r_8.toInt = 0 := r_ne rfl (by decide) c_9
            have nz_r_8 : ¬ r_8 = 0 := c_9
            refine lv_iload_n hx hb dX12_arrives_77 rfl (lv_at hl 0 rfl) ?_
            refine lv_iconst (v := 1) hx hb dX12_arrives_78 (by decide) ?_
            refine lv_icmp_ne (tgt := 90) hx hb dX12_arrives_79 (by decide) (fun c_10 => ?_) (fun c_10 => ?_)
            · have f_10 : ¬ r_8.toInt = 1 := r_ne rfl (by decide) c_10
              refine lv_iload_n hx hb dX12_arrives_90 rfl (lv_at hl 0 rfl) ?_
              refine lv_iconst (v := 2) hx hb dX12_arrives_91 (by decide) ?_
              refine lv_icmp_ne (tgt := 103) hx hb dX12_arrives_92 (by decide) (fun c_11 => ?_) (fun c_11 => ?_)
              · have f_11 : ¬ r_8.toInt = 2 := r_ne rfl (by decide) c_11
                refine lv_aload_n hx hb dX12_arrives_103 rfl (lv_at hl 2 rfl) ?_
                refine lv_iload_n hx hb dX12_arrives_104 rfl (lv_at hl 1 rfl) ?_
                refine th_Vi (As := [.int 0]) (rest := []) E hml hl.1 (y_inOthers l D cI cS τ ρ hW H_4 hT_8 a0 ha0 N hN0 hN1 ⟨hW_4, (QS.same (((AU.o hU_4 (by decide) (by decide)).trans t_8).trans t_8.symm) (AU.o hU_4 (by decide) (by decide)) p_2_0.2.1), (QS.same (AU.o hU_4 (by decide) (by decide)) (AU.o hU_4 (by decide) (by decide)) p_2_0.2.2.1), (PL.q (hU_4.2 _ (th_ne (hW _ 12 2 ha0 (by decide) (by decide) (by decide)) (hW _ 12 0 ha0 (by decide) (by decide) (by decide)) (by decide))) p_2_0.2.2.2.1), (PL.q (hU_4.2 _ (th_ne (hW _ 12 3 ha0 (by decide) (by decide) (by decide)) (hW _ 12 0 ha0 (by decide) (by decide) (by decide)) (by decide))) p_2_0.2.2.2.2.1), (IF.q (hU_4.2 _ (th_ne ha0 (hW _ 12 0 ha0 (by decide) (by decide) (by decide)) (by decide))) p_2_0.2.2.2.2.2)⟩) lk_X12_248 yd_X12_inOthers hT_8 ha0 rfl (by decide) hS_8 (fun q => (fun h => h.elim (fun h => (Or.inr (Or.inr h))) (fun h => (Or.inr (Or.inl h))))) ⟨by decide, by decide⟩ (Nat.le_of_ble_eq_true rfl) ⟨by decide, by decide⟩ rfl dX12_arrives_105 (fun r_12 H_12 locs_12 p_12 hT_12 hk_12 hS_12 => ?_)
                have p_12 : (IM D ρ N H_12 a0) ∧ ((ai H_4 (ρ a0 0) 976).toInt ≤ (ai H_12 (ρ a0 0) 976).toInt) := p_12
                obtain ⟨p_12_0, p_12_1⟩ := p_12
                have mn_12 : (ai H_2 (ρ a0 0) 976).toInt ≤ (ai H_12 (ρ a0 0) 976).toInt := by have h := p_12_1; rw [(AU.o hU_4 (by decide) (by decide))] at h; exact h
                refine lv_istore (lv' := [(4, .int r_12), (3, .int r_8), (2, .int 0), (0, .ref a0), (1, .int x0)]) hx hb dX12_arrives_108 hl (by decide) rfl (fun ls hl => ?_)
                refine lv_aload_n hx hb dX12_arrives_110 rfl (lv_at hl 3 rfl) ?_
                refine lv_iload_n hx hb dX12_arrives_111 rfl (lv_at hl 2 rfl) ?_
                refine th_Vv (As := [.int 0]) (rest := []) E hml hl.1 (y_settles l D cI cS τ ρ hW H_12 hT_12 a0 ha0 N hN0 hN1 ⟨p_12_0.1, p_12_0.2.1, p_12_0.2.2.1, p_12_0.2.2.2.1, p_12_0.2.2.2.2.1, p_12_0.2.2.2.2.2⟩) lk_X12_166 yd_X12_settles hT_12 ha0 rfl (by decide) hS_12 (fun q h => (Or.inr (Or.inl h))) ⟨by decide, by decide⟩ (Nat.le_of_ble_eq_true rfl) ⟨by decide, by decide⟩ rfl dX12_arrives_112 (fun H_13 locs_13 p_13 hT_13 hk_13 hS_13 => ?_)
                have p_13 : (IM D ρ N H_13 a0) ∧ ((ai H_12 (ρ a0 0) 976).toInt ≤ (ai H_13 (ρ a0 0) 976).toInt) := p_13
                obtain ⟨p_13_0, p_13_1⟩ := p_13
                have mn_13 : (ai H_12 (ρ a0 0) 976).toInt ≤ (ai H_13 (ρ a0 0) 976).toInt := by exact p_13_1
                refine lv_iload hx hb dX12_arrives_115 (lv_at hl 0 rfl) ?_
                exact th_iret E hr hlk hs hT_13 hS_13 ⟨⟨p_13_0.1, p_13_0.2.1, p_13_0.2.2.1, p_13_0.2.2.2.1, p_13_0.2.2.2.2.1, p_13_0.2.2.2.2.2⟩, (by omega)⟩ dX12_arrives_117
              · have f_11 : r_8.toInt = 2 := r_eq rfl (by decide) c_11
                refine lv_aload_n hx hb dX12_arrives_95 rfl (lv_at hl 2 rfl) ?_
                refine lv_iload_n hx hb dX12_arrives_96 rfl (lv_at hl 1 rfl) ?_
                refine th_Vi (As := [.int 0]) (rest := []) E hml hl.1 (y_inCalling_v2 l D cI cS τ ρ hW H_4 hT_8 a0 ha0 N hN0 hN1 ⟨hW_4, (QS.same (((AU.o hU_4 (by decide) (by decide)).trans t_8).trans t_8.symm) (AU.o hU_4 (by decide) (by decide)) p_2_0.2.1), (QS.same (AU.o hU_4 (by decide) (by decide)) (AU.o hU_4 (by decide) (by decide)) p_2_0.2.2.1), (PL.q (hU_4.2 _ (th_ne (hW _ 12 2 ha0 (by decide) (by decide) (by decide)) (hW _ 12 0 ha0 (by decide) (by decide) (by decide)) (by decide))) p_2_0.2.2.2.1), (PL.q (hU_4.2 _ (th_ne (hW _ 12 3 ha0 (by decide) (by decide) (by decide)) (hW _ 12 0 ha0 (by decide) (by decide) (by decide)) (by decide))) p_2_0.2.2.2.2.1), (IF.q (hU_4.2 _ (th_ne ha0 (hW _ 12 0 ha0 (by decide) (by decide) (by decide)) (by decide))) p_2_0.2.2.2.2.2)⟩ (by have : (ai H_4 (ρ a0 0) 0).toInt = (r_8 : Int32).toInt := congrArg Int32.toInt ((AU.o hU_4 (by decide) (by decide)).trans t_8); omega)) lk_X12_245 yd_X12_inCalling hT_8 ha0 rfl (by decide) hS_8 (fun q => (fun h => h.elim (fun h => (Or.inr (Or.inl h))) (fun h => (Or.inr (Or.inr h))))) ⟨by decide, by decide⟩ (Nat.le_of_ble_eq_true rfl) ⟨by decide, by decide⟩ rfl dX12_arrives_97 (fun r_14 H_14 locs_14 p_14 hT_14 hk_14 hS_14 => ?_)
                have p_14 : (IM D ρ N H_14 a0) ∧ ((ai H_4 (ρ a0 0) 976).toInt ≤ (ai H_14 (ρ a0 0) 976).toInt) := p_14
                obtain ⟨p_14_0, p_14_1⟩ := p_14
                have mn_14 : (ai H_2 (ρ a0 0) 976).toInt ≤ (ai H_14 (ρ a0 0) 976).toInt := by have h := p_14_1; rw [(AU.o hU_4 (by decide) (by decide))] at h; exact h
                refine lv_goto (tgt := 108) hx hb dX12_arrives_100 (by decide) ?_
                refine lv_istore (lv' := [(4, .int r_14), (3, .int r_8), (2, .int 0), (0, .ref a0), (1, .int x0)]) hx hb dX12_arrives_108 hl (by decide) rfl (fun ls hl => ?_)
                refine lv_aload_n hx hb dX12_arrives_110 rfl (lv_at hl 3 rfl) ?_
                refine lv_iload_n hx hb dX12_arrives_111 rfl (lv_at hl 2 rfl) ?_
                refine th_Vv (As := [.int 0]) (rest := []) E hml hl.1 (y_settles l D cI cS τ ρ hW H_14 hT_14 a0 ha0 N hN0 hN1 ⟨p_14_0.1, p_14_0.2.1, p_14_0.2.2.1, p_14_0.2.2.2.1, p_14_0.2.2.2.2.1, p_14_0.2.2.2.2.2⟩) lk_X12_166 yd_X12_settles hT_14 ha0 rfl (by decide) hS_14 (fun q h => (Or.inr (Or.inl h))) ⟨by decide, by decide⟩ (Nat.le_of_ble_eq_true rfl) ⟨by decide, by decide⟩ rfl dX12_arrives_112 (fun H_15 locs_15 p_15 hT_15 hk_15 hS_15 => ?_)
                have p_15 : (IM D ρ N H_15 a0) ∧ ((ai H_14 (ρ a0 0) 976).toInt ≤ (ai H_15 (ρ a0 0) 976).toInt) := p_15
                obtain ⟨p_15_0, p_15_1⟩ := p_15
                have mn_15 : (ai H_14 (ρ a0 0) 976).toInt ≤ (ai H_15 (ρ a0 0) 976).toInt := by exact p_15_1
                refine lv_iload hx hb dX12_arrives_115 (lv_at hl 0 rfl) ?_
                exact th_iret E hr hlk hs hT_15 hS_15 ⟨⟨p_15_0.1, p_15_0.2.1, p_15_0.2.2.1, p_15_0.2.2.2.1, p_15_0.2.2.2.2.1, p_15_0.2.2.2.2.2⟩, (by omega)⟩ dX12_arrives_117
            · have f_10 : r_8.toInt = 1 := r_eq rfl (by decide) c_10
              refine lv_aload_n hx hb dX12_arrives_82 rfl (lv_at hl 2 rfl) ?_
              refine lv_iload_n hx hb dX12_arrives_83 rfl (lv_at hl 1 rfl) ?_
              refine th_Vi (As := [.int 0]) (rest := []) E hml hl.1 (y_inWaiting l D cI cS τ ρ hW H_4 hT_8 a0 ha0 N hN0 hN1 ⟨hW_4, (QS.same (((AU.o hU_4 (by decide) (by decide)).trans t_8).trans t_8.symm) (AU.o hU_4 (by decide) (by decide)) p_2_0.2.1), (QS.same (AU.o hU_4 (by decide) (by decide)) (AU.o hU_4 (by decide) (by decide)) p_2_0.2.2.1), (PL.q (hU_4.2 _ (th_ne (hW _ 12 2 ha0 (by decide) (by decide) (by decide)) (hW _ 12 0 ha0 (by decide) (by decide) (by decide)) (by decide))) p_2_0.2.2.2.1), (PL.q (hU_4.2 _ (th_ne (hW _ 12 3 ha0 (by decide) (by decide) (by decide)) (hW _ 12 0 ha0 (by decide) (by decide) (by decide)) (by decide))) p_2_0.2.2.2.2.1), (IF.q (hU_4.2 _ (th_ne ha0 (hW _ 12 0 ha0 (by decide) (by decide) (by decide)) (by decide))) p_2_0.2.2.2.2.2)⟩ (by have : (ai H_4 (ρ a0 0) 0).toInt = (r_8 : Int32).toInt := congrArg Int32.toInt ((AU.o hU_4 (by decide) (by decide)).trans t_8); omega)) lk_X12_242 yd_X12_inWaiting hT_8 ha0 rfl (by decide) hS_8 (fun q => (fun h => h.elim (fun h => (Or.inr (Or.inl h))) (fun h => (Or.inr (Or.inr h))))) ⟨by decide, by decide⟩ (Nat.le_of_ble_eq_true rfl) ⟨by decide, by decide⟩ rfl dX12_arrives_84 (fun r_16 H_16 locs_16 p_16 hT_16 hk_16 hS_16 => ?_)
              have p_16 : (IM D ρ N H_16 a0) ∧ ((ai H_4 (ρ a0 0) 976).toInt ≤ (ai H_16 (ρ a0 0) 976).toInt) := p_16
              obtain ⟨p_16_0, p_16_1⟩ := p_16
              have mn_16 : (ai H_2 (ρ a0 0) 976).toInt ≤ (ai H_16 (ρ a0 0) 976).toInt := by have h := p_16_1; rw [(AU.o hU_4 (by decide) (by decide))] at h; exact h
              refine lv_goto (tgt := 108) hx hb dX12_arrives_87 (by decide) ?_
              refine lv_istore (lv' := [(4, .int r_16), (3, .int r_8), (2, .int 0), (0, .ref a0), (1, .int x0)]) hx hb dX12_arrives_108 hl (by decide) rfl (fun ls hl => ?_)
              refine lv_aload_n hx hb dX12_arrives_110 rfl (lv_at hl 3 rfl) ?_
              refine lv_iload_n hx hb dX12_arrives_111 rfl (lv_at hl 2 rfl) ?_
              refine th_Vv (As := [.int 0]) (rest := []) E hml hl.1 (y_settles l D cI cS τ ρ hW H_16 hT_16 a0 ha0 N hN0 hN1 ⟨p_16_0.1, p_16_0.2.1, p_16_0.2.2.1, p_16_0.2.2.2.1, p_16_0.2.2.2.2.1, p_16_0.2.2.2.2.2⟩) lk_X12_166 yd_X12_settles hT_16 ha0 rfl (by decide) hS_16 (fun q h => (Or.inr (Or.inl h))) ⟨by decide, by decide⟩ (Nat.le_of_ble_eq_true rfl) ⟨by decide, by decide⟩ rfl dX12_arrives_112 (fun H_17 locs_17 p_17 hT_17 hk_17 hS_17 => ?_)
              have p_17 : (IM D ρ N H_17 a0) ∧ ((ai H_16 (ρ a0 0) 976).toInt ≤ (ai H_17 (ρ a0 0) 976).toInt) := p_17
              obtain ⟨p_17_0, p_17_1⟩ := p_17
              have mn_17 : (ai H_16 (ρ a0 0) 976).toInt ≤ (ai H_17 (ρ a0 0) 976).toInt := by exact p_17_1
              refine lv_iload hx hb dX12_arrives_115 (lv_at hl 0 rfl) ?_
              exact th_iret E hr hlk hs hT_17 hS_17 ⟨⟨p_17_0.1, p_17_0.2.1, p_17_0.2.2.1, p_17_0.2.2.2.1, p_17_0.2.2.2.2.1, p_17_0.2.2.2.2.2⟩, (by omega)⟩ dX12_arrives_117
          · have f_9 : r_8.toInt = 0 := r_eq rfl (by decide) c_9
            refine lv_aload_n hx hb dX12_arrives_69 rfl (lv_at hl 2 rfl) ?_
            refine lv_iload_n hx hb dX12_arrives_70 rfl (lv_at hl 1 rfl) ?_
            refine th_Vi (As := [.int 0]) (rest := []) E hml hl.1 (y_inShut l D cI cS τ ρ hW H_4 hT_8 a0 ha0 N hN0 hN1 ⟨hW_4, (QS.same (((AU.o hU_4 (by decide) (by decide)).trans t_8).trans t_8.symm) (AU.o hU_4 (by decide) (by decide)) p_2_0.2.1), (QS.same (AU.o hU_4 (by decide) (by decide)) (AU.o hU_4 (by decide) (by decide)) p_2_0.2.2.1), (PL.q (hU_4.2 _ (th_ne (hW _ 12 2 ha0 (by decide) (by decide) (by decide)) (hW _ 12 0 ha0 (by decide) (by decide) (by decide)) (by decide))) p_2_0.2.2.2.1), (PL.q (hU_4.2 _ (th_ne (hW _ 12 3 ha0 (by decide) (by decide) (by decide)) (hW _ 12 0 ha0 (by decide) (by decide) (by decide)) (by decide))) p_2_0.2.2.2.2.1), (IF.q (hU_4.2 _ (th_ne ha0 (hW _ 12 0 ha0 (by decide) (by decide) (by decide)) (by decide))) p_2_0.2.2.2.2.2)⟩) lk_X12_239 yd_X12_inShut hT_8 ha0 rfl (by decide) hS_8 (fun q => (fun h => h.elim (fun h => (Or.inr (Or.inr h))) (fun h => (Or.inr (Or.inl h))))) ⟨by decide, by decide⟩ (Nat.le_of_ble_eq_true rfl) ⟨by decide, by decide⟩ rfl dX12_arrives_71 (fun r_18 H_18 locs_18 p_18 hT_18 hk_18 hS_18 => ?_)
            have p_18 : (IM D ρ N H_18 a0) ∧ ((ai H_4 (ρ a0 0) 976).toInt ≤ (ai H_18 (ρ a0 0) 976).toInt) := p_18
            obtain ⟨p_18_0, p_18_1⟩ := p_18
            have mn_18 : (ai H_2 (ρ a0 0) 976).toInt ≤ (ai H_18 (ρ a0 0) 976).toInt := by have h := p_18_1; rw [(AU.o hU_4 (by decide) (by decide))] at h; exact h
            refine lv_goto (tgt := 108) hx hb dX12_arrives_74 (by decide) ?_
            refine lv_istore (lv' := [(4, .int r_18), (3, .int r_8), (2, .int 0), (0, .ref a0), (1, .int x0)]) hx hb dX12_arrives_108 hl (by decide) rfl (fun ls hl => ?_)
            refine lv_aload_n hx hb dX12_arrives_110 rfl (lv_at hl 3 rfl) ?_
            refine lv_iload_n hx hb dX12_arrives_111 rfl (lv_at hl 2 rfl) ?_
            refine th_Vv (As := [.int 0]) (rest := []) E hml hl.1 (y_settles l D cI cS τ ρ hW H_18 hT_18 a0 ha0 N hN0 hN1 ⟨p_18_0.1, p_18_0.2.1, p_18_0.2.2.1, p_18_0.2.2.2.1, p_18_0.2.2.2.2.1, p_18_0.2.2.2.2.2⟩) lk_X12_166 yd_X12_settles hT_18 ha0 rfl (by decide) hS_18 (fun q h => (Or.inr (Or.inl h))) ⟨by decide, by decide⟩ (Nat.le_of_ble_eq_true rfl) ⟨by decide, by decide⟩ rfl dX12_arrives_112 (fun H_19 locs_19 p_19 hT_19 hk_19 hS_19 => ?_)
            have p_19 : (IM D ρ N H_19 a0) ∧ ((ai H_18 (ρ a0 0) 976).toInt ≤ (ai H_19 (ρ a0 0) 976).toInt) := p_19
            obtain ⟨p_19_0, p_19_1⟩ := p_19
            have mn_19 : (ai H_18 (ρ a0 0) 976).toInt ≤ (ai H_19 (ρ a0 0) 976).toInt := by exact p_19_1
            refine lv_iload hx hb dX12_arrives_115 (lv_at hl 0 rfl) ?_
            exact th_iret E hr hlk hs hT_19 hS_19 ⟨⟨p_19_0.1, p_19_0.2.1, p_19_0.2.2.1, p_19_0.2.2.2.1, p_19_0.2.2.2.2.1, p_19_0.2.2.2.2.2⟩, (by omega)⟩ dX12_arrives_117
        · have e_9 : x_7 = 1 := i_eqc g_9 (by decide)
          have hl : lv_has ls 5 [(2, .int 1), (0, .ref a0), (1, .int x0)] := by rw [e_9] at hl; exact hl
          refine lv_aload_n hx hb dX12_arrives_58 rfl (lv_at hl 1 rfl) ?_
          refine lv_iload_n hx hb dX12_arrives_59 rfl (lv_at hl 0 rfl) ?_
          refine lv_iconst (v := 0) hx hb dX12_arrives_60 (by decide) ?_
          refine th_Vi (As := [.int 1, .int 0]) (rest := []) E hml hl.1 (y_get_v20 l D cI cS τ ρ hW H_4 hT_4 a0 ha0) lk_X12_99 yd_X12_get hT_4 ha0 rfl (by decide) hS_4 (fun _ h => h.elim) ⟨by decide, by decide⟩ (Nat.le_of_ble_eq_true rfl) ⟨by decide, by decide⟩ rfl dX12_arrives_61 (fun r_20 H_20 locs_20 p_20 hT_20 hk_20 hS_20 => ?_)
          have p_20 : H_4 = H_20 ∧ (ai H_4 (ρ a0 0) 288 = r_20) := p_20
          obtain ⟨rfl, p_20_0⟩ := p_20
          have t_20 : ai H_2 (ρ a0 0) 288 = r_20 := (AU.o hU_4 (by decide) (by decide)).symm.trans p_20_0
          have c_r_20 := congrArg Int32.toInt t_20
          refine lv_istore_n (lv' := [(3, .int r_20), (2, .int 1), (0, .ref a0), (1, .int x0)]) hx hb dX12_arrives_64 rfl hl (by decide) rfl (fun ls hl => ?_)
          refine lv_iload_n hx hb dX12_arrives_65 rfl (lv_at hl 0 rfl) ?_
          refine lv_if_ne (tgt := 77) hx hb dX12_arrives_66 (by decide) (fun c_21 => ?_) (fun c_21 => ?_)
          · have f_21 : ¬ r_20.toInt = 0 := r_ne rfl (by decide) c_21
            have nz_r_20 : ¬ r_20 = 0 := c_21
            refine lv_iload_n hx hb dX12_arrives_77 rfl (lv_at hl 0 rfl) ?_
            refine lv_iconst (v := 1) hx hb dX12_arrives_78 (by decide) ?_
            refine lv_icmp_ne (tgt := 90) hx hb dX12_arrives_79 (by decide) (fun c_22 => ?_) (fun c_22 => ?_)
            · have f_22 : ¬ r_20.toInt = 1 := r_ne rfl (by decide) c_22
              refine lv_iload_n hx hb dX12_arrives_90 rfl (lv_at hl 0 rfl) ?_
              refine lv_iconst (v := 2) hx hb dX12_arrives_91 (by decide) ?_
              refine lv_icmp_ne (tgt := 103) hx hb dX12_arrives_92 (by decide) (fun c_23 => ?_) (fun c_23 => ?_)
              · have f_23 : ¬ r_20.toInt = 2 := r_ne rfl (by decide) c_23
                refine lv_aload_n hx hb dX12_arrives_103 rfl (lv_at hl 2 rfl) ?_
                refine lv_iload_n hx hb dX12_arrives_104 rfl (lv_at hl 1 rfl) ?_
                refine th_Vi (As := [.int 1]) (rest := []) E hml hl.1 (y_inOthers_v2 l D cI cS τ ρ hW H_4 hT_20 a0 ha0 N hN0 hN1 ⟨hW_4, (QS.same (AU.o hU_4 (by decide) (by decide)) (AU.o hU_4 (by decide) (by decide)) p_2_0.2.1), (QS.same (((AU.o hU_4 (by decide) (by decide)).trans t_20).trans t_20.symm) (AU.o hU_4 (by decide) (by decide)) p_2_0.2.2.1), (PL.q (hU_4.2 _ (th_ne (hW _ 12 2 ha0 (by decide) (by decide) (by decide)) (hW _ 12 0 ha0 (by decide) (by decide) (by decide)) (by decide))) p_2_0.2.2.2.1), (PL.q (hU_4.2 _ (th_ne (hW _ 12 3 ha0 (by decide) (by decide) (by decide)) (hW _ 12 0 ha0 (by decide) (by decide) (by decide)) (by decide))) p_2_0.2.2.2.2.1), (IF.q (hU_4.2 _ (th_ne ha0 (hW _ 12 0 ha0 (by decide) (by decide) (by decide)) (by decide))) p_2_0.2.2.2.2.2)⟩) lk_X12_248 yd_X12_inOthers hT_20 ha0 rfl (by decide) hS_20 (fun q => (fun h => h.elim (fun h => (Or.inr (Or.inr h))) (fun h => (Or.inr (Or.inl h))))) ⟨by decide, by decide⟩ (Nat.le_of_ble_eq_true rfl) ⟨by decide, by decide⟩ rfl dX12_arrives_105 (fun r_24 H_24 locs_24 p_24 hT_24 hk_24 hS_24 => ?_)
                have p_24 : (IM D ρ N H_24 a0) ∧ ((ai H_4 (ρ a0 0) 976).toInt ≤ (ai H_24 (ρ a0 0) 976).toInt) := p_24
                obtain ⟨p_24_0, p_24_1⟩ := p_24
                have mn_24 : (ai H_2 (ρ a0 0) 976).toInt ≤ (ai H_24 (ρ a0 0) 976).toInt := by have h := p_24_1; rw [(AU.o hU_4 (by decide) (by decide))] at h; exact h
                refine lv_istore (lv' := [(4, .int r_24), (3, .int r_20), (2, .int 1), (0, .ref a0), (1, .int x0)]) hx hb dX12_arrives_108 hl (by decide) rfl (fun ls hl => ?_)
                refine lv_aload_n hx hb dX12_arrives_110 rfl (lv_at hl 3 rfl) ?_
                refine lv_iload_n hx hb dX12_arrives_111 rfl (lv_at hl 2 rfl) ?_
                refine th_Vv (As := [.int 1]) (rest := []) E hml hl.1 (y_settles_v2 l D cI cS τ ρ hW H_24 hT_24 a0 ha0 N hN0 hN1 ⟨p_24_0.1, p_24_0.2.1, p_24_0.2.2.1, p_24_0.2.2.2.1, p_24_0.2.2.2.2.1, p_24_0.2.2.2.2.2⟩) lk_X12_166 yd_X12_settles hT_24 ha0 rfl (by decide) hS_24 (fun q h => (Or.inr (Or.inl h))) ⟨by decide, by decide⟩ (Nat.le_of_ble_eq_true rfl) ⟨by decide, by decide⟩ rfl dX12_arrives_112 (fun H_25 locs_25 p_25 hT_25 hk_25 hS_25 => ?_)
                have p_25 : (IM D ρ N H_25 a0) ∧ ((ai H_24 (ρ a0 0) 976).toInt ≤ (ai H_25 (ρ a0 0) 976).toInt) := p_25
                obtain ⟨p_25_0, p_25_1⟩ := p_25
                have mn_25 : (ai H_24 (ρ a0 0) 976).toInt ≤ (ai H_25 (ρ a0 0) 976).toInt := by exact p_25_1
                refine lv_iload hx hb dX12_arrives_115 (lv_at hl 0 rfl) ?_
                exact th_iret E hr hlk hs hT_25 hS_25 ⟨⟨p_25_0.1, p_25_0.2.1, p_25_0.2.2.1, p_25_0.2.2.2.1, p_25_0.2.2.2.2.1, p_25_0.2.2.2.2.2⟩, (by omega)⟩ dX12_arrives_117
              · have f_23 : r_20.toInt = 2 := r_eq rfl (by decide) c_23
                refine lv_aload_n hx hb dX12_arrives_95 rfl (lv_at hl 2 rfl) ?_
                refine lv_iload_n hx hb dX12_arrives_96 rfl (lv_at hl 1 rfl) ?_
                refine th_Vi (As := [.int 1]) (rest := []) E hml hl.1 (y_inCalling l D cI cS τ ρ hW H_4 hT_20 a0 ha0 N hN0 hN1 ⟨hW_4, (QS.same (AU.o hU_4 (by decide) (by decide)) (AU.o hU_4 (by decide) (by decide)) p_2_0.2.1), (QS.same (((AU.o hU_4 (by decide) (by decide)).trans t_20).trans t_20.symm) (AU.o hU_4 (by decide) (by decide)) p_2_0.2.2.1), (PL.q (hU_4.2 _ (th_ne (hW _ 12 2 ha0 (by decide) (by decide) (by decide)) (hW _ 12 0 ha0 (by decide) (by decide) (by decide)) (by decide))) p_2_0.2.2.2.1), (PL.q (hU_4.2 _ (th_ne (hW _ 12 3 ha0 (by decide) (by decide) (by decide)) (hW _ 12 0 ha0 (by decide) (by decide) (by decide)) (by decide))) p_2_0.2.2.2.2.1), (IF.q (hU_4.2 _ (th_ne ha0 (hW _ 12 0 ha0 (by decide) (by decide) (by decide)) (by decide))) p_2_0.2.2.2.2.2)⟩ (by have : (ai H_4 (ρ a0 0) 288).toInt = (r_20 : Int32).toInt := congrArg Int32.toInt ((AU.o hU_4 (by decide) (by decide)).trans t_20); omega)) lk_X12_245 yd_X12_inCalling hT_20 ha0 rfl (by decide) hS_20 (fun q => (fun h => h.elim (fun h => (Or.inr (Or.inl h))) (fun h => (Or.inr (Or.inr h))))) ⟨by decide, by decide⟩ (Nat.le_of_ble_eq_true rfl) ⟨by decide, by decide⟩ rfl dX12_arrives_97 (fun r_26 H_26 locs_26 p_26 hT_26 hk_26 hS_26 => ?_)
                have p_26 : (IM D ρ N H_26 a0) ∧ ((ai H_4 (ρ a0 0) 976).toInt ≤ (ai H_26 (ρ a0 0) 976).toInt) := p_26
                obtain ⟨p_26_0, p_26_1⟩ := p_26
                have mn_26 : (ai H_2 (ρ a0 0) 976).toInt ≤ (ai H_26 (ρ a0 0) 976).toInt := by have h := p_26_1; rw [(AU.o hU_4 (by decide) (by decide))] at h; exact h
                refine lv_goto (tgt := 108) hx hb dX12_arrives_100 (by decide) ?_
                refine lv_istore (lv' := [(4, .int r_26), (3, .int r_20), (2, .int 1), (0, .ref a0), (1, .int x0)]) hx hb dX12_arrives_108 hl (by decide) rfl (fun ls hl => ?_)
                refine lv_aload_n hx hb dX12_arrives_110 rfl (lv_at hl 3 rfl) ?_
                refine lv_iload_n hx hb dX12_arrives_111 rfl (lv_at hl 2 rfl) ?_
                refine th_Vv (As := [.int 1]) (rest := []) E hml hl.1 (y_settles_v2 l D cI cS τ ρ hW H_26 hT_26 a0 ha0 N hN0 hN1 ⟨p_26_0.1, p_26_0.2.1, p_26_0.2.2.1, p_26_0.2.2.2.1, p_26_0.2.2.2.2.1, p_26_0.2.2.2.2.2⟩) lk_X12_166 yd_X12_settles hT_26 ha0 rfl (by decide) hS_26 (fun q h => (Or.inr (Or.inl h))) ⟨by decide, by decide⟩ (Nat.le_of_ble_eq_true rfl) ⟨by decide, by decide⟩ rfl dX12_arrives_112 (fun H_27 locs_27 p_27 hT_27 hk_27 hS_27 => ?_)
                have p_27 : (IM D ρ N H_27 a0) ∧ ((ai H_26 (ρ a0 0) 976).toInt ≤ (ai H_27 (ρ a0 0) 976).toInt) := p_27
                obtain ⟨p_27_0, p_27_1⟩ := p_27
                have mn_27 : (ai H_26 (ρ a0 0) 976).toInt ≤ (ai H_27 (ρ a0 0) 976).toInt := by exact p_27_1
                refine lv_iload hx hb dX12_arrives_115 (lv_at hl 0 rfl) ?_
                exact th_iret E hr hlk hs hT_27 hS_27 ⟨⟨p_27_0.1, p_27_0.2.1, p_27_0.2.2.1, p_27_0.2.2.2.1, p_27_0.2.2.2.2.1, p_27_0.2.2.2.2.2⟩, (by omega)⟩ dX12_arrives_117
            · have f_22 : r_20.toInt = 1 := r_eq rfl (by decide) c_22
              refine lv_aload_n hx hb dX12_arrives_82 rfl (lv_at hl 2 rfl) ?_
              refine lv_iload_n hx hb dX12_arrives_83 rfl (lv_at hl 1 rfl) ?_
              refine th_Vi (As := [.int 1]) (rest := []) E hml hl.1 (y_inWaiting_v2 l D cI cS τ ρ hW H_4 hT_20 a0 ha0 N hN0 hN1 ⟨hW_4, (QS.same (AU.o hU_4 (by decide) (by decide)) (AU.o hU_4 (by decide) (by decide)) p_2_0.2.1), (QS.same (((AU.o hU_4 (by decide) (by decide)).trans t_20).trans t_20.symm) (AU.o hU_4 (by decide) (by decide)) p_2_0.2.2.1), (PL.q (hU_4.2 _ (th_ne (hW _ 12 2 ha0 (by decide) (by decide) (by decide)) (hW _ 12 0 ha0 (by decide) (by decide) (by decide)) (by decide))) p_2_0.2.2.2.1), (PL.q (hU_4.2 _ (th_ne (hW _ 12 3 ha0 (by decide) (by decide) (by decide)) (hW _ 12 0 ha0 (by decide) (by decide) (by decide)) (by decide))) p_2_0.2.2.2.2.1), (IF.q (hU_4.2 _ (th_ne ha0 (hW _ 12 0 ha0 (by decide) (by decide) (by decide)) (by decide))) p_2_0.2.2.2.2.2)⟩ (by have : (ai H_4 (ρ a0 0) 288).toInt = (r_20 : Int32).toInt := congrArg Int32.toInt ((AU.o hU_4 (by decide) (by decide)).trans t_20); omega)) lk_X12_242 yd_X12_inWaiting hT_20 ha0 rfl (by decide) hS_20 (fun q => (fun h => h.elim (fun h => (Or.inr (Or.inl h))) (fun h => (Or.inr (Or.inr h))))) ⟨by decide, by decide⟩ (Nat.le_of_ble_eq_true rfl) ⟨by decide, by decide⟩ rfl dX12_arrives_84 (fun r_28 H_28 locs_28 p_28 hT_28 hk_28 hS_28 => ?_)
              have p_28 : (IM D ρ N H_28 a0) ∧ ((ai H_4 (ρ a0 0) 976).toInt ≤ (ai H_28 (ρ a0 0) 976).toInt) := p_28
              obtain ⟨p_28_0, p_28_1⟩ := p_28
              have mn_28 : (ai H_2 (ρ a0 0) 976).toInt ≤ (ai H_28 (ρ a0 0) 976).toInt := by have h := p_28_1; rw [(AU.o hU_4 (by decide) (by decide))] at h; exact h
              refine lv_goto (tgt := 108) hx hb dX12_arrives_87 (by decide) ?_
              refine lv_istore (lv' := [(4, .int r_28), (3, .int r_20), (2, .int 1), (0, .ref a0), (1, .int x0)]) hx hb dX12_arrives_108 hl (by decide) rfl (fun ls hl => ?_)
              refine lv_aload_n hx hb dX12_arrives_110 rfl (lv_at hl 3 rfl) ?_
              refine lv_iload_n hx hb dX12_arrives_111 rfl (lv_at hl 2 rfl) ?_
              refine th_Vv (As := [.int 1]) (rest := []) E hml hl.1 (y_settles_v2 l D cI cS τ ρ hW H_28 hT_28 a0 ha0 N hN0 hN1 ⟨p_28_0.1, p_28_0.2.1, p_28_0.2.2.1, p_28_0.2.2.2.1, p_28_0.2.2.2.2.1, p_28_0.2.2.2.2.2⟩) lk_X12_166 yd_X12_settles hT_28 ha0 rfl (by decide) hS_28 (fun q h => (Or.inr (Or.inl h))) ⟨by decide, by decide⟩ (Nat.le_of_ble_eq_true rfl) ⟨by decide, by decide⟩ rfl dX12_arrives_112 (fun H_29 locs_29 p_29 hT_29 hk_29 hS_29 => ?_)
              have p_29 : (IM D ρ N H_29 a0) ∧ ((ai H_28 (ρ a0 0) 976).toInt ≤ (ai H_29 (ρ a0 0) 976).toInt) := p_29
              obtain ⟨p_29_0, p_29_1⟩ := p_29
              have mn_29 : (ai H_28 (ρ a0 0) 976).toInt ≤ (ai H_29 (ρ a0 0) 976).toInt := by exact p_29_1
              refine lv_iload hx hb dX12_arrives_115 (lv_at hl 0 rfl) ?_
              exact th_iret E hr hlk hs hT_29 hS_29 ⟨⟨p_29_0.1, p_29_0.2.1, p_29_0.2.2.1, p_29_0.2.2.2.1, p_29_0.2.2.2.2.1, p_29_0.2.2.2.2.2⟩, (by omega)⟩ dX12_arrives_117
          · have f_21 : r_20.toInt = 0 := r_eq rfl (by decide) c_21
            refine lv_aload_n hx hb dX12_arrives_69 rfl (lv_at hl 2 rfl) ?_
            refine lv_iload_n hx hb dX12_arrives_70 rfl (lv_at hl 1 rfl) ?_
            refine th_Vi (As := [.int 1]) (rest := []) E hml hl.1 (y_inShut_v2 l D cI cS τ ρ hW H_4 hT_20 a0 ha0 N hN0 hN1 ⟨hW_4, (QS.same (AU.o hU_4 (by decide) (by decide)) (AU.o hU_4 (by decide) (by decide)) p_2_0.2.1), (QS.same (((AU.o hU_4 (by decide) (by decide)).trans t_20).trans t_20.symm) (AU.o hU_4 (by decide) (by decide)) p_2_0.2.2.1), (PL.q (hU_4.2 _ (th_ne (hW _ 12 2 ha0 (by decide) (by decide) (by decide)) (hW _ 12 0 ha0 (by decide) (by decide) (by decide)) (by decide))) p_2_0.2.2.2.1), (PL.q (hU_4.2 _ (th_ne (hW _ 12 3 ha0 (by decide) (by decide) (by decide)) (hW _ 12 0 ha0 (by decide) (by decide) (by decide)) (by decide))) p_2_0.2.2.2.2.1), (IF.q (hU_4.2 _ (th_ne ha0 (hW _ 12 0 ha0 (by decide) (by decide) (by decide)) (by decide))) p_2_0.2.2.2.2.2)⟩) lk_X12_239 yd_X12_inShut hT_20 ha0 rfl (by decide) hS_20 (fun q => (fun h => h.elim (fun h => (Or.inr (Or.inr h))) (fun h => (Or.inr (Or.inl h))))) ⟨by decide, by decide⟩ (Nat.le_of_ble_eq_true rfl) ⟨by decide, by decide⟩ rfl dX12_arrives_71 (fun r_30 H_30 locs_30 p_30 hT_30 hk_30 hS_30 => ?_)
            have p_30 : (IM D ρ N H_30 a0) ∧ ((ai H_4 (ρ a0 0) 976).toInt ≤ (ai H_30 (ρ a0 0) 976).toInt) := p_30
            obtain ⟨p_30_0, p_30_1⟩ := p_30
            have mn_30 : (ai H_2 (ρ a0 0) 976).toInt ≤ (ai H_30 (ρ a0 0) 976).toInt := by have h := p_30_1; rw [(AU.o hU_4 (by decide) (by decide))] at h; exact h
            refine lv_goto (tgt := 108) hx hb dX12_arrives_74 (by decide) ?_
            refine lv_istore (lv' := [(4, .int r_30), (3, .int r_20), (2, .int 1), (0, .ref a0), (1, .int x0)]) hx hb dX12_arrives_108 hl (by decide) rfl (fun ls hl => ?_)
            refine lv_aload_n hx hb dX12_arrives_110 rfl (lv_at hl 3 rfl) ?_
            refine lv_iload_n hx hb dX12_arrives_111 rfl (lv_at hl 2 rfl) ?_
            refine th_Vv (As := [.int 1]) (rest := []) E hml hl.1 (y_settles_v2 l D cI cS τ ρ hW H_30 hT_30 a0 ha0 N hN0 hN1 ⟨p_30_0.1, p_30_0.2.1, p_30_0.2.2.1, p_30_0.2.2.2.1, p_30_0.2.2.2.2.1, p_30_0.2.2.2.2.2⟩) lk_X12_166 yd_X12_settles hT_30 ha0 rfl (by decide) hS_30 (fun q h => (Or.inr (Or.inl h))) ⟨by decide, by decide⟩ (Nat.le_of_ble_eq_true rfl) ⟨by decide, by decide⟩ rfl dX12_arrives_112 (fun H_31 locs_31 p_31 hT_31 hk_31 hS_31 => ?_)
            have p_31 : (IM D ρ N H_31 a0) ∧ ((ai H_30 (ρ a0 0) 976).toInt ≤ (ai H_31 (ρ a0 0) 976).toInt) := p_31
            obtain ⟨p_31_0, p_31_1⟩ := p_31
            have mn_31 : (ai H_30 (ρ a0 0) 976).toInt ≤ (ai H_31 (ρ a0 0) 976).toInt := by exact p_31_1
            refine lv_iload hx hb dX12_arrives_115 (lv_at hl 0 rfl) ?_
            exact th_iret E hr hlk hs hT_31 hS_31 ⟨⟨p_31_0.1, p_31_0.2.1, p_31_0.2.2.1, p_31_0.2.2.2.1, p_31_0.2.2.2.2.1, p_31_0.2.2.2.2.2⟩, (by omega)⟩ dX12_arrives_117
      · have f_1 : y2_2.toInt < 20 := r_nle (by decide) rfl c_1
        refine lv_aload_n hx hb dX12_arrives_8 rfl (lv_at hl 0 rfl) ?_
        refine gf_X12_19 E hT_c2 hW ha0 dX12_arrives_9 (fun h_32 => ?_)
        refine lv_iload_n hx hb dX12_arrives_12 rfl (lv_at hl 2 rfl) ?_
        refine lv_aload_n hx hb dX12_arrives_13 rfl (lv_at hl 0 rfl) ?_
        refine gf_X12_7 E hT_c2 hW ha0 dX12_arrives_14 (fun h_33 => ?_)
        refine lv_sipush (v := 576) hx hb dX12_arrives_17 (by decide) ?_
        refine lv_bipush (v := 20) hx hb dX12_arrives_20 (by decide) ?_
        refine lv_iload_n hx hb dX12_arrives_22 rfl (lv_at hl 1 rfl) ?_
        refine lv_imul hx hb dX12_arrives_23 ?_
        refine lv_topi (fun x_34 ex_34 => ?_)
        have q_34 : x_34.toInt = 20 * x0.toInt := i_ml (by decide) rfl ex_34 (by omega) (by omega)
        refine lv_iadd hx hb dX12_arrives_24 ?_
        refine lv_topi (fun x_35 ex_35 => ?_)
        have q_35 : x_35.toInt = 576 + x_34.toInt := i_pl (by decide) rfl ex_35 (by omega) (by omega)
        refine lv_iload_n hx hb dX12_arrives_25 rfl (lv_at hl 2 rfl) ?_
        refine lv_iadd hx hb dX12_arrives_26 ?_
        refine lv_topi (fun x_36 ex_36 => ?_)
        have q_36 : x_36.toInt = x_35.toInt + y2_2.toInt := i_pl rfl rfl ex_36 (by omega) (by omega)
        refine th_iald E hT_c2 h_33 (by decide) (vp_in_iff.mpr ⟨by omega, by omega⟩) dX12_arrives_27 ?_
        refine th_topi (y := ai H_c2 (ρ a0 0) x_36.toInt.toNat) rfl ?_
        refine lv_topi (fun x_37 ex_37 => ?_)
        have cl_37 : bW (x_36.toInt.toNat) ≤ x_37.toInt ∧ x_37.toInt ≤ uW N (x_36.toInt.toNat) := by rw [ex_37]; exact hI_c2.1 _ (by have := i_max x_36; omega)
        refine th_iast E hT_c2 hS_c2 h_32 (Or.inl rfl) (by decide) (vp_in_iff.mpr ⟨by omega, by omega⟩) dX12_arrives_28 (fun H_38 locs_38 hT_38 hU_38 hS_38 => ?_)
        have hU_38 : AU 20 H_c2 H_38 (ρ a0 3) y2_2.toInt.toNat x_37 := hU_38
        have hL_38 : PL H_38 (ρ a0 3) := PL.shift hI_c2.2.2.2.2.1 hU_38 cl_37 (by omega) (by omega)
        obtain ⟨x_39, ex_39⟩ : ∃ y : Int32, y2_2 + 1 = y := ⟨_, rfl⟩
        have q_x_39 : x_39.toInt = y2_2.toInt + 1 := i_add (k := 1) (by decide) ex_39 (by have := i_min y2_2; omega) (by have := i_max y2_2; omega)
        refine lv_iinc (v := x_39) (lv' := [(2, .int x_39), (0, .ref a0), (1, .int x0)]) hx hb dX12_arrives_29 hl (k := 2) rfl (by rw [← ex_39]; rfl) (by decide) rfl (fun ls hl => ?_)
        refine lv_goto (tgt := 2) hx hb dX12_arrives_32 (by decide) ?_
        exact ih_2 H_38 locs_38 _ x_39 hT_38 hS_38 (lv_sub hl [1, 2, 0] rfl) (by omega) (by omega) (by omega) (Eq.trans (ai_q (hU_38.2 _ (th_ne (hW _ 12 0 ha0 (by decide) (by decide) (by decide)) (hW _ 12 3 ha0 (by decide) (by decide) (by decide)) (by decide)))) hg2_0) ⟨(PW.q (hU_38.2 _ (th_ne (hW _ 12 0 ha0 (by decide) (by decide) (by decide)) (hW _ 12 3 ha0 (by decide) (by decide) (by decide)) (by decide))) hI_c2.1), (QS.same (ai_q (hU_38.2 _ (th_ne (hW _ 12 0 ha0 (by decide) (by decide) (by decide)) (hW _ 12 3 ha0 (by decide) (by decide) (by decide)) (by decide)))) (ai_q (hU_38.2 _ (th_ne (hW _ 12 0 ha0 (by decide) (by decide) (by decide)) (hW _ 12 3 ha0 (by decide) (by decide) (by decide)) (by decide)))) hI_c2.2.1), (QS.same (ai_q (hU_38.2 _ (th_ne (hW _ 12 0 ha0 (by decide) (by decide) (by decide)) (hW _ 12 3 ha0 (by decide) (by decide) (by decide)) (by decide)))) (ai_q (hU_38.2 _ (th_ne (hW _ 12 0 ha0 (by decide) (by decide) (by decide)) (hW _ 12 3 ha0 (by decide) (by decide) (by decide)) (by decide)))) hI_c2.2.2.1), (PL.q (hU_38.2 _ n23) hI_c2.2.2.2.1), hL_38, (IF.q (hU_38.2 _ (th_ne ha0 (hW _ 12 3 ha0 (by decide) (by decide) (by decide)) (by decide))) hI_c2.2.2.2.2.2)⟩ (by omega)
  refine lv_iconst (v := 0) hx hb dX12_arrives_0 (by decide) ?_
  refine lv_istore_n (lv' := [(2, .int 0), (0, .ref a0), (1, .int x0)]) hx hb dX12_arrives_1 rfl hl (by decide) rfl (fun ls hl => ?_)
  exact L_2 _ H [] _ 0 hT hS (lv_sub hl [1, 2, 0] rfl) (by omega) (by omega) (by decide) rfl ⟨hI.1, hI.2.1, hI.2.2.1, hI.2.2.2.1, hI.2.2.2.2.1, hI.2.2.2.2.2⟩ (Nat.lt_succ_self _)
set_option maxHeartbeats 4000000 in
set_option maxRecDepth 100000 in
/-- the reference: get -/
theorem y_get_v41 (l : Launch) (D : va_G) (cI cS : ClassId) (τ : Nat → Option Nat) (ρ : Nat → Nat → Nat) (hW : WF τ ρ) (H : Heap) (hT : TH D cI cS τ ρ H) (a0 : Nat) (ha0 : τ a0 = some 12) : MI l D cI cS τ ρ yX12_get cX12_get 3 (some .int) 0 0 H [.ref a0, .int 0, .int 12] (fun (r : Int32) (u : Heap) => (H = u) ∧ (ai H (ρ a0 0) 12 = r)) (fun q => False) := by
  refine MI.of (by decide) (Nat.le_of_ble_eq_true rfl) ?_
  intro p e s m args below meth c E hml hr hlk hs ls hl
  have hx := E.1
  have hb := E.2.1
  have hown := E.2.2.1
  have hts := E.2.2.2.1
  have hS : SS (fun q => False) H H [] := SS.rf
  have hl : lv_has ls 3 [(0, .ref a0), (1, .int 0), (2, .int 12)] := hl
  refine lv_aload_n hx hb dX12_get_0 rfl (lv_at hl 0 rfl) ?_
  refine gf_X12_7 E hT hW ha0 dX12_get_1 (fun h_1 => ?_)
  refine lv_sipush (v := 288) hx hb dX12_get_4 (by decide) ?_
  refine lv_iload_n hx hb dX12_get_7 rfl (lv_at hl 1 rfl) ?_
  refine lv_imul hx hb dX12_get_8 ?_
  refine th_topi (y := 0) (by decide) ?_
  refine lv_iload_n hx hb dX12_get_9 rfl (lv_at hl 2 rfl) ?_
  refine lv_iadd hx hb dX12_get_10 ?_
  refine th_topi (y := 12) (by decide) ?_
  refine th_iald E hT h_1 (by decide) (vp_in_iff.mpr ⟨by decide, by decide⟩) dX12_get_11 ?_
  refine th_topi (y := ai H (ρ a0 0) 12) rfl ?_
  refine lv_topi (fun x_2 ex_2 => ?_)
  have c_x_2 := congrArg Int32.toInt ex_2.symm
  exact th_iret E hr hlk hs hT hS ⟨rfl, ex_2.symm⟩ dX12_get_12
set_option maxHeartbeats 4000000 in
set_option maxRecDepth 100000 in
/-- the reference: get -/
theorem y_get_v42 (l : Launch) (D : va_G) (cI cS : ClassId) (τ : Nat → Option Nat) (ρ : Nat → Nat → Nat) (hW : WF τ ρ) (H : Heap) (hT : TH D cI cS τ ρ H) (a0 : Nat) (ha0 : τ a0 = some 12) : MI l D cI cS τ ρ yX12_get cX12_get 3 (some .int) 0 0 H [.ref a0, .int 1, .int 12] (fun (r : Int32) (u : Heap) => (H = u) ∧ (ai H (ρ a0 0) 300 = r)) (fun q => False) := by
  refine MI.of (by decide) (Nat.le_of_ble_eq_true rfl) ?_
  intro p e s m args below meth c E hml hr hlk hs ls hl
  have hx := E.1
  have hb := E.2.1
  have hown := E.2.2.1
  have hts := E.2.2.2.1
  have hS : SS (fun q => False) H H [] := SS.rf
  have hl : lv_has ls 3 [(0, .ref a0), (1, .int 1), (2, .int 12)] := hl
  refine lv_aload_n hx hb dX12_get_0 rfl (lv_at hl 0 rfl) ?_
  refine gf_X12_7 E hT hW ha0 dX12_get_1 (fun h_1 => ?_)
  refine lv_sipush (v := 288) hx hb dX12_get_4 (by decide) ?_
  refine lv_iload_n hx hb dX12_get_7 rfl (lv_at hl 1 rfl) ?_
  refine lv_imul hx hb dX12_get_8 ?_
  refine th_topi (y := 288) (by decide) ?_
  refine lv_iload_n hx hb dX12_get_9 rfl (lv_at hl 2 rfl) ?_
  refine lv_iadd hx hb dX12_get_10 ?_
  refine th_topi (y := 300) (by decide) ?_
  refine th_iald E hT h_1 (by decide) (vp_in_iff.mpr ⟨by decide, by decide⟩) dX12_get_11 ?_
  refine th_topi (y := ai H (ρ a0 0) 300) rfl ?_
  refine lv_topi (fun x_2 ex_2 => ?_)
  have c_x_2 := congrArg Int32.toInt ex_2.symm
  exact th_iret E hr hlk hs hT hS ⟨rfl, ex_2.symm⟩ dX12_get_12
set_option maxHeartbeats 4000000 in
set_option maxRecDepth 100000 in
/-- the reference: asks -/
theorem y_asks_v2 (l : Launch) (D : va_G) (cI cS : ClassId) (τ : Nat → Option Nat) (ρ : Nat → Nat → Nat) (hW : WF τ ρ) (H : Heap) (hT : TH D cI cS τ ρ H) (a0 : Nat) (ha0 : τ a0 = some 12) (N : Int) (hN0 : 0 ≤ N) (hN1 : N ≤ 600) (hI : IM D ρ N H a0) (hp0 : (ai H (ρ a0 0) 288).toInt = 4 ∨ (ai H (ρ a0 0) 288).toInt = 7) : MV l D cI cS τ ρ yX12_asks cX12_asks 3 none 7 165 H [.ref a0, .int 1] (fun (u : Heap) => (IM D ρ N u a0) ∧ ((ai H (ρ a0 0) 976).toInt ≤ (ai u (ρ a0 0) 976).toInt)) (fun q => q = ρ a0 2 ∨ q = ρ a0 0) := by
  refine MV.of (by decide) (Nat.le_of_ble_eq_true rfl) ?_
  intro p e s m args below meth c E hml hr hlk hs ls hl
  have hx := E.1
  have hb := E.2.1
  have hown := E.2.2.1
  have hts := E.2.2.2.1
  have hS : SS (fun q => q = ρ a0 2 ∨ q = ρ a0 0) H H [] := SS.rf
  have hl : lv_has ls 3 [(0, .ref a0), (1, .int 1)] := hl
  have n01 := hI.2.2.2.2.2.1
  have n23 := hI.2.2.2.2.2.2.1
  refine lv_aload_n hx hb dX12_asks_0 rfl (lv_at hl 0 rfl) ?_
  refine lv_iload_n hx hb dX12_asks_1 rfl (lv_at hl 1 rfl) ?_
  refine lv_iconst (v := 2) hx hb dX12_asks_2 (by decide) ?_
  refine th_Vi (As := [.int 1, .int 2]) (rest := []) E hml hl.1 (y_get_v32 l D cI cS τ ρ hW H hT a0 ha0) lk_X12_99 yd_X12_get hT ha0 rfl (by decide) hS (fun _ h => h.elim) ⟨by decide, by decide⟩ (Nat.le_of_ble_eq_true rfl) ⟨by decide, by decide⟩ rfl dX12_asks_3 (fun r_1 H_1 locs_1 p_1 hT_1 hk_1 hS_1 => ?_)
  have p_1 : H = H_1 ∧ (ai H (ρ a0 0) 290 = r_1) := p_1
  obtain ⟨rfl, p_1_0⟩ := p_1
  have b_r_1 : 0 ≤ r_1.toInt ∧ r_1.toInt ≤ N + 2 := by rw [← p_1_0]; exact hI.1 290 (by decide)
  have c_r_1 := congrArg Int32.toInt p_1_0
  refine lv_istore_n (lv' := [(2, .int r_1), (0, .ref a0), (1, .int 1)]) hx hb dX12_asks_6 rfl hl (by decide) rfl (fun ls hl => ?_)
  refine lv_iload_n hx hb dX12_asks_7 rfl (lv_at hl 0 rfl) ?_
  refine lv_aload_n hx hb dX12_asks_8 rfl (lv_at hl 1 rfl) ?_
  refine lv_iload_n hx hb dX12_asks_9 rfl (lv_at hl 2 rfl) ?_
  refine lv_iconst (v := 3) hx hb dX12_asks_10 (by decide) ?_
  refine th_Vi (As := [.int 1, .int 3]) (rest := [.int r_1]) E hml hl.1 (y_get_v31 l D cI cS τ ρ hW H hT_1 a0 ha0) lk_X12_99 yd_X12_get hT_1 ha0 rfl (by decide) hS_1 (fun _ h => h.elim) ⟨by decide, by decide⟩ (Nat.le_of_ble_eq_true rfl) ⟨by decide, by decide⟩ rfl dX12_asks_11 (fun r_2 H_2 locs_2 p_2 hT_2 hk_2 hS_2 => ?_)
  have p_2 : H = H_2 ∧ (ai H (ρ a0 0) 291 = r_2) := p_2
  obtain ⟨rfl, p_2_0⟩ := p_2
  have b_r_2 : 0 ≤ r_2.toInt ∧ r_2.toInt ≤ (2147483647 : Int) := by rw [← p_2_0]; exact hI.1 291 (by decide)
  have c_r_2 := congrArg Int32.toInt p_2_0
  refine lv_icmp_ge (tgt := 50) hx hb dX12_asks_14 (by decide) (fun c_3 => ?_) (fun c_3 => ?_)
  · have f_3 : r_2.toInt ≤ r_1.toInt := r_le rfl rfl c_3
    refine lv_aload_n hx hb dX12_asks_50 rfl (lv_at hl 1 rfl) ?_
    refine lv_iload_n hx hb dX12_asks_51 rfl (lv_at hl 2 rfl) ?_
    refine lv_iconst (v := 4) hx hb dX12_asks_52 (by decide) ?_
    refine lv_aload_n hx hb dX12_asks_53 rfl (lv_at hl 1 rfl) ?_
    refine lv_iload_n hx hb dX12_asks_54 rfl (lv_at hl 2 rfl) ?_
    refine lv_iload_n hx hb dX12_asks_55 rfl (lv_at hl 0 rfl) ?_
    refine lv_iconst (v := 1) hx hb dX12_asks_56 (by decide) ?_
    refine lv_isub hx hb dX12_asks_57 ?_
    refine lv_topi (fun x_4 ex_4 => ?_)
    have q_4 : x_4.toInt = r_1.toInt - 1 := i_mi rfl (by decide) ex_4 (by omega) (by omega)
    refine th_Vi (As := [.int 1, .int x_4]) (rest := [.int 4, .int 1, .ref a0]) E hml hl.1 (y_number_v2 l D cI cS τ ρ hW H hT_2 a0 x_4 ha0) lk_X12_112 yd_X12_number hT_2 ha0 rfl (by decide) hS_2 (fun _ h => h.elim) ⟨by decide, by decide⟩ (Nat.le_of_ble_eq_true rfl) ⟨by decide, by decide⟩ rfl dX12_asks_58 (fun r_5 H_5 locs_5 p_5 hT_5 hk_5 hS_5 => ?_)
    have p_5 : H = H_5 := p_5
    obtain rfl := p_5
    refine th_Vv (As := [.int 1, .int 4, .int r_5]) (rest := []) E hml hl.1 (y_makes_v5 l D cI cS τ ρ hW H hT_5 a0 r_5 ha0 N hN0 hN1 ⟨hI.1, hI.2.1, hI.2.2.1, hI.2.2.2.1, hI.2.2.2.2.1, hI.2.2.2.2.2⟩) lk_X12_126 yd_X12_makes hT_5 ha0 rfl (by decide) hS_5 (fun q h => (Or.inl h)) ⟨by decide, by decide⟩ (Nat.le_of_ble_eq_true rfl) ⟨by decide, by decide⟩ rfl dX12_asks_61 (fun H_6 locs_6 p_6 hT_6 hk_6 hS_6 => ?_)
    have p_6 : (IM D ρ N H_6 a0) ∧ ((ai H (ρ a0 0) 976).toInt ≤ (ai H_6 (ρ a0 0) 976).toInt) := p_6
    obtain ⟨p_6_0, p_6_1⟩ := p_6
    have mn_6 : (ai H (ρ a0 0) 976).toInt ≤ (ai H_6 (ρ a0 0) 976).toInt := by exact p_6_1
    refine lv_aload_n hx hb dX12_asks_64 rfl (lv_at hl 1 rfl) ?_
    refine th_Vv (As := []) (rest := []) E hml hl.1 (y_posts l D cI cS τ ρ hW H_6 hT_6 a0 ha0 N hN0 hN1 ⟨p_6_0.1, p_6_0.2.1, p_6_0.2.2.1, p_6_0.2.2.2.1, p_6_0.2.2.2.2.1, p_6_0.2.2.2.2.2⟩) lk_X12_129 yd_X12_posts hT_6 ha0 rfl (by decide) hS_6 (fun q h => (Or.inr h)) ⟨by decide, by decide⟩ (Nat.le_of_ble_eq_true rfl) ⟨by decide, by decide⟩ rfl dX12_asks_65 (fun H_7 locs_7 p_7 hT_7 hk_7 hS_7 => ?_)
    have p_7 : (IM D ρ N H_7 a0) ∧ ((ai H_6 (ρ a0 0) 976).toInt ≤ (ai H_7 (ρ a0 0) 976).toInt) := p_7
    obtain ⟨p_7_0, p_7_1⟩ := p_7
    have mn_7 : (ai H (ρ a0 0) 976).toInt ≤ (ai H_7 (ρ a0 0) 976).toInt := by have h := p_7_1; rw [(ai_q (hk_6 _ (th_ne (hW _ 12 0 ha0 (by decide) (by decide) (by decide)) (hW _ 12 2 ha0 (by decide) (by decide) (by decide)) (by decide))))] at h; exact h
    exact th_vret E hr hlk hs hT_7 hS_7 ⟨⟨p_7_0.1, p_7_0.2.1, p_7_0.2.2.1, p_7_0.2.2.2.1, p_7_0.2.2.2.2.1, p_7_0.2.2.2.2.2⟩, (by omega)⟩ dX12_asks_68
  · have f_3 : r_1.toInt < r_2.toInt := r_nle rfl rfl c_3
    refine lv_aload_n hx hb dX12_asks_17 rfl (lv_at hl 1 rfl) ?_
    refine lv_iload_n hx hb dX12_asks_18 rfl (lv_at hl 2 rfl) ?_
    refine lv_aload_n hx hb dX12_asks_19 rfl (lv_at hl 1 rfl) ?_
    refine gf_X12_25 E hT_2 ha0 dX12_asks_20 ?_
    refine lv_topi (fun x_8 ex_8 => ?_)
    have b_8 : 1 ≤ x_8.toInt ∧ x_8.toInt ≤ 8 := by rw [ex_8]; exact IF.f6 hI.2.2.2.2.2
    refine lv_aload_n hx hb dX12_asks_23 rfl (lv_at hl 1 rfl) ?_
    refine lv_iload_n hx hb dX12_asks_24 rfl (lv_at hl 2 rfl) ?_
    refine lv_iload_n hx hb dX12_asks_25 rfl (lv_at hl 0 rfl) ?_
    refine th_Vi (As := [.int 1, .int r_1]) (rest := [.int x_8, .int 1, .ref a0]) E hml hl.1 (y_saidFrom_v2 l D cI cS τ ρ hW H hT_2 a0 r_1 ha0 N hN0 hN1 ⟨hI.1, hI.2.1, hI.2.2.1, hI.2.2.2.1, hI.2.2.2.2.1, hI.2.2.2.2.2⟩ (by omega)) lk_X12_109 yd_X12_saidFrom hT_2 ha0 rfl (by decide) hS_2 (fun _ h => h.elim) ⟨by decide, by decide⟩ (Nat.le_of_ble_eq_true rfl) ⟨by decide, by decide⟩ rfl dX12_asks_26 (fun r_9 H_9 locs_9 p_9 hT_9 hk_9 hS_9 => ?_)
    have p_9 : H = H_9 ∧ (0 ≤ r_9.toInt ∧ (r_9.toInt = 0 ∨ (1 ≤ r_1.toInt ∧ r_9.toInt = (ai H (ρ a0 0) 292).toInt + 1 - r_1.toInt) ∨ (r_1.toInt < 1 ∧ r_9.toInt = (ai H (ρ a0 0) 292).toInt)) ∧ (ai H (ρ a0 0) 292).toInt ≤ N) := p_9
    obtain ⟨rfl, p_9_0⟩ := p_9
    refine lv_aload_n hx hb dX12_asks_29 rfl (lv_at hl 1 rfl) ?_
    refine lv_iload_n hx hb dX12_asks_30 rfl (lv_at hl 2 rfl) ?_
    refine lv_iconst (v := 3) hx hb dX12_asks_31 (by decide) ?_
    refine th_Vi (As := [.int 1, .int 3]) (rest := [.int r_9, .int x_8, .int 1, .ref a0]) E hml hl.1 (y_get_v31 l D cI cS τ ρ hW H hT_9 a0 ha0) lk_X12_99 yd_X12_get hT_9 ha0 rfl (by decide) hS_9 (fun _ h => h.elim) ⟨by decide, by decide⟩ (Nat.le_of_ble_eq_true rfl) ⟨by decide, by decide⟩ rfl dX12_asks_32 (fun r_10 H_10 locs_10 p_10 hT_10 hk_10 hS_10 => ?_)
    have p_10 : H = H_10 ∧ (ai H (ρ a0 0) 291 = r_10) := p_10
    obtain ⟨rfl, p_10_0⟩ := p_10
    have s_10 : r_10 = r_2 := p_10_0.symm.trans p_2_0
    refine th_topi s_10 ?_
    refine lv_iload_n hx hb dX12_asks_35 rfl (lv_at hl 0 rfl) ?_
    refine lv_isub hx hb dX12_asks_36 ?_
    refine lv_topi (fun x_11 ex_11 => ?_)
    have q_11 : x_11.toInt = r_2.toInt - r_1.toInt := i_mi rfl rfl ex_11 (by omega) (by omega)
    refine th_Si (As := [.int r_9, .int x_11]) (rest := [.int x_8, .int 1, .ref a0]) E hml hl.1 (y_lesser_v2 l D cI cS τ ρ hW H hT_10 r_9 x_11) lk_X12_146 yd_X12_lesser hS_10 (fun _ h => h.elim) ⟨by decide, by decide⟩ (Nat.le_of_ble_eq_true rfl) ⟨by decide, by decide⟩ rfl dX12_asks_37 (fun r_12 H_12 locs_12 p_12 hT_12 hk_12 hS_12 => ?_)
    have p_12 : H = H_12 ∧ (r_12.toInt ≤ r_9.toInt ∧ r_12.toInt ≤ x_11.toInt ∧ (r_12.toInt = r_9.toInt ∨ r_12.toInt = x_11.toInt)) := p_12
    obtain ⟨rfl, p_12_0⟩ := p_12
    refine th_Si (As := [.int x_8, .int r_12]) (rest := [.int 1, .ref a0]) E hml hl.1 (y_lesser_v2 l D cI cS τ ρ hW H hT_12 x_8 r_12) lk_X12_146 yd_X12_lesser hS_12 (fun _ h => h.elim) ⟨by decide, by decide⟩ (Nat.le_of_ble_eq_true rfl) ⟨by decide, by decide⟩ rfl dX12_asks_40 (fun r_13 H_13 locs_13 p_13 hT_13 hk_13 hS_13 => ?_)
    have p_13 : H = H_13 ∧ (r_13.toInt ≤ x_8.toInt ∧ r_13.toInt ≤ r_12.toInt ∧ (r_13.toInt = x_8.toInt ∨ r_13.toInt = r_12.toInt)) := p_13
    obtain ⟨rfl, p_13_0⟩ := p_13
    refine lv_iconst (v := 0) hx hb dX12_asks_43 (by decide) ?_
    refine th_Vv (As := [.int 1, .int r_13, .int 0]) (rest := []) E hml hl.1 (y_sends_v4 l D cI cS τ ρ hW H hT_13 a0 r_13 ha0 N hN0 hN1 ⟨hI.1, hI.2.1, hI.2.2.1, hI.2.2.2.1, hI.2.2.2.2.1, hI.2.2.2.2.2⟩ (by omega) (by have : (ai H (ρ a0 0) 290).toInt = (r_1 : Int32).toInt := congrArg Int32.toInt p_1_0; have j_290 := hI.2.2.1; unfold QS at j_290; omega)) lk_X12_149 yd_X12_sends hT_13 ha0 rfl (by decide) hS_13 (fun q => (fun h => h.elim (fun h => (Or.inl h)) (fun h => (Or.inr h)))) ⟨by decide, by decide⟩ (Nat.le_of_ble_eq_true rfl) ⟨by decide, by decide⟩ rfl dX12_asks_44 (fun H_14 locs_14 p_14 hT_14 hk_14 hS_14 => ?_)
    have p_14 : (IM D ρ N H_14 a0) ∧ ((ai H_14 (ρ a0 0) 290).toInt = (ai H (ρ a0 0) 290).toInt + r_13.toInt + 0) ∧ ((ai H (ρ a0 0) 976).toInt ≤ (ai H_14 (ρ a0 0) 976).toInt) := p_14
    obtain ⟨p_14_0, p_14_1, p_14_2⟩ := p_14
    have mn_14 : (ai H (ρ a0 0) 976).toInt ≤ (ai H_14 (ρ a0 0) 976).toInt := by exact p_14_2
    refine lv_goto (tgt := 68) hx hb dX12_asks_47 (by decide) ?_
    exact th_vret E hr hlk hs hT_14 hS_14 ⟨⟨p_14_0.1, p_14_0.2.1, p_14_0.2.2.1, p_14_0.2.2.2.1, p_14_0.2.2.2.2.1, p_14_0.2.2.2.2.2⟩, (by omega)⟩ dX12_asks_68
set_option maxHeartbeats 4000000 in
set_option maxRecDepth 100000 in
/-- the reference: isKnown -/
theorem y_isKnown_v2 (l : Launch) (D : va_G) (cI cS : ClassId) (τ : Nat → Option Nat) (ρ : Nat → Nat → Nat) (hW : WF τ ρ) (H : Heap) (hT : TH D cI cS τ ρ H) (a0 : Nat) (x1 : Int32) (ha0 : τ a0 = some 12) (hp0 : 0 ≤ x1.toInt) : MI l D cI cS τ ρ yX12_isKnown cX12_isKnown 3 (some .boolean) 1 22 H [.ref a0, .int 1, .int x1] (fun (r : Int32) (u : Heap) => (H = u) ∧ (r = 0 ∨ r = 1)) (fun q => False) := by
  refine MI.of (by decide) (Nat.le_of_ble_eq_true rfl) ?_
  intro p e s m args below meth c E hml hr hlk hs ls hl
  have hx := E.1
  have hb := E.2.1
  have hown := E.2.2.1
  have hts := E.2.2.2.1
  have hS : SS (fun q => False) H H [] := SS.rf
  have hl : lv_has ls 3 [(0, .ref a0), (1, .int 1), (2, .int x1)] := hl
  refine lv_aload_n hx hb dX12_isKnown_0 rfl (lv_at hl 0 rfl) ?_
  refine lv_iload_n hx hb dX12_isKnown_1 rfl (lv_at hl 1 rfl) ?_
  refine lv_bipush (v := 96) hx hb dX12_isKnown_2 (by decide) ?_
  refine lv_iload_n hx hb dX12_isKnown_4 rfl (lv_at hl 2 rfl) ?_
  refine lv_bipush (v := 64) hx hb dX12_isKnown_5 (by decide) ?_
  refine lv_irem hx hb dX12_isKnown_7 (by decide) ?_
  refine lv_topi (fun x_1 ex_1 => ?_)
  have q_1 := i_rem (k := 64) (x := x1) (by decide) (by decide) ex_1
  have p_1 : 0 ≤ x_1.toInt := q_1.2.2 (by omega)
  refine lv_iadd hx hb dX12_isKnown_8 ?_
  refine lv_topi (fun x_2 ex_2 => ?_)
  have q_2 : x_2.toInt = 96 + x_1.toInt := i_pl (by decide) rfl ex_2 (by omega) (by omega)
  refine th_Vi (As := [.int 1, .int x_2]) (rest := []) E hml hl.1 (y_get_v6 l D cI cS τ ρ hW H hT a0 x_2 ha0 (by omega)) lk_X12_99 yd_X12_get hT ha0 rfl (by decide) hS (fun _ h => h.elim) ⟨by decide, by decide⟩ (Nat.le_of_ble_eq_true rfl) ⟨by decide, by decide⟩ rfl dX12_isKnown_9 (fun r_3 H_3 locs_3 p_3 hT_3 hk_3 hS_3 => ?_)
  have p_3 : H = H_3 ∧ (ai H (ρ a0 0) (288 + x_2.toInt).toNat = r_3) := p_3
  obtain ⟨rfl, p_3_0⟩ := p_3
  refine lv_iload_n hx hb dX12_isKnown_12 rfl (lv_at hl 2 rfl) ?_
  refine lv_iconst (v := 1) hx hb dX12_isKnown_13 (by decide) ?_
  refine lv_iadd hx hb dX12_isKnown_14 ?_
  refine lv_topi (fun x_4 ex_4 => ?_)
  refine lv_icmp_ne (tgt := 22) hx hb dX12_isKnown_15 (by decide) (fun c_5 => ?_) (fun c_5 => ?_)
  · have f_5 : ¬ r_3.toInt = x_4.toInt := r_ne rfl rfl c_5
    refine lv_iconst (v := 0) hx hb dX12_isKnown_22 (by decide) ?_
    exact th_zret E hr hlk hs (Or.inl rfl) hT_3 hS_3 ⟨rfl, (Or.inl rfl)⟩ dX12_isKnown_23
  · have f_5 : r_3.toInt = x_4.toInt := r_eq rfl rfl c_5
    refine lv_iconst (v := 1) hx hb dX12_isKnown_18 (by decide) ?_
    refine lv_goto (tgt := 23) hx hb dX12_isKnown_19 (by decide) ?_
    exact th_zret E hr hlk hs (Or.inr rfl) hT_3 hS_3 ⟨rfl, (Or.inr rfl)⟩ dX12_isKnown_23
set_option maxHeartbeats 4000000 in
set_option maxRecDepth 100000 in
/-- the reference: data -/
theorem y_data_v8 (l : Launch) (D : va_G) (cI cS : ClassId) (τ : Nat → Option Nat) (ρ : Nat → Nat → Nat) (hW : WF τ ρ) (H : Heap) (hT : TH D cI cS τ ρ H) (a0 : Nat) (x1 : Int32) (x2 : Int32) (x3 : Int32) (ha0 : τ a0 = some 12) (bb_x3 : x3 = 0 ∨ x3 = 1) (N : Int) (hN0 : 0 ≤ N) (hN1 : N ≤ 600) (hI : IM D ρ N H a0) (hp0 : 0 ≤ x1.toInt ∧ x1.toInt ≤ 700) (hp1 : 0 ≤ x2.toInt ∧ x2.toInt ≤ 8) : MV l D cI cS τ ρ yX12_data cX12_data 6 none 5 115 H [.ref a0, .int 1, .int x1, .int x2, .int x3] (fun (u : Heap) => (IM D ρ N u a0) ∧ ((ai H (ρ a0 0) 976).toInt ≤ (ai u (ρ a0 0) 976).toInt)) (fun q => q = ρ a0 2 ∨ q = ρ a0 0) := by
  refine MV.of (by decide) (Nat.le_of_ble_eq_true rfl) ?_
  intro p e s m args below meth c E hml hr hlk hs ls hl
  have hx := E.1
  have hb := E.2.1
  have hown := E.2.2.1
  have hts := E.2.2.2.1
  have hS : SS (fun q => q = ρ a0 2 ∨ q = ρ a0 0) H H [] := SS.rf
  have hl : lv_has ls 6 [(0, .ref a0), (1, .int 1), (2, .int x1), (3, .int x2), (4, .int x3)] := hl
  have n01 := hI.2.2.2.2.2.1
  have n23 := hI.2.2.2.2.2.2.1
  have z_x3 := b_iv bb_x3
  have J_103 : ∀ (H_c103 : Heap) (lc_c103 : List Loc) (ls : Array Slot) (y103_5 : Int32) (z103_2 : Int32), TH D cI cS τ ρ H_c103 → SS (fun q => q = ρ a0 2 ∨ q = ρ a0 0) H H_c103 lc_c103 → lv_has ls 6 [(0, .ref a0), (1, .int 1), (2, .int x1), (3, .int x2), (4, .int x3), (5, .int y103_5)] → 0 ≤ x1.toInt → x1.toInt ≤ 700 → 0 ≤ x2.toInt → x2.toInt ≤ 8 → x3 = 0 ∨ x3 = 1 → 0 ≤ y103_5.toInt → y103_5.toInt ≤ 8 → IM D ρ N H_c103 a0 → (ai H (ρ a0 0) 976).toInt ≤ (ai H_c103 (ρ a0 0) 976).toInt → W p l e (rmO 5 115) s m args below meth c H_c103 lc_c103 0 0 (MQ below (va_Qv (fun (u : Heap) => (IM D ρ N u a0) ∧ ((ai H (ρ a0 0) 976).toInt ≤ (ai u (ρ a0 0) 976).toInt)) (Bt D cI cS τ ρ H) (fun q => q = ρ a0 2 ∨ q = ρ a0 0)) args s 0 0 (fun q => q = ρ a0 2 ∨ q = ρ a0 0)) (F0 m 103 ls [.int z103_2, .int 7, .ref (ρ a0 2)]) := by
    intro H_c103 lc_c103 ls y103_5 z103_2 hT_c103 hS_c103 hl ly103_2 uy103_2 ly103_3 uy103_3 by103_4 ly103_5 uy103_5 hI_c103 hmn_c103
    have z_y103_4 := b_iv by103_4
    refine th_iast E hT_c103 hS_c103 (hW _ 12 2 ha0 (by decide) (by decide) (by decide)) (Or.inl rfl) (by decide) (vp_in_iff.mpr ⟨by decide, by decide⟩) dX12_data_103 (fun H_1 locs_1 hT_1 hU_1 hS_1 => ?_)
    have hU_1 : AU 20 H_c103 H_1 (ρ a0 2) 7 z103_2 := hU_1
    have hL_1 : PL H_1 (ρ a0 2) := PL.put hI_c103.2.2.2.1 hU_1 (by show (-2147483648 : Int) ≤ _; exact i_min _) (by show _ ≤ (2147483647 : Int); exact i_max _)
    refine lv_aload_n hx hb dX12_data_104 rfl (lv_at hl 0 rfl) ?_
    refine th_Vv (As := []) (rest := []) E hml hl.1 (y_posts l D cI cS τ ρ hW H_1 hT_1 a0 ha0 N hN0 hN1 ⟨(PW.q (hU_1.2 _ (th_ne (hW _ 12 0 ha0 (by decide) (by decide) (by decide)) (hW _ 12 2 ha0 (by decide) (by decide) (by decide)) (by decide))) hI_c103.1), (QS.same (ai_q (hU_1.2 _ (th_ne (hW _ 12 0 ha0 (by decide) (by decide) (by decide)) (hW _ 12 2 ha0 (by decide) (by decide) (by decide)) (by decide)))) (ai_q (hU_1.2 _ (th_ne (hW _ 12 0 ha0 (by decide) (by decide) (by decide)) (hW _ 12 2 ha0 (by decide) (by decide) (by decide)) (by decide)))) hI_c103.2.1), (QS.same (ai_q (hU_1.2 _ (th_ne (hW _ 12 0 ha0 (by decide) (by decide) (by decide)) (hW _ 12 2 ha0 (by decide) (by decide) (by decide)) (by decide)))) (ai_q (hU_1.2 _ (th_ne (hW _ 12 0 ha0 (by decide) (by decide) (by decide)) (hW _ 12 2 ha0 (by decide) (by decide) (by decide)) (by decide)))) hI_c103.2.2.1), hL_1, (PL.q (hU_1.2 _ (Ne.symm n23)) hI_c103.2.2.2.2.1), (IF.q (hU_1.2 _ (th_ne ha0 (hW _ 12 2 ha0 (by decide) (by decide) (by decide)) (by decide))) hI_c103.2.2.2.2.2)⟩) lk_X12_129 yd_X12_posts hT_1 ha0 rfl (by decide) hS_1 (fun q h => (Or.inr h)) ⟨by decide, by decide⟩ (Nat.le_of_ble_eq_true rfl) ⟨by decide, by decide⟩ rfl dX12_data_105 (fun H_2 locs_2 p_2 hT_2 hk_2 hS_2 => ?_)
    have p_2 : (IM D ρ N H_2 a0) ∧ ((ai H_1 (ρ a0 0) 976).toInt ≤ (ai H_2 (ρ a0 0) 976).toInt) := p_2
    obtain ⟨p_2_0, p_2_1⟩ := p_2
    have mn_2 : (ai H_c103 (ρ a0 0) 976).toInt ≤ (ai H_2 (ρ a0 0) 976).toInt := by have h := p_2_1; rw [(ai_q (hU_1.2 _ (th_ne (hW _ 12 0 ha0 (by decide) (by decide) (by decide)) (hW _ 12 2 ha0 (by decide) (by decide) (by decide)) (by decide))))] at h; exact h
    exact th_vret E hr hlk hs hT_2 hS_2 ⟨⟨p_2_0.1, p_2_0.2.1, p_2_0.2.2.1, p_2_0.2.2.2.1, p_2_0.2.2.2.2.1, p_2_0.2.2.2.2.2⟩, (by omega)⟩ dX12_data_108
  have L_32 : ∀ (n : Nat) (H_c32 : Heap) (lc_c32 : List Loc) (ls : Array Slot) (y32_5 : Int32), TH D cI cS τ ρ H_c32 → SS (fun q => q = ρ a0 2 ∨ q = ρ a0 0) H H_c32 lc_c32 → lv_has ls 6 [(0, .ref a0), (1, .int 1), (2, .int x1), (3, .int x2), (4, .int x3), (5, .int y32_5)] → 0 ≤ x1.toInt → x1.toInt ≤ 700 → 0 ≤ x2.toInt → x2.toInt ≤ 8 → x3 = 0 ∨ x3 = 1 → 0 ≤ y32_5.toInt → y32_5.toInt ≤ 8 → IM D ρ N H_c32 a0 → (ai H (ρ a0 0) 976).toInt ≤ (ai H_c32 (ρ a0 0) 976).toInt → (x2.toInt - y32_5.toInt).toNat < n → W p l e (rmO 5 115) s m args below meth c H_c32 lc_c32 0 0 (MQ below (va_Qv (fun (u : Heap) => (IM D ρ N u a0) ∧ ((ai H (ρ a0 0) 976).toInt ≤ (ai u (ρ a0 0) 976).toInt)) (Bt D cI cS τ ρ H) (fun q => q = ρ a0 2 ∨ q = ρ a0 0)) args s 0 0 (fun q => q = ρ a0 2 ∨ q = ρ a0 0)) (F0 m 32 ls []) := by
    intro n
    induction n with
    | zero => intro H_c32 lc_c32 ls y32_5 hT_c32 hS_c32 hl ly32_2 uy32_2 ly32_3 uy32_3 by32_4 ly32_5 uy32_5 hI_c32 hmn_c32 hm; exact absurd hm (Nat.not_lt_zero _)
    | succ n ih_32 =>
      intro H_c32 lc_c32 ls y32_5 hT_c32 hS_c32 hl ly32_2 uy32_2 ly32_3 uy32_3 by32_4 ly32_5 uy32_5 hI_c32 hmn_c32 hm_32
      have z_y32_4 := b_iv by32_4
      refine lv_iload hx hb dX12_data_32 (lv_at hl 5 rfl) ?_
      refine lv_iload_n hx hb dX12_data_34 rfl (lv_at hl 3 rfl) ?_
      refine lv_icmp_ge (tgt := 69) hx hb dX12_data_35 (by decide) (fun c_3 => ?_) (fun c_3 => ?_)
      · have f_3 : x2.toInt ≤ y32_5.toInt := r_le rfl rfl c_3
        refine lv_aload_n hx hb dX12_data_69 rfl (lv_at hl 0 rfl) ?_
        refine gf_X12_16 E hT_c32 hW ha0 dX12_data_70 (fun h_4 => ?_)
        refine lv_bipush (v := 7) hx hb dX12_data_73 (by decide) ?_
        refine lv_iload_n hx hb dX12_data_75 rfl (lv_at hl 2 rfl) ?_
        refine lv_aload_n hx hb dX12_data_76 rfl (lv_at hl 0 rfl) ?_
        refine lv_iload_n hx hb dX12_data_77 rfl (lv_at hl 1 rfl) ?_
        refine lv_bipush (v := 14) hx hb dX12_data_78 (by decide) ?_
        refine th_Vi (As := [.int 1, .int 14]) (rest := [.int x1, .int 7, .ref (ρ a0 2)]) E hml hl.1 (y_get_v35 l D cI cS τ ρ hW H_c32 hT_c32 a0 ha0) lk_X12_99 yd_X12_get hT_c32 ha0 rfl (by decide) hS_c32 (fun _ h => h.elim) ⟨by decide, by decide⟩ (Nat.le_of_ble_eq_true rfl) ⟨by decide, by decide⟩ rfl dX12_data_80 (fun r_5 H_5 locs_5 p_5 hT_5 hk_5 hS_5 => ?_)
        have p_5 : H_c32 = H_5 ∧ (ai H_c32 (ρ a0 0) 302 = r_5) := p_5
        obtain ⟨rfl, p_5_0⟩ := p_5
        have c_r_5 := congrArg Int32.toInt p_5_0
        refine lv_icmp_ge (tgt := 101) hx hb dX12_data_83 (by decide) (fun c_6 => ?_) (fun c_6 => ?_)
        · have f_6 : r_5.toInt ≤ x1.toInt := r_le rfl rfl c_6
          refine lv_bipush (v := (-4)) hx hb dX12_data_101 (by decide) ?_
          exact J_103 H_c32 locs_5 _ y32_5 (-4) hT_5 hS_5 hl (by omega) (by omega) (by omega) (by omega) by32_4 (by omega) (by omega) ⟨hI_c32.1, hI_c32.2.1, hI_c32.2.2.1, hI_c32.2.2.2.1, hI_c32.2.2.2.2.1, hI_c32.2.2.2.2.2⟩ (by omega)
        · have f_6 : x1.toInt < r_5.toInt := r_nle rfl rfl c_6
          refine lv_aload_n hx hb dX12_data_86 rfl (lv_at hl 0 rfl) ?_
          refine lv_iload_n hx hb dX12_data_87 rfl (lv_at hl 1 rfl) ?_
          refine lv_aload_n hx hb dX12_data_88 rfl (lv_at hl 0 rfl) ?_
          refine lv_iload_n hx hb dX12_data_89 rfl (lv_at hl 1 rfl) ?_
          refine lv_bipush (v := 14) hx hb dX12_data_90 (by decide) ?_
          refine th_Vi (As := [.int 1, .int 14]) (rest := [.int 1, .ref a0, .int 7, .ref (ρ a0 2)]) E hml hl.1 (y_get_v35 l D cI cS τ ρ hW H_c32 hT_5 a0 ha0) lk_X12_99 yd_X12_get hT_5 ha0 rfl (by decide) hS_5 (fun _ h => h.elim) ⟨by decide, by decide⟩ (Nat.le_of_ble_eq_true rfl) ⟨by decide, by decide⟩ rfl dX12_data_92 (fun r_7 H_7 locs_7 p_7 hT_7 hk_7 hS_7 => ?_)
          have p_7 : H_c32 = H_7 ∧ (ai H_c32 (ρ a0 0) 302 = r_7) := p_7
          obtain ⟨rfl, p_7_0⟩ := p_7
          have s_7 : r_7 = r_5 := p_7_0.symm.trans p_5_0
          refine th_topi s_7 ?_
          refine th_Vi (As := [.int 1, .int r_5]) (rest := [.int 7, .ref (ρ a0 2)]) E hml hl.1 (y_number_v2 l D cI cS τ ρ hW H_c32 hT_7 a0 r_5 ha0) lk_X12_112 yd_X12_number hT_7 ha0 rfl (by decide) hS_7 (fun _ h => h.elim) ⟨by decide, by decide⟩ (Nat.le_of_ble_eq_true rfl) ⟨by decide, by decide⟩ rfl dX12_data_95 (fun r_8 H_8 locs_8 p_8 hT_8 hk_8 hS_8 => ?_)
          have p_8 : H_c32 = H_8 := p_8
          obtain rfl := p_8
          refine lv_goto (tgt := 103) hx hb dX12_data_98 (by decide) ?_
          exact J_103 H_c32 locs_8 _ y32_5 r_8 hT_8 hS_8 hl (by omega) (by omega) (by omega) (by omega) by32_4 (by omega) (by omega) ⟨hI_c32.1, hI_c32.2.1, hI_c32.2.2.1, hI_c32.2.2.2.1, hI_c32.2.2.2.2.1, hI_c32.2.2.2.2.2⟩ (by omega)
      · have f_3 : y32_5.toInt < x2.toInt := r_nle rfl rfl c_3
        refine lv_aload_n hx hb dX12_data_38 rfl (lv_at hl 0 rfl) ?_
        refine gf_X12_16 E hT_c32 hW ha0 dX12_data_39 (fun h_9 => ?_)
        refine lv_bipush (v := 12) hx hb dX12_data_42 (by decide) ?_
        refine lv_iload hx hb dX12_data_44 (lv_at hl 5 rfl) ?_
        refine lv_iadd hx hb dX12_data_46 ?_
        refine lv_topi (fun x_10 ex_10 => ?_)
        have q_10 : x_10.toInt = 12 + y32_5.toInt := i_pl (by decide) rfl ex_10 (by omega) (by omega)
        refine lv_aload_n hx hb dX12_data_47 rfl (lv_at hl 0 rfl) ?_
        refine lv_iload_n hx hb dX12_data_48 rfl (lv_at hl 1 rfl) ?_
        refine lv_bipush (v := 32) hx hb dX12_data_49 (by decide) ?_
        refine lv_iload_n hx hb dX12_data_51 rfl (lv_at hl 2 rfl) ?_
        refine lv_iload hx hb dX12_data_52 (lv_at hl 5 rfl) ?_
        refine lv_iadd hx hb dX12_data_54 ?_
        refine lv_topi (fun x_11 ex_11 => ?_)
        have q_11 : x_11.toInt = x1.toInt + y32_5.toInt := i_pl rfl rfl ex_11 (by omega) (by omega)
        refine lv_bipush (v := 64) hx hb dX12_data_55 (by decide) ?_
        refine lv_irem hx hb dX12_data_57 (by decide) ?_
        refine lv_topi (fun x_12 ex_12 => ?_)
        have q_12 := i_rem (k := 64) (x := x_11) (by decide) (by decide) ex_12
        have p_12 : 0 ≤ x_12.toInt := q_12.2.2 (by omega)
        refine lv_iadd hx hb dX12_data_58 ?_
        refine lv_topi (fun x_13 ex_13 => ?_)
        have q_13 : x_13.toInt = 32 + x_12.toInt := i_pl (by decide) rfl ex_13 (by omega) (by omega)
        refine th_Vi (As := [.int 1, .int x_13]) (rest := [.int x_10, .ref (ρ a0 2)]) E hml hl.1 (y_get_v6 l D cI cS τ ρ hW H_c32 hT_c32 a0 x_13 ha0 (by omega)) lk_X12_99 yd_X12_get hT_c32 ha0 rfl (by decide) hS_c32 (fun _ h => h.elim) ⟨by decide, by decide⟩ (Nat.le_of_ble_eq_true rfl) ⟨by decide, by decide⟩ rfl dX12_data_59 (fun r_14 H_14 locs_14 p_14 hT_14 hk_14 hS_14 => ?_)
        have p_14 : H_c32 = H_14 ∧ (ai H_c32 (ρ a0 0) (288 + x_13.toInt).toNat = r_14) := p_14
        obtain ⟨rfl, p_14_0⟩ := p_14
        refine th_iast E hT_14 hS_14 h_9 (Or.inl rfl) (by decide) (vp_in_iff.mpr ⟨by omega, by omega⟩) dX12_data_62 (fun H_15 locs_15 hT_15 hU_15 hS_15 => ?_)
        have hU_15 : AU 20 H_c32 H_15 (ρ a0 2) x_10.toInt.toNat r_14 := hU_15
        have hL_15 : PL H_15 (ρ a0 2) := PL.free hI_c32.2.2.2.1 hU_15 (by omega)
        obtain ⟨x_16, ex_16⟩ : ∃ y : Int32, y32_5 + 1 = y := ⟨_, rfl⟩
        have q_x_16 : x_16.toInt = y32_5.toInt + 1 := i_add (k := 1) (by decide) ex_16 (by have := i_min y32_5; omega) (by have := i_max y32_5; omega)
        refine lv_iinc (v := x_16) (lv' := [(5, .int x_16), (0, .ref a0), (1, .int 1), (2, .int x1), (3, .int x2), (4, .int x3)]) hx hb dX12_data_63 hl (k := 5) rfl (by rw [← ex_16]; rfl) (by decide) rfl (fun ls hl => ?_)
        refine lv_goto (tgt := 32) hx hb dX12_data_66 (by decide) ?_
        exact ih_32 H_15 locs_15 _ x_16 hT_15 hS_15 (lv_sub hl [1, 2, 3, 4, 5, 0] rfl) (by omega) (by omega) (by omega) (by omega) by32_4 (by omega) (by omega) ⟨(PW.q (hU_15.2 _ (th_ne (hW _ 12 0 ha0 (by decide) (by decide) (by decide)) (hW _ 12 2 ha0 (by decide) (by decide) (by decide)) (by decide))) hI_c32.1), (QS.same (ai_q (hU_15.2 _ (th_ne (hW _ 12 0 ha0 (by decide) (by decide) (by decide)) (hW _ 12 2 ha0 (by decide) (by decide) (by decide)) (by decide)))) (ai_q (hU_15.2 _ (th_ne (hW _ 12 0 ha0 (by decide) (by decide) (by decide)) (hW _ 12 2 ha0 (by decide) (by decide) (by decide)) (by decide)))) hI_c32.2.1), (QS.same (ai_q (hU_15.2 _ (th_ne (hW _ 12 0 ha0 (by decide) (by decide) (by decide)) (hW _ 12 2 ha0 (by decide) (by decide) (by decide)) (by decide)))) (ai_q (hU_15.2 _ (th_ne (hW _ 12 0 ha0 (by decide) (by decide) (by decide)) (hW _ 12 2 ha0 (by decide) (by decide) (by decide)) (by decide)))) hI_c32.2.2.1), hL_15, (PL.q (hU_15.2 _ (Ne.symm n23)) hI_c32.2.2.2.2.1), (IF.q (hU_15.2 _ (th_ne ha0 (hW _ 12 2 ha0 (by decide) (by decide) (by decide)) (by decide))) hI_c32.2.2.2.2.2)⟩ (by rw [(ai_q (hU_15.2 _ (th_ne (hW _ 12 0 ha0 (by decide) (by decide) (by decide)) (hW _ 12 2 ha0 (by decide) (by decide) (by decide)) (by decide))))]; omega) (by omega)
  have J_13 : ∀ (H_c13 : Heap) (lc_c13 : List Loc) (ls : Array Slot) (z13_2 : Int32), TH D cI cS τ ρ H_c13 → SS (fun q => q = ρ a0 2 ∨ q = ρ a0 0) H H_c13 lc_c13 → lv_has ls 6 [(0, .ref a0), (1, .int 1), (2, .int x1), (3, .int x2), (4, .int x3)] → 0 ≤ x1.toInt → x1.toInt ≤ 700 → 0 ≤ x2.toInt → x2.toInt ≤ 8 → x3 = 0 ∨ x3 = 1 → 4 ≤ z13_2.toInt → z13_2.toInt ≤ 6 → IM D ρ N H_c13 a0 → (ai H (ρ a0 0) 976).toInt ≤ (ai H_c13 (ρ a0 0) 976).toInt → W p l e (rmO 5 115) s m args below meth c H_c13 lc_c13 0 0 (MQ below (va_Qv (fun (u : Heap) => (IM D ρ N u a0) ∧ ((ai H (ρ a0 0) 976).toInt ≤ (ai u (ρ a0 0) 976).toInt)) (Bt D cI cS τ ρ H) (fun q => q = ρ a0 2 ∨ q = ρ a0 0)) args s 0 0 (fun q => q = ρ a0 2 ∨ q = ρ a0 0)) (F0 m 13 ls [.int z13_2, .int 1, .ref a0]) := by
    intro H_c13 lc_c13 ls z13_2 hT_c13 hS_c13 hl ly13_2 uy13_2 ly13_3 uy13_3 by13_4 lz13_2 uz13_2 hI_c13 hmn_c13
    have z_y13_4 := b_iv by13_4
    refine lv_aload_n hx hb dX12_data_13 rfl (lv_at hl 0 rfl) ?_
    refine lv_iload_n hx hb dX12_data_14 rfl (lv_at hl 1 rfl) ?_
    refine lv_iload_n hx hb dX12_data_15 rfl (lv_at hl 2 rfl) ?_
    refine th_Vi (As := [.int 1, .int x1]) (rest := [.int z13_2, .int 1, .ref a0]) E hml hl.1 (y_number_v2 l D cI cS τ ρ hW H_c13 hT_c13 a0 x1 ha0) lk_X12_112 yd_X12_number hT_c13 ha0 rfl (by decide) hS_c13 (fun _ h => h.elim) ⟨by decide, by decide⟩ (Nat.le_of_ble_eq_true rfl) ⟨by decide, by decide⟩ rfl dX12_data_16 (fun r_17 H_17 locs_17 p_17 hT_17 hk_17 hS_17 => ?_)
    have p_17 : H_c13 = H_17 := p_17
    obtain rfl := p_17
    refine th_Vv (As := [.int 1, .int z13_2, .int r_17]) (rest := []) E hml hl.1 (y_makes_v4 l D cI cS τ ρ hW H_c13 hT_17 a0 z13_2 r_17 ha0 N hN0 hN1 ⟨hI_c13.1, hI_c13.2.1, hI_c13.2.2.1, hI_c13.2.2.2.1, hI_c13.2.2.2.2.1, hI_c13.2.2.2.2.2⟩) lk_X12_126 yd_X12_makes hT_17 ha0 rfl (by decide) hS_17 (fun q h => (Or.inl h)) ⟨by decide, by decide⟩ (Nat.le_of_ble_eq_true rfl) ⟨by decide, by decide⟩ rfl dX12_data_19 (fun H_18 locs_18 p_18 hT_18 hk_18 hS_18 => ?_)
    have p_18 : (IM D ρ N H_18 a0) ∧ ((ai H_c13 (ρ a0 0) 976).toInt ≤ (ai H_18 (ρ a0 0) 976).toInt) := p_18
    obtain ⟨p_18_0, p_18_1⟩ := p_18
    have mn_18 : (ai H_c13 (ρ a0 0) 976).toInt ≤ (ai H_18 (ρ a0 0) 976).toInt := by exact p_18_1
    refine lv_aload_n hx hb dX12_data_22 rfl (lv_at hl 0 rfl) ?_
    refine gf_X12_16 E hT_18 hW ha0 dX12_data_23 (fun h_19 => ?_)
    refine lv_iconst (v := 5) hx hb dX12_data_26 (by decide) ?_
    refine lv_iload_n hx hb dX12_data_27 rfl (lv_at hl 3 rfl) ?_
    refine th_iast E hT_18 hS_18 h_19 (Or.inl rfl) (by decide) (vp_in_iff.mpr ⟨by decide, by decide⟩) dX12_data_28 (fun H_20 locs_20 hT_20 hU_20 hS_20 => ?_)
    have hU_20 : AU 20 H_18 H_20 (ρ a0 2) 5 x2 := hU_20
    have hL_20 : PL H_20 (ρ a0 2) := PL.put p_18_0.2.2.2.1 hU_20 (by show (0 : Int) ≤ x2.toInt; omega) (by show x2.toInt ≤ (8 : Int); omega)
    refine lv_iconst (v := 0) hx hb dX12_data_29 (by decide) ?_
    refine lv_istore (lv' := [(5, .int 0), (0, .ref a0), (1, .int 1), (2, .int x1), (3, .int x2), (4, .int x3)]) hx hb dX12_data_30 hl (by decide) rfl (fun ls hl => ?_)
    exact L_32 _ H_20 locs_20 _ 0 hT_20 hS_20 (lv_sub hl [1, 2, 3, 4, 5, 0] rfl) (by omega) (by omega) (by omega) (by omega) by13_4 (by decide) (by decide) ⟨(PW.q (hU_20.2 _ (th_ne (hW _ 12 0 ha0 (by decide) (by decide) (by decide)) (hW _ 12 2 ha0 (by decide) (by decide) (by decide)) (by decide))) p_18_0.1), (QS.same ((Eq.trans (ai_q (hU_20.2 _ (th_ne (hW _ 12 0 ha0 (by decide) (by decide) (by decide)) (hW _ 12 2 ha0 (by decide) (by decide) (by decide)) (by decide)))) (ai_q (hk_18 _ (th_ne (hW _ 12 0 ha0 (by decide) (by decide) (by decide)) (hW _ 12 2 ha0 (by decide) (by decide) (by decide)) (by decide))))).trans (ai_q (hk_18 _ (th_ne (hW _ 12 0 ha0 (by decide) (by decide) (by decide)) (hW _ 12 2 ha0 (by decide) (by decide) (by decide)) (by decide)))).symm) ((Eq.trans (ai_q (hU_20.2 _ (th_ne (hW _ 12 0 ha0 (by decide) (by decide) (by decide)) (hW _ 12 2 ha0 (by decide) (by decide) (by decide)) (by decide)))) (ai_q (hk_18 _ (th_ne (hW _ 12 0 ha0 (by decide) (by decide) (by decide)) (hW _ 12 2 ha0 (by decide) (by decide) (by decide)) (by decide))))).trans (ai_q (hk_18 _ (th_ne (hW _ 12 0 ha0 (by decide) (by decide) (by decide)) (hW _ 12 2 ha0 (by decide) (by decide) (by decide)) (by decide)))).symm) p_18_0.2.1), (QS.same ((Eq.trans (ai_q (hU_20.2 _ (th_ne (hW _ 12 0 ha0 (by decide) (by decide) (by decide)) (hW _ 12 2 ha0 (by decide) (by decide) (by decide)) (by decide)))) (ai_q (hk_18 _ (th_ne (hW _ 12 0 ha0 (by decide) (by decide) (by decide)) (hW _ 12 2 ha0 (by decide) (by decide) (by decide)) (by decide))))).trans (ai_q (hk_18 _ (th_ne (hW _ 12 0 ha0 (by decide) (by decide) (by decide)) (hW _ 12 2 ha0 (by decide) (by decide) (by decide)) (by decide)))).symm) ((Eq.trans (ai_q (hU_20.2 _ (th_ne (hW _ 12 0 ha0 (by decide) (by decide) (by decide)) (hW _ 12 2 ha0 (by decide) (by decide) (by decide)) (by decide)))) (ai_q (hk_18 _ (th_ne (hW _ 12 0 ha0 (by decide) (by decide) (by decide)) (hW _ 12 2 ha0 (by decide) (by decide) (by decide)) (by decide))))).trans (ai_q (hk_18 _ (th_ne (hW _ 12 0 ha0 (by decide) (by decide) (by decide)) (hW _ 12 2 ha0 (by decide) (by decide) (by decide)) (by decide)))).symm) p_18_0.2.2.1), hL_20, (PL.q (hU_20.2 _ (Ne.symm n23)) p_18_0.2.2.2.2.1), (IF.q (hU_20.2 _ (th_ne ha0 (hW _ 12 2 ha0 (by decide) (by decide) (by decide)) (by decide))) p_18_0.2.2.2.2.2)⟩ (by rw [(Eq.trans (ai_q (hU_20.2 _ (th_ne (hW _ 12 0 ha0 (by decide) (by decide) (by decide)) (hW _ 12 2 ha0 (by decide) (by decide) (by decide)) (by decide)))) (ai_q (hk_18 _ (th_ne (hW _ 12 0 ha0 (by decide) (by decide) (by decide)) (hW _ 12 2 ha0 (by decide) (by decide) (by decide)) (by decide)))))]; omega) (Nat.lt_succ_self _)
  refine lv_aload_n hx hb dX12_data_0 rfl (lv_at hl 0 rfl) ?_
  refine lv_iload_n hx hb dX12_data_1 rfl (lv_at hl 1 rfl) ?_
  refine lv_iload hx hb dX12_data_2 (lv_at hl 4 rfl) ?_
  refine lv_if_eq (tgt := 12) hx hb dX12_data_4 (by decide) (fun c_21 => ?_) (fun c_21 => ?_)
  · have f_21 : x3.toInt = 0 := r_eq rfl (by decide) c_21
    refine lv_iconst (v := 4) hx hb dX12_data_12 (by decide) ?_
    exact J_13 H [] _ 4 hT hS hl (by omega) (by omega) (by omega) (by omega) bb_x3 (by decide) (by decide) ⟨hI.1, hI.2.1, hI.2.2.1, hI.2.2.2.1, hI.2.2.2.2.1, hI.2.2.2.2.2⟩ (by omega)
  · have f_21 : ¬ x3.toInt = 0 := r_ne rfl (by decide) c_21
    have nz_x3 : ¬ x3 = 0 := c_21
    refine lv_bipush (v := 6) hx hb dX12_data_7 (by decide) ?_
    refine lv_goto (tgt := 13) hx hb dX12_data_9 (by decide) ?_
    exact J_13 H [] _ 6 hT hS hl (by omega) (by omega) (by omega) (by omega) bb_x3 (by decide) (by decide) ⟨hI.1, hI.2.1, hI.2.2.1, hI.2.2.2.1, hI.2.2.2.2.1, hI.2.2.2.2.2⟩ (by omega)
set_option maxHeartbeats 4000000 in
set_option maxRecDepth 100000 in
/-- the reference: sendsAgain -/
theorem y_sendsAgain_v2 (l : Launch) (D : va_G) (cI cS : ClassId) (τ : Nat → Option Nat) (ρ : Nat → Nat → Nat) (hW : WF τ ρ) (H : Heap) (hT : TH D cI cS τ ρ H) (a0 : Nat) (ha0 : τ a0 = some 12) (N : Int) (hN0 : 0 ≤ N) (hN1 : N ≤ 600) (hI : IM D ρ N H a0) : MV l D cI cS τ ρ yX12_sendsAgain cX12_sendsAgain 5 none 6 140 H [.ref a0, .int 1] (fun (u : Heap) => (IM D ρ N u a0) ∧ ((ai H (ρ a0 0) 976).toInt ≤ (ai u (ρ a0 0) 976).toInt)) (fun q => q = ρ a0 2 ∨ q = ρ a0 0) := by
  refine MV.of (by decide) (Nat.le_of_ble_eq_true rfl) ?_
  intro p e s m args below meth c E hml hr hlk hs ls hl
  have hx := E.1
  have hb := E.2.1
  have hown := E.2.2.1
  have hts := E.2.2.2.1
  have hS : SS (fun q => q = ρ a0 2 ∨ q = ρ a0 0) H H [] := SS.rf
  have hl : lv_has ls 5 [(0, .ref a0), (1, .int 1)] := hl
  have n01 := hI.2.2.2.2.2.1
  have n23 := hI.2.2.2.2.2.2.1
  have J_157 : ∀ (H_c157 : Heap) (lc_c157 : List Loc) (ls : Array Slot) (y157_2 : Int32), TH D cI cS τ ρ H_c157 → SS (fun q => q = ρ a0 2 ∨ q = ρ a0 0) H H_c157 lc_c157 → lv_has ls 5 [(0, .ref a0), (1, .int 1), (2, .int y157_2)] → 0 ≤ y157_2.toInt → y157_2.toInt ≤ 602 → IM D ρ N H_c157 a0 → (ai H (ρ a0 0) 976).toInt ≤ (ai H_c157 (ρ a0 0) 976).toInt → W p l e (rmO 6 140) s m args below meth c H_c157 lc_c157 0 0 (MQ below (va_Qv (fun (u : Heap) => (IM D ρ N u a0) ∧ ((ai H (ρ a0 0) 976).toInt ≤ (ai u (ρ a0 0) 976).toInt)) (Bt D cI cS τ ρ H) (fun q => q = ρ a0 2 ∨ q = ρ a0 0)) args s 0 0 (fun q => q = ρ a0 2 ∨ q = ρ a0 0)) (F0 m 157 ls []) := by
    intro H_c157 lc_c157 ls y157_2 hT_c157 hS_c157 hl ly157_2 uy157_2 hI_c157 hmn_c157
    refine lv_aload_n hx hb dX12_sendsAgain_157 rfl (lv_at hl 0 rfl) ?_
    refine gf_X12_7 E hT_c157 hW ha0 dX12_sendsAgain_158 (fun h_1 => ?_)
    refine lv_sipush (v := 980) hx hb dX12_sendsAgain_161 (by decide) ?_
    refine lv_dup2_11 hx hb dX12_sendsAgain_164 rfl rfl ?_
    refine th_iald E hT_c157 h_1 (by decide) (vp_in_iff.mpr ⟨by decide, by decide⟩) dX12_sendsAgain_165 ?_
    refine th_topi (y := ai H_c157 (ρ a0 0) 980) rfl ?_
    refine lv_topi (fun x_2 ex_2 => ?_)
    have c_x_2 := congrArg Int32.toInt ex_2.symm
    refine lv_iconst (v := 1) hx hb dX12_sendsAgain_166 (by decide) ?_
    refine lv_iadd hx hb dX12_sendsAgain_167 ?_
    refine lv_topi (fun x_3 ex_3 => ?_)
    refine th_iast E hT_c157 hS_c157 h_1 (Or.inr rfl) (by decide) (vp_in_iff.mpr ⟨by decide, by decide⟩) dX12_sendsAgain_168 (fun H_4 locs_4 hT_4 hU_4 hS_4 => ?_)
    have hU_4 : AU 985 H_c157 H_4 (ρ a0 0) 980 x_3 := hU_4
    have hW_4 : PW N H_4 (ρ a0 0) := PW.put hI_c157.1 hU_4 (by show (-2147483648 : Int) ≤ _; exact i_min _) (by show _ ≤ (2147483647 : Int); exact i_max _)
    refine lv_aload_n hx hb dX12_sendsAgain_169 rfl (lv_at hl 0 rfl) ?_
    refine lv_iload_n hx hb dX12_sendsAgain_170 rfl (lv_at hl 1 rfl) ?_
    refine lv_bipush (v := 16) hx hb dX12_sendsAgain_171 (by decide) ?_
    refine lv_bipush (v := (-4)) hx hb dX12_sendsAgain_173 (by decide) ?_
    refine th_Vv (As := [.int 1, .int 16, .int (-4)]) (rest := []) E hml hl.1 (y_set l D cI cS τ ρ hW H_4 hT_4 a0 ha0) lk_X12_95 yd_X12_set hT_4 ha0 rfl (by decide) hS_4 (fun q h => (Or.inr h)) ⟨by decide, by decide⟩ (Nat.le_of_ble_eq_true rfl) ⟨by decide, by decide⟩ rfl dX12_sendsAgain_175 (fun H_5 locs_5 p_5 hT_5 hk_5 hS_5 => ?_)
    have p_5 : (AU 985 H_4 H_5 (ρ a0 0) 304 ((-4))) := p_5
    have hW_5 : PW N H_5 (ρ a0 0) := PW.put hW_4 p_5 (by show (-2147483648 : Int) ≤ _; exact i_min _) (by show _ ≤ (2147483647 : Int); exact i_max _)
    exact th_vret E hr hlk hs hT_5 hS_5 ⟨⟨hW_5, (QS.same (Eq.trans (AU.o p_5 (by decide) (by decide)) (AU.o hU_4 (by decide) (by decide))) (Eq.trans (AU.o p_5 (by decide) (by decide)) (AU.o hU_4 (by decide) (by decide))) hI_c157.2.1), (QS.same (Eq.trans (AU.o p_5 (by decide) (by decide)) (AU.o hU_4 (by decide) (by decide))) (Eq.trans (AU.o p_5 (by decide) (by decide)) (AU.o hU_4 (by decide) (by decide))) hI_c157.2.2.1), (PL.q (p_5.2 _ (th_ne (hW _ 12 2 ha0 (by decide) (by decide) (by decide)) (hW _ 12 0 ha0 (by decide) (by decide) (by decide)) (by decide))) (PL.q (hU_4.2 _ (th_ne (hW _ 12 2 ha0 (by decide) (by decide) (by decide)) (hW _ 12 0 ha0 (by decide) (by decide) (by decide)) (by decide))) hI_c157.2.2.2.1)), (PL.q (p_5.2 _ (th_ne (hW _ 12 3 ha0 (by decide) (by decide) (by decide)) (hW _ 12 0 ha0 (by decide) (by decide) (by decide)) (by decide))) (PL.q (hU_4.2 _ (th_ne (hW _ 12 3 ha0 (by decide) (by decide) (by decide)) (hW _ 12 0 ha0 (by decide) (by decide) (by decide)) (by decide))) hI_c157.2.2.2.2.1)), (IF.q (p_5.2 _ (th_ne ha0 (hW _ 12 0 ha0 (by decide) (by decide) (by decide)) (by decide))) (IF.q (hU_4.2 _ (th_ne ha0 (hW _ 12 0 ha0 (by decide) (by decide) (by decide)) (by decide))) hI_c157.2.2.2.2.2))⟩, (by rw [(Eq.trans (AU.o p_5 (by decide) (by decide)) (AU.o hU_4 (by decide) (by decide)))]; omega)⟩ dX12_sendsAgain_178
  have J_154 : ∀ (H_c154 : Heap) (lc_c154 : List Loc) (ls : Array Slot) (y154_2 : Int32) (y154_3 : Int32) (y154_4 : Int32) (z154_2 : Int32) (z154_3 : Int32) (z154_4 : Int32), TH D cI cS τ ρ H_c154 → SS (fun q => q = ρ a0 2 ∨ q = ρ a0 0) H H_c154 lc_c154 → lv_has ls 5 [(0, .ref a0), (1, .int 1), (2, .int y154_2), (3, .int y154_3), (4, .int y154_4)] → 1 ≤ y154_2.toInt → y154_2.toInt ≤ 602 → 0 ≤ y154_3.toInt → y154_3.toInt ≤ 8 → 1 ≤ y154_4.toInt → y154_4.toInt ≤ 610 → 1 ≤ z154_2.toInt → z154_2.toInt ≤ 602 → 0 ≤ z154_3.toInt → z154_3.toInt ≤ 8 → z154_4 = 0 ∨ z154_4 = 1 → IM D ρ N H_c154 a0 → (ai H (ρ a0 0) 976).toInt ≤ (ai H_c154 (ρ a0 0) 976).toInt → W p l e (rmO 6 140) s m args below meth c H_c154 lc_c154 0 0 (MQ below (va_Qv (fun (u : Heap) => (IM D ρ N u a0) ∧ ((ai H (ρ a0 0) 976).toInt ≤ (ai u (ρ a0 0) 976).toInt)) (Bt D cI cS τ ρ H) (fun q => q = ρ a0 2 ∨ q = ρ a0 0)) args s 0 0 (fun q => q = ρ a0 2 ∨ q = ρ a0 0)) (F0 m 154 ls [.int z154_4, .int z154_3, .int z154_2, .int 1, .ref a0]) := by
    intro H_c154 lc_c154 ls y154_2 y154_3 y154_4 z154_2 z154_3 z154_4 hT_c154 hS_c154 hl ly154_2 uy154_2 ly154_3 uy154_3 ly154_4 uy154_4 lz154_2 uz154_2 lz154_3 uz154_3 bz154_4 hI_c154 hmn_c154
    have z_z154_4 := b_iv bz154_4
    refine th_Vv (As := [.int 1, .int z154_2, .int z154_3, .int z154_4]) (rest := []) E hml hl.1 (y_data_v8 l D cI cS τ ρ hW H_c154 hT_c154 a0 z154_2 z154_3 z154_4 ha0 bz154_4 N hN0 hN1 ⟨hI_c154.1, hI_c154.2.1, hI_c154.2.2.1, hI_c154.2.2.2.1, hI_c154.2.2.2.2.1, hI_c154.2.2.2.2.2⟩ (by omega) (by omega)) lk_X12_139 yd_X12_data hT_c154 ha0 rfl (by decide) hS_c154 (fun q => (fun h => h.elim (fun h => (Or.inl h)) (fun h => (Or.inr h)))) ⟨by decide, by decide⟩ (Nat.le_of_ble_eq_true rfl) ⟨by decide, by decide⟩ rfl dX12_sendsAgain_154 (fun H_6 locs_6 p_6 hT_6 hk_6 hS_6 => ?_)
    have p_6 : (IM D ρ N H_6 a0) ∧ ((ai H_c154 (ρ a0 0) 976).toInt ≤ (ai H_6 (ρ a0 0) 976).toInt) := p_6
    obtain ⟨p_6_0, p_6_1⟩ := p_6
    have mn_6 : (ai H_c154 (ρ a0 0) 976).toInt ≤ (ai H_6 (ρ a0 0) 976).toInt := by exact p_6_1
    exact J_157 H_6 locs_6 _ y154_2 hT_6 hS_6 (lv_sub hl [0, 1, 2] rfl) (by omega) (by omega) ⟨p_6_0.1, p_6_0.2.1, p_6_0.2.2.1, p_6_0.2.2.2.1, p_6_0.2.2.2.2.1, p_6_0.2.2.2.2.2⟩ (by omega)
  have J_153 : ∀ (H_c153 : Heap) (lc_c153 : List Loc) (ls : Array Slot) (y153_2 : Int32) (y153_3 : Int32) (y153_4 : Int32) (z153_2 : Int32) (z153_3 : Int32), TH D cI cS τ ρ H_c153 → SS (fun q => q = ρ a0 2 ∨ q = ρ a0 0) H H_c153 lc_c153 → lv_has ls 5 [(0, .ref a0), (1, .int 1), (2, .int y153_2), (3, .int y153_3), (4, .int y153_4)] → 1 ≤ y153_2.toInt → y153_2.toInt ≤ 602 → 0 ≤ y153_3.toInt → y153_3.toInt ≤ 8 → 1 ≤ y153_4.toInt → y153_4.toInt ≤ 610 → 1 ≤ z153_2.toInt → z153_2.toInt ≤ 602 → 0 ≤ z153_3.toInt → z153_3.toInt ≤ 8 → IM D ρ N H_c153 a0 → (ai H (ρ a0 0) 976).toInt ≤ (ai H_c153 (ρ a0 0) 976).toInt → W p l e (rmO 6 140) s m args below meth c H_c153 lc_c153 0 0 (MQ below (va_Qv (fun (u : Heap) => (IM D ρ N u a0) ∧ ((ai H (ρ a0 0) 976).toInt ≤ (ai u (ρ a0 0) 976).toInt)) (Bt D cI cS τ ρ H) (fun q => q = ρ a0 2 ∨ q = ρ a0 0)) args s 0 0 (fun q => q = ρ a0 2 ∨ q = ρ a0 0)) (F0 m 153 ls [.int z153_3, .int z153_2, .int 1, .ref a0]) := by
    intro H_c153 lc_c153 ls y153_2 y153_3 y153_4 z153_2 z153_3 hT_c153 hS_c153 hl ly153_2 uy153_2 ly153_3 uy153_3 ly153_4 uy153_4 lz153_2 uz153_2 lz153_3 uz153_3 hI_c153 hmn_c153
    refine lv_iconst (v := 0) hx hb dX12_sendsAgain_153 (by decide) ?_
    exact J_154 H_c153 lc_c153 _ y153_2 y153_3 y153_4 z153_2 z153_3 0 hT_c153 hS_c153 hl (by omega) (by omega) (by omega) (by omega) (by omega) (by omega) (by omega) (by omega) (by omega) (by omega) (Or.inl rfl) ⟨hI_c153.1, hI_c153.2.1, hI_c153.2.2.1, hI_c153.2.2.2.1, hI_c153.2.2.2.2.1, hI_c153.2.2.2.2.2⟩ (by omega)
  have J_106 : ∀ (H_c106 : Heap) (lc_c106 : List Loc) (ls : Array Slot) (y106_2 : Int32) (y106_3 : Int32), TH D cI cS τ ρ H_c106 → SS (fun q => q = ρ a0 2 ∨ q = ρ a0 0) H H_c106 lc_c106 → lv_has ls 5 [(0, .ref a0), (1, .int 1), (2, .int y106_2), (3, .int y106_3)] → 1 ≤ y106_2.toInt → y106_2.toInt ≤ 602 → 0 ≤ y106_3.toInt → y106_3.toInt ≤ 8 → IM D ρ N H_c106 a0 → (ai H (ρ a0 0) 976).toInt ≤ (ai H_c106 (ρ a0 0) 976).toInt → W p l e (rmO 6 140) s m args below meth c H_c106 lc_c106 0 0 (MQ below (va_Qv (fun (u : Heap) => (IM D ρ N u a0) ∧ ((ai H (ρ a0 0) 976).toInt ≤ (ai u (ρ a0 0) 976).toInt)) (Bt D cI cS τ ρ H) (fun q => q = ρ a0 2 ∨ q = ρ a0 0)) args s 0 0 (fun q => q = ρ a0 2 ∨ q = ρ a0 0)) (F0 m 106 ls []) := by
    intro H_c106 lc_c106 ls y106_2 y106_3 hT_c106 hS_c106 hl ly106_2 uy106_2 ly106_3 uy106_3 hI_c106 hmn_c106
    refine lv_iload_n hx hb dX12_sendsAgain_106 rfl (lv_at hl 2 rfl) ?_
    refine lv_iload_n hx hb dX12_sendsAgain_107 rfl (lv_at hl 3 rfl) ?_
    refine lv_iadd hx hb dX12_sendsAgain_108 ?_
    refine lv_topi (fun x_7 ex_7 => ?_)
    have q_7 : x_7.toInt = y106_2.toInt + y106_3.toInt := i_pl rfl rfl ex_7 (by omega) (by omega)
    refine lv_istore (lv' := [(4, .int x_7), (0, .ref a0), (1, .int 1), (2, .int y106_2), (3, .int y106_3)]) hx hb dX12_sendsAgain_109 hl (by decide) rfl (fun ls hl => ?_)
    refine lv_aload_n hx hb dX12_sendsAgain_111 rfl (lv_at hl 1 rfl) ?_
    refine lv_iload_n hx hb dX12_sendsAgain_112 rfl (lv_at hl 2 rfl) ?_
    refine lv_iload_n hx hb dX12_sendsAgain_113 rfl (lv_at hl 3 rfl) ?_
    refine lv_iload_n hx hb dX12_sendsAgain_114 rfl (lv_at hl 4 rfl) ?_
    refine lv_iload hx hb dX12_sendsAgain_115 (lv_at hl 0 rfl) ?_
    refine lv_aload_n hx hb dX12_sendsAgain_117 rfl (lv_at hl 1 rfl) ?_
    refine lv_iload_n hx hb dX12_sendsAgain_118 rfl (lv_at hl 2 rfl) ?_
    refine lv_iconst (v := 4) hx hb dX12_sendsAgain_119 (by decide) ?_
    refine th_Vi (As := [.int 1, .int 4]) (rest := [.int x_7, .int y106_3, .int y106_2, .int 1, .ref a0]) E hml hl.1 (y_get_v33 l D cI cS τ ρ hW H_c106 hT_c106 a0 ha0) lk_X12_99 yd_X12_get hT_c106 ha0 rfl (by decide) hS_c106 (fun _ h => h.elim) ⟨by decide, by decide⟩ (Nat.le_of_ble_eq_true rfl) ⟨by decide, by decide⟩ rfl dX12_sendsAgain_120 (fun r_8 H_8 locs_8 p_8 hT_8 hk_8 hS_8 => ?_)
    have p_8 : H_c106 = H_8 ∧ (ai H_c106 (ρ a0 0) 292 = r_8) := p_8
    obtain ⟨rfl, p_8_0⟩ := p_8
    have b_r_8 : 0 ≤ r_8.toInt ∧ r_8.toInt ≤ N := by rw [← p_8_0]; exact hI_c106.1 292 (by decide)
    have c_r_8 := congrArg Int32.toInt p_8_0
    refine lv_iconst (v := 1) hx hb dX12_sendsAgain_123 (by decide) ?_
    refine lv_iadd hx hb dX12_sendsAgain_124 ?_
    refine lv_topi (fun x_9 ex_9 => ?_)
    have q_9 : x_9.toInt = r_8.toInt + 1 := i_pl rfl (by decide) ex_9 (by omega) (by omega)
    refine lv_icmp_ne (tgt := 153) hx hb dX12_sendsAgain_125 (by decide) (fun c_10 => ?_) (fun c_10 => ?_)
    · have f_10 : ¬ x_7.toInt = x_9.toInt := r_ne rfl rfl c_10
      exact J_153 H_c106 locs_8 _ y106_2 y106_3 x_7 y106_2 y106_3 hT_8 hS_8 (lv_sub hl [1, 2, 3, 4, 0] rfl) (by omega) (by omega) (by omega) (by omega) (by omega) (by omega) (by omega) (by omega) (by omega) (by omega) ⟨hI_c106.1, hI_c106.2.1, hI_c106.2.2.1, hI_c106.2.2.2.1, hI_c106.2.2.2.2.1, hI_c106.2.2.2.2.2⟩ (by omega)
    · have f_10 : x_7.toInt = x_9.toInt := r_eq rfl rfl c_10
      refine lv_iload hx hb dX12_sendsAgain_128 (lv_at hl 0 rfl) ?_
      refine lv_aload_n hx hb dX12_sendsAgain_130 rfl (lv_at hl 1 rfl) ?_
      refine lv_iload_n hx hb dX12_sendsAgain_131 rfl (lv_at hl 2 rfl) ?_
      refine lv_iconst (v := 2) hx hb dX12_sendsAgain_132 (by decide) ?_
      refine th_Vi (As := [.int 1, .int 2]) (rest := [.int x_7, .int y106_3, .int y106_2, .int 1, .ref a0]) E hml hl.1 (y_get_v32 l D cI cS τ ρ hW H_c106 hT_8 a0 ha0) lk_X12_99 yd_X12_get hT_8 ha0 rfl (by decide) hS_8 (fun _ h => h.elim) ⟨by decide, by decide⟩ (Nat.le_of_ble_eq_true rfl) ⟨by decide, by decide⟩ rfl dX12_sendsAgain_133 (fun r_11 H_11 locs_11 p_11 hT_11 hk_11 hS_11 => ?_)
      have p_11 : H_c106 = H_11 ∧ (ai H_c106 (ρ a0 0) 290 = r_11) := p_11
      obtain ⟨rfl, p_11_0⟩ := p_11
      have b_r_11 : 0 ≤ r_11.toInt ∧ r_11.toInt ≤ N + 2 := by rw [← p_11_0]; exact hI_c106.1 290 (by decide)
      have c_r_11 := congrArg Int32.toInt p_11_0
      refine lv_icmp_ge (tgt := 153) hx hb dX12_sendsAgain_136 (by decide) (fun c_12 => ?_) (fun c_12 => ?_)
      · have f_12 : r_11.toInt ≤ x_7.toInt := r_le rfl rfl c_12
        exact J_153 H_c106 locs_11 _ y106_2 y106_3 x_7 y106_2 y106_3 hT_11 hS_11 (lv_sub hl [1, 2, 3, 4, 0] rfl) (by omega) (by omega) (by omega) (by omega) (by omega) (by omega) (by omega) (by omega) (by omega) (by omega) ⟨hI_c106.1, hI_c106.2.1, hI_c106.2.2.1, hI_c106.2.2.2.1, hI_c106.2.2.2.2.1, hI_c106.2.2.2.2.2⟩ (by omega)
      · have f_12 : x_7.toInt < r_11.toInt := r_nle rfl rfl c_12
        refine lv_aload_n hx hb dX12_sendsAgain_139 rfl (lv_at hl 1 rfl) ?_
        refine lv_iload_n hx hb dX12_sendsAgain_140 rfl (lv_at hl 2 rfl) ?_
        refine lv_iload hx hb dX12_sendsAgain_141 (lv_at hl 0 rfl) ?_
        refine th_Vi (As := [.int 1, .int x_7]) (rest := [.int y106_3, .int y106_2, .int 1, .ref a0]) E hml hl.1 (y_isKnown_v2 l D cI cS τ ρ hW H_c106 hT_11 a0 x_7 ha0 (by omega)) lk_X12_260 yd_X12_isKnown hT_11 ha0 rfl (by decide) hS_11 (fun _ h => h.elim) ⟨by decide, by decide⟩ (Nat.le_of_ble_eq_true rfl) ⟨by decide, by decide⟩ rfl dX12_sendsAgain_143 (fun r_13 H_13 locs_13 p_13 hT_13 hk_13 hS_13 => ?_)
        have p_13 : H_c106 = H_13 ∧ (r_13 = 0 ∨ r_13 = 1) := p_13
        obtain ⟨rfl, p_13_0⟩ := p_13
        have z_13 := b_iv p_13_0
        refine lv_if_ne (tgt := 153) hx hb dX12_sendsAgain_146 (by decide) (fun c_14 => ?_) (fun c_14 => ?_)
        · have f_14 : ¬ r_13.toInt = 0 := r_ne rfl (by decide) c_14
          have nz_r_13 : ¬ r_13 = 0 := c_14
          exact J_153 H_c106 locs_13 _ y106_2 y106_3 x_7 y106_2 y106_3 hT_13 hS_13 (lv_sub hl [1, 2, 3, 4, 0] rfl) (by omega) (by omega) (by omega) (by omega) (by omega) (by omega) (by omega) (by omega) (by omega) (by omega) ⟨hI_c106.1, hI_c106.2.1, hI_c106.2.2.1, hI_c106.2.2.2.1, hI_c106.2.2.2.2.1, hI_c106.2.2.2.2.2⟩ (by omega)
        · have f_14 : r_13.toInt = 0 := r_eq rfl (by decide) c_14
          refine lv_iconst (v := 1) hx hb dX12_sendsAgain_149 (by decide) ?_
          refine lv_goto (tgt := 154) hx hb dX12_sendsAgain_150 (by decide) ?_
          exact J_154 H_c106 locs_13 _ y106_2 y106_3 x_7 y106_2 y106_3 1 hT_13 hS_13 (lv_sub hl [1, 2, 3, 4, 0] rfl) (by omega) (by omega) (by omega) (by omega) (by omega) (by omega) (by omega) (by omega) (by omega) (by omega) (Or.inr rfl) ⟨hI_c106.1, hI_c106.2.1, hI_c106.2.2.1, hI_c106.2.2.2.1, hI_c106.2.2.2.2.1, hI_c106.2.2.2.2.2⟩ (by omega)
  have L_57 : ∀ (n : Nat) (H_c57 : Heap) (lc_c57 : List Loc) (ls : Array Slot) (y57_2 : Int32) (y57_3 : Int32), TH D cI cS τ ρ H_c57 → SS (fun q => q = ρ a0 2 ∨ q = ρ a0 0) H H_c57 lc_c57 → lv_has ls 5 [(0, .ref a0), (1, .int 1), (2, .int y57_2), (3, .int y57_3)] → 1 ≤ y57_2.toInt → y57_2.toInt ≤ 602 → 0 ≤ y57_3.toInt → y57_3.toInt ≤ 8 → IM D ρ N H_c57 a0 → (ai H (ρ a0 0) 976).toInt ≤ (ai H_c57 (ρ a0 0) 976).toInt → (8 - y57_3.toInt).toNat < n → W p l e (rmO 6 140) s m args below meth c H_c57 lc_c57 0 0 (MQ below (va_Qv (fun (u : Heap) => (IM D ρ N u a0) ∧ ((ai H (ρ a0 0) 976).toInt ≤ (ai u (ρ a0 0) 976).toInt)) (Bt D cI cS τ ρ H) (fun q => q = ρ a0 2 ∨ q = ρ a0 0)) args s 0 0 (fun q => q = ρ a0 2 ∨ q = ρ a0 0)) (F0 m 57 ls []) := by
    intro n
    induction n with
    | zero => intro H_c57 lc_c57 ls y57_2 y57_3 hT_c57 hS_c57 hl ly57_2 uy57_2 ly57_3 uy57_3 hI_c57 hmn_c57 hm; exact absurd hm (Nat.not_lt_zero _)
    | succ n ih_57 =>
      intro H_c57 lc_c57 ls y57_2 y57_3 hT_c57 hS_c57 hl ly57_2 uy57_2 ly57_3 uy57_3 hI_c57 hmn_c57 hm_57
      refine lv_iload_n hx hb dX12_sendsAgain_57 rfl (lv_at hl 3 rfl) ?_
      refine lv_aload_n hx hb dX12_sendsAgain_58 rfl (lv_at hl 0 rfl) ?_
      refine gf_X12_25 E hT_c57 ha0 dX12_sendsAgain_59 ?_
      refine lv_topi (fun x_15 ex_15 => ?_)
      have b_15 : 1 ≤ x_15.toInt ∧ x_15.toInt ≤ 8 := by rw [ex_15]; exact IF.f6 hI_c57.2.2.2.2.2
      refine lv_icmp_ge (tgt := 106) hx hb dX12_sendsAgain_62 (by decide) (fun c_16 => ?_) (fun c_16 => ?_)
      · have f_16 : x_15.toInt ≤ y57_3.toInt := r_le rfl rfl c_16
        exact J_106 H_c57 lc_c57 _ y57_2 y57_3 hT_c57 hS_c57 hl (by omega) (by omega) (by omega) (by omega) ⟨hI_c57.1, hI_c57.2.1, hI_c57.2.2.1, hI_c57.2.2.2.1, hI_c57.2.2.2.2.1, hI_c57.2.2.2.2.2⟩ (by omega)
      · have f_16 : y57_3.toInt < x_15.toInt := r_nle rfl rfl c_16
        refine lv_iload_n hx hb dX12_sendsAgain_65 rfl (lv_at hl 2 rfl) ?_
        refine lv_iload_n hx hb dX12_sendsAgain_66 rfl (lv_at hl 3 rfl) ?_
        refine lv_iadd hx hb dX12_sendsAgain_67 ?_
        refine lv_topi (fun x_17 ex_17 => ?_)
        have q_17 : x_17.toInt = y57_2.toInt + y57_3.toInt := i_pl rfl rfl ex_17 (by omega) (by omega)
        refine lv_aload_n hx hb dX12_sendsAgain_68 rfl (lv_at hl 0 rfl) ?_
        refine lv_iload_n hx hb dX12_sendsAgain_69 rfl (lv_at hl 1 rfl) ?_
        refine lv_iconst (v := 2) hx hb dX12_sendsAgain_70 (by decide) ?_
        refine th_Vi (As := [.int 1, .int 2]) (rest := [.int x_17]) E hml hl.1 (y_get_v32 l D cI cS τ ρ hW H_c57 hT_c57 a0 ha0) lk_X12_99 yd_X12_get hT_c57 ha0 rfl (by decide) hS_c57 (fun _ h => h.elim) ⟨by decide, by decide⟩ (Nat.le_of_ble_eq_true rfl) ⟨by decide, by decide⟩ rfl dX12_sendsAgain_71 (fun r_18 H_18 locs_18 p_18 hT_18 hk_18 hS_18 => ?_)
        have p_18 : H_c57 = H_18 ∧ (ai H_c57 (ρ a0 0) 290 = r_18) := p_18
        obtain ⟨rfl, p_18_0⟩ := p_18
        have b_r_18 : 0 ≤ r_18.toInt ∧ r_18.toInt ≤ N + 2 := by rw [← p_18_0]; exact hI_c57.1 290 (by decide)
        have c_r_18 := congrArg Int32.toInt p_18_0
        refine lv_icmp_ge (tgt := 106) hx hb dX12_sendsAgain_74 (by decide) (fun c_19 => ?_) (fun c_19 => ?_)
        · have f_19 : r_18.toInt ≤ x_17.toInt := r_le rfl rfl c_19
          exact J_106 H_c57 locs_18 _ y57_2 y57_3 hT_18 hS_18 hl (by omega) (by omega) (by omega) (by omega) ⟨hI_c57.1, hI_c57.2.1, hI_c57.2.2.1, hI_c57.2.2.2.1, hI_c57.2.2.2.2.1, hI_c57.2.2.2.2.2⟩ (by omega)
        · have f_19 : x_17.toInt < r_18.toInt := r_nle rfl rfl c_19
          refine lv_iload_n hx hb dX12_sendsAgain_77 rfl (lv_at hl 2 rfl) ?_
          refine lv_iload_n hx hb dX12_sendsAgain_78 rfl (lv_at hl 3 rfl) ?_
          refine lv_iadd hx hb dX12_sendsAgain_79 ?_
          refine lv_topi (fun x_20 ex_20 => ?_)
          have q_20 : x_20.toInt = y57_2.toInt + y57_3.toInt := i_pl rfl rfl ex_20 (by omega) (by omega)
          refine lv_aload_n hx hb dX12_sendsAgain_80 rfl (lv_at hl 0 rfl) ?_
          refine lv_iload_n hx hb dX12_sendsAgain_81 rfl (lv_at hl 1 rfl) ?_
          refine lv_iconst (v := 4) hx hb dX12_sendsAgain_82 (by decide) ?_
          refine th_Vi (As := [.int 1, .int 4]) (rest := [.int x_20]) E hml hl.1 (y_get_v33 l D cI cS τ ρ hW H_c57 hT_18 a0 ha0) lk_X12_99 yd_X12_get hT_18 ha0 rfl (by decide) hS_18 (fun _ h => h.elim) ⟨by decide, by decide⟩ (Nat.le_of_ble_eq_true rfl) ⟨by decide, by decide⟩ rfl dX12_sendsAgain_83 (fun r_21 H_21 locs_21 p_21 hT_21 hk_21 hS_21 => ?_)
          have p_21 : H_c57 = H_21 ∧ (ai H_c57 (ρ a0 0) 292 = r_21) := p_21
          obtain ⟨rfl, p_21_0⟩ := p_21
          have b_r_21 : 0 ≤ r_21.toInt ∧ r_21.toInt ≤ N := by rw [← p_21_0]; exact hI_c57.1 292 (by decide)
          have c_r_21 := congrArg Int32.toInt p_21_0
          refine lv_icmp_gt (tgt := 106) hx hb dX12_sendsAgain_86 (by decide) (fun c_22 => ?_) (fun c_22 => ?_)
          · have f_22 : r_21.toInt < x_20.toInt := r_lt rfl rfl c_22
            exact J_106 H_c57 locs_21 _ y57_2 y57_3 hT_21 hS_21 hl (by omega) (by omega) (by omega) (by omega) ⟨hI_c57.1, hI_c57.2.1, hI_c57.2.2.1, hI_c57.2.2.2.1, hI_c57.2.2.2.2.1, hI_c57.2.2.2.2.2⟩ (by omega)
          · have f_22 : x_20.toInt ≤ r_21.toInt := r_nlt rfl rfl c_22
            refine lv_aload_n hx hb dX12_sendsAgain_89 rfl (lv_at hl 0 rfl) ?_
            refine lv_iload_n hx hb dX12_sendsAgain_90 rfl (lv_at hl 1 rfl) ?_
            refine lv_iload_n hx hb dX12_sendsAgain_91 rfl (lv_at hl 2 rfl) ?_
            refine lv_iload_n hx hb dX12_sendsAgain_92 rfl (lv_at hl 3 rfl) ?_
            refine lv_iadd hx hb dX12_sendsAgain_93 ?_
            refine lv_topi (fun x_23 ex_23 => ?_)
            have q_23 : x_23.toInt = y57_2.toInt + y57_3.toInt := i_pl rfl rfl ex_23 (by omega) (by omega)
            refine th_Vi (As := [.int 1, .int x_23]) (rest := []) E hml hl.1 (y_isKnown_v2 l D cI cS τ ρ hW H_c57 hT_21 a0 x_23 ha0 (by omega)) lk_X12_260 yd_X12_isKnown hT_21 ha0 rfl (by decide) hS_21 (fun _ h => h.elim) ⟨by decide, by decide⟩ (Nat.le_of_ble_eq_true rfl) ⟨by decide, by decide⟩ rfl dX12_sendsAgain_94 (fun r_24 H_24 locs_24 p_24 hT_24 hk_24 hS_24 => ?_)
            have p_24 : H_c57 = H_24 ∧ (r_24 = 0 ∨ r_24 = 1) := p_24
            obtain ⟨rfl, p_24_0⟩ := p_24
            have z_24 := b_iv p_24_0
            refine lv_if_ne (tgt := 106) hx hb dX12_sendsAgain_97 (by decide) (fun c_25 => ?_) (fun c_25 => ?_)
            · have f_25 : ¬ r_24.toInt = 0 := r_ne rfl (by decide) c_25
              have nz_r_24 : ¬ r_24 = 0 := c_25
              exact J_106 H_c57 locs_24 _ y57_2 y57_3 hT_24 hS_24 hl (by omega) (by omega) (by omega) (by omega) ⟨hI_c57.1, hI_c57.2.1, hI_c57.2.2.1, hI_c57.2.2.2.1, hI_c57.2.2.2.2.1, hI_c57.2.2.2.2.2⟩ (by omega)
            · have f_25 : r_24.toInt = 0 := r_eq rfl (by decide) c_25
              obtain ⟨x_26, ex_26⟩ : ∃ y : Int32, y57_3 + 1 = y := ⟨_, rfl⟩
              have q_x_26 : x_26.toInt = y57_3.toInt + 1 := i_add (k := 1) (by decide) ex_26 (by have := i_min y57_3; omega) (by have := i_max y57_3; omega)
              refine lv_iinc (v := x_26) (lv' := [(3, .int x_26), (0, .ref a0), (1, .int 1), (2, .int y57_2)]) hx hb dX12_sendsAgain_100 hl (k := 3) rfl (by rw [← ex_26]; rfl) (by decide) rfl (fun ls hl => ?_)
              refine lv_goto (tgt := 57) hx hb dX12_sendsAgain_103 (by decide) ?_
              exact ih_57 H_c57 locs_24 _ y57_2 x_26 hT_24 hS_24 (lv_sub hl [1, 2, 3, 0] rfl) (by omega) (by omega) (by omega) (by omega) ⟨hI_c57.1, hI_c57.2.1, hI_c57.2.2.1, hI_c57.2.2.2.1, hI_c57.2.2.2.2.1, hI_c57.2.2.2.2.2⟩ (by omega) (by omega)
  have J_32 : ∀ (H_c32 : Heap) (lc_c32 : List Loc) (ls : Array Slot) (y32_2 : Int32), TH D cI cS τ ρ H_c32 → SS (fun q => q = ρ a0 2 ∨ q = ρ a0 0) H H_c32 lc_c32 → lv_has ls 5 [(0, .ref a0), (1, .int 1), (2, .int y32_2)] → 0 ≤ y32_2.toInt → y32_2.toInt ≤ 602 → IM D ρ N H_c32 a0 → (ai H (ρ a0 0) 976).toInt ≤ (ai H_c32 (ρ a0 0) 976).toInt → W p l e (rmO 6 140) s m args below meth c H_c32 lc_c32 0 0 (MQ below (va_Qv (fun (u : Heap) => (IM D ρ N u a0) ∧ ((ai H (ρ a0 0) 976).toInt ≤ (ai u (ρ a0 0) 976).toInt)) (Bt D cI cS τ ρ H) (fun q => q = ρ a0 2 ∨ q = ρ a0 0)) args s 0 0 (fun q => q = ρ a0 2 ∨ q = ρ a0 0)) (F0 m 32 ls []) := by
    intro H_c32 lc_c32 ls y32_2 hT_c32 hS_c32 hl ly32_2 uy32_2 hI_c32 hmn_c32
    refine lv_iload_n hx hb dX12_sendsAgain_32 rfl (lv_at hl 2 rfl) ?_
    refine lv_aload_n hx hb dX12_sendsAgain_33 rfl (lv_at hl 0 rfl) ?_
    refine lv_iload_n hx hb dX12_sendsAgain_34 rfl (lv_at hl 1 rfl) ?_
    refine lv_iconst (v := 2) hx hb dX12_sendsAgain_35 (by decide) ?_
    refine th_Vi (As := [.int 1, .int 2]) (rest := [.int y32_2]) E hml hl.1 (y_get_v32 l D cI cS τ ρ hW H_c32 hT_c32 a0 ha0) lk_X12_99 yd_X12_get hT_c32 ha0 rfl (by decide) hS_c32 (fun _ h => h.elim) ⟨by decide, by decide⟩ (Nat.le_of_ble_eq_true rfl) ⟨by decide, by decide⟩ rfl dX12_sendsAgain_36 (fun r_27 H_27 locs_27 p_27 hT_27 hk_27 hS_27 => ?_)
    have p_27 : H_c32 = H_27 ∧ (ai H_c32 (ρ a0 0) 290 = r_27) := p_27
    obtain ⟨rfl, p_27_0⟩ := p_27
    have b_r_27 : 0 ≤ r_27.toInt ∧ r_27.toInt ≤ N + 2 := by rw [← p_27_0]; exact hI_c32.1 290 (by decide)
    have c_r_27 := congrArg Int32.toInt p_27_0
    refine lv_icmp_ne (tgt := 43) hx hb dX12_sendsAgain_39 (by decide) (fun c_28 => ?_) (fun c_28 => ?_)
    · have f_28 : ¬ y32_2.toInt = r_27.toInt := r_ne rfl rfl c_28
      refine lv_iload_n hx hb dX12_sendsAgain_43 rfl (lv_at hl 2 rfl) ?_
      refine lv_if_ne (tgt := 55) hx hb dX12_sendsAgain_44 (by decide) (fun c_29 => ?_) (fun c_29 => ?_)
      · have f_29 : ¬ y32_2.toInt = 0 := r_ne rfl (by decide) c_29
        have nz_y32_2 : ¬ y32_2 = 0 := c_29
        refine lv_iconst (v := 0) hx hb dX12_sendsAgain_55 (by decide) ?_
        refine lv_istore_n (lv' := [(3, .int 0), (0, .ref a0), (1, .int 1), (2, .int y32_2)]) hx hb dX12_sendsAgain_56 rfl hl (by decide) rfl (fun ls hl => ?_)
        exact L_57 _ H_c32 locs_27 _ y32_2 0 hT_27 hS_27 (lv_sub hl [1, 2, 3, 0] rfl) (by omega) (by omega) (by decide) (by decide) ⟨hI_c32.1, hI_c32.2.1, hI_c32.2.2.1, hI_c32.2.2.2.1, hI_c32.2.2.2.2.1, hI_c32.2.2.2.2.2⟩ (by omega) (Nat.lt_succ_self _)
      · have f_29 : y32_2.toInt = 0 := r_eq rfl (by decide) c_29
        refine lv_aload_n hx hb dX12_sendsAgain_47 rfl (lv_at hl 0 rfl) ?_
        refine lv_iload_n hx hb dX12_sendsAgain_48 rfl (lv_at hl 1 rfl) ?_
        refine th_Vv (As := [.int 1]) (rest := []) E hml hl.1 (y_hello_v2 l D cI cS τ ρ hW H_c32 hT_27 a0 ha0 N hN0 hN1 ⟨hI_c32.1, hI_c32.2.1, hI_c32.2.2.1, hI_c32.2.2.2.1, hI_c32.2.2.2.2.1, hI_c32.2.2.2.2.2⟩) lk_X12_169 yd_X12_hello hT_27 ha0 rfl (by decide) hS_27 (fun q => (fun h => h.elim (fun h => (Or.inl h)) (fun h => (Or.inr h)))) ⟨by decide, by decide⟩ (Nat.le_of_ble_eq_true rfl) ⟨by decide, by decide⟩ rfl dX12_sendsAgain_49 (fun H_30 locs_30 p_30 hT_30 hk_30 hS_30 => ?_)
        have p_30 : (IM D ρ N H_30 a0) ∧ ((ai H_c32 (ρ a0 0) 976).toInt ≤ (ai H_30 (ρ a0 0) 976).toInt) := p_30
        obtain ⟨p_30_0, p_30_1⟩ := p_30
        have mn_30 : (ai H_c32 (ρ a0 0) 976).toInt ≤ (ai H_30 (ρ a0 0) 976).toInt := by exact p_30_1
        refine lv_goto (tgt := 157) hx hb dX12_sendsAgain_52 (by decide) ?_
        exact J_157 H_30 locs_30 _ y32_2 hT_30 hS_30 hl (by omega) (by omega) ⟨p_30_0.1, p_30_0.2.1, p_30_0.2.2.1, p_30_0.2.2.2.1, p_30_0.2.2.2.2.1, p_30_0.2.2.2.2.2⟩ (by omega)
    · have f_28 : y32_2.toInt = r_27.toInt := r_eq rfl rfl c_28
      exact th_vret E hr hlk hs hT_27 hS_27 ⟨⟨hI_c32.1, hI_c32.2.1, hI_c32.2.2.1, hI_c32.2.2.2.1, hI_c32.2.2.2.2.1, hI_c32.2.2.2.2.2⟩, (by omega)⟩ dX12_sendsAgain_42
  have L_7 : ∀ (n : Nat) (H_c7 : Heap) (lc_c7 : List Loc) (ls : Array Slot) (y7_2 : Int32), TH D cI cS τ ρ H_c7 → SS (fun q => q = ρ a0 2 ∨ q = ρ a0 0) H H_c7 lc_c7 → lv_has ls 5 [(0, .ref a0), (1, .int 1), (2, .int y7_2)] → 0 ≤ y7_2.toInt → y7_2.toInt ≤ 602 → ai H_c7 (ρ a0 0) 290 = ai H (ρ a0 0) 290 → IM D ρ N H_c7 a0 → (ai H (ρ a0 0) 976).toInt ≤ (ai H_c7 (ρ a0 0) 976).toInt → ((ai H (ρ a0 0) 290).toInt - y7_2.toInt).toNat < n → W p l e (rmO 6 140) s m args below meth c H_c7 lc_c7 0 0 (MQ below (va_Qv (fun (u : Heap) => (IM D ρ N u a0) ∧ ((ai H (ρ a0 0) 976).toInt ≤ (ai u (ρ a0 0) 976).toInt)) (Bt D cI cS τ ρ H) (fun q => q = ρ a0 2 ∨ q = ρ a0 0)) args s 0 0 (fun q => q = ρ a0 2 ∨ q = ρ a0 0)) (F0 m 7 ls []) := by
    intro n
    induction n with
    | zero => intro H_c7 lc_c7 ls y7_2 hT_c7 hS_c7 hl ly7_2 uy7_2 hg7_0 hI_c7 hmn_c7 hm; exact absurd hm (Nat.not_lt_zero _)
    | succ n ih_7 =>
      intro H_c7 lc_c7 ls y7_2 hT_c7 hS_c7 hl ly7_2 uy7_2 hg7_0 hI_c7 hmn_c7 hm_7
      have bb_g7_0 : 0 ≤ (ai H (ρ a0 0) 290).toInt ∧ (ai H (ρ a0 0) 290).toInt ≤ N + 2 := by rw [← hg7_0]; exact hI_c7.1 290 (by decide)
      have cg_g7_0 := congrArg Int32.toInt hg7_0
      refine lv_iload_n hx hb dX12_sendsAgain_7 rfl (lv_at hl 2 rfl) ?_
      refine lv_aload_n hx hb dX12_sendsAgain_8 rfl (lv_at hl 0 rfl) ?_
      refine lv_iload_n hx hb dX12_sendsAgain_9 rfl (lv_at hl 1 rfl) ?_
      refine lv_iconst (v := 2) hx hb dX12_sendsAgain_10 (by decide) ?_
      refine th_Vi (As := [.int 1, .int 2]) (rest := [.int y7_2]) E hml hl.1 (y_get_v32 l D cI cS τ ρ hW H_c7 hT_c7 a0 ha0) lk_X12_99 yd_X12_get hT_c7 ha0 rfl (by decide) hS_c7 (fun _ h => h.elim) ⟨by decide, by decide⟩ (Nat.le_of_ble_eq_true rfl) ⟨by decide, by decide⟩ rfl dX12_sendsAgain_11 (fun r_31 H_31 locs_31 p_31 hT_31 hk_31 hS_31 => ?_)
      have p_31 : H_c7 = H_31 ∧ (ai H_c7 (ρ a0 0) 290 = r_31) := p_31
      obtain ⟨rfl, p_31_0⟩ := p_31
      have t_31 : ai H (ρ a0 0) 290 = r_31 := hg7_0.symm.trans p_31_0
      have b_r_31 : 0 ≤ r_31.toInt ∧ r_31.toInt ≤ N + 2 := by rw [← t_31]; exact hI.1 290 (by decide)
      have c_r_31 := congrArg Int32.toInt t_31
      refine lv_icmp_ge (tgt := 32) hx hb dX12_sendsAgain_14 (by decide) (fun c_32 => ?_) (fun c_32 => ?_)
      · have f_32 : r_31.toInt ≤ y7_2.toInt := r_le rfl rfl c_32
        exact J_32 H_c7 locs_31 _ y7_2 hT_31 hS_31 hl (by omega) (by omega) ⟨hI_c7.1, hI_c7.2.1, hI_c7.2.2.1, hI_c7.2.2.2.1, hI_c7.2.2.2.2.1, hI_c7.2.2.2.2.2⟩ (by omega)
      · have f_32 : y7_2.toInt < r_31.toInt := r_nle rfl rfl c_32
        refine lv_aload_n hx hb dX12_sendsAgain_17 rfl (lv_at hl 0 rfl) ?_
        refine lv_iload_n hx hb dX12_sendsAgain_18 rfl (lv_at hl 1 rfl) ?_
        refine lv_iload_n hx hb dX12_sendsAgain_19 rfl (lv_at hl 2 rfl) ?_
        refine th_Vi (As := [.int 1, .int y7_2]) (rest := []) E hml hl.1 (y_isKnown_v2 l D cI cS τ ρ hW H_c7 hT_31 a0 y7_2 ha0 (by omega)) lk_X12_260 yd_X12_isKnown hT_31 ha0 rfl (by decide) hS_31 (fun _ h => h.elim) ⟨by decide, by decide⟩ (Nat.le_of_ble_eq_true rfl) ⟨by decide, by decide⟩ rfl dX12_sendsAgain_20 (fun r_33 H_33 locs_33 p_33 hT_33 hk_33 hS_33 => ?_)
        have p_33 : H_c7 = H_33 ∧ (r_33 = 0 ∨ r_33 = 1) := p_33
        obtain ⟨rfl, p_33_0⟩ := p_33
        have z_33 := b_iv p_33_0
        refine lv_if_eq (tgt := 32) hx hb dX12_sendsAgain_23 (by decide) (fun c_34 => ?_) (fun c_34 => ?_)
        · have f_34 : r_33.toInt = 0 := r_eq rfl (by decide) c_34
          exact J_32 H_c7 locs_33 _ y7_2 hT_33 hS_33 hl (by omega) (by omega) ⟨hI_c7.1, hI_c7.2.1, hI_c7.2.2.1, hI_c7.2.2.2.1, hI_c7.2.2.2.2.1, hI_c7.2.2.2.2.2⟩ (by omega)
        · have f_34 : ¬ r_33.toInt = 0 := r_ne rfl (by decide) c_34
          have nz_r_33 : ¬ r_33 = 0 := c_34
          obtain ⟨x_35, ex_35⟩ : ∃ y : Int32, y7_2 + 1 = y := ⟨_, rfl⟩
          have q_x_35 : x_35.toInt = y7_2.toInt + 1 := i_add (k := 1) (by decide) ex_35 (by have := i_min y7_2; omega) (by have := i_max y7_2; omega)
          refine lv_iinc (v := x_35) (lv' := [(2, .int x_35), (0, .ref a0), (1, .int 1)]) hx hb dX12_sendsAgain_26 hl (k := 2) rfl (by rw [← ex_35]; rfl) (by decide) rfl (fun ls hl => ?_)
          refine lv_goto (tgt := 7) hx hb dX12_sendsAgain_29 (by decide) ?_
          exact ih_7 H_c7 locs_33 _ x_35 hT_33 hS_33 (lv_sub hl [1, 2, 0] rfl) (by omega) (by omega) ((hg7_0.trans t_31).trans t_31.symm) ⟨hI_c7.1, hI_c7.2.1, hI_c7.2.2.1, hI_c7.2.2.2.1, hI_c7.2.2.2.2.1, hI_c7.2.2.2.2.2⟩ (by omega) (by omega)
  refine lv_aload_n hx hb dX12_sendsAgain_0 rfl (lv_at hl 0 rfl) ?_
  refine lv_iload_n hx hb dX12_sendsAgain_1 rfl (lv_at hl 1 rfl) ?_
  refine lv_iconst (v := 1) hx hb dX12_sendsAgain_2 (by decide) ?_
  refine th_Vi (As := [.int 1, .int 1]) (rest := []) E hml hl.1 (y_get_v29 l D cI cS τ ρ hW H hT a0 ha0) lk_X12_99 yd_X12_get hT ha0 rfl (by decide) hS (fun _ h => h.elim) ⟨by decide, by decide⟩ (Nat.le_of_ble_eq_true rfl) ⟨by decide, by decide⟩ rfl dX12_sendsAgain_3 (fun r_36 H_36 locs_36 p_36 hT_36 hk_36 hS_36 => ?_)
  have p_36 : H = H_36 ∧ (ai H (ρ a0 0) 289 = r_36) := p_36
  obtain ⟨rfl, p_36_0⟩ := p_36
  have b_r_36 : 0 ≤ r_36.toInt ∧ r_36.toInt ≤ N + 2 := by rw [← p_36_0]; exact hI.1 289 (by decide)
  have c_r_36 := congrArg Int32.toInt p_36_0
  refine lv_istore_n (lv' := [(2, .int r_36), (0, .ref a0), (1, .int 1)]) hx hb dX12_sendsAgain_6 rfl hl (by decide) rfl (fun ls hl => ?_)
  exact L_7 _ H locs_36 _ r_36 hT_36 hS_36 (lv_sub hl [1, 2, 0] rfl) (by omega) (by omega) rfl ⟨hI.1, hI.2.1, hI.2.2.1, hI.2.2.2.1, hI.2.2.2.2.1, hI.2.2.2.2.2⟩ (by omega) (Nat.lt_succ_self _)
set_option maxHeartbeats 4000000 in
set_option maxRecDepth 100000 in
/-- the reference: clocks -/
theorem y_clocks_v2 (l : Launch) (D : va_G) (cI cS : ClassId) (τ : Nat → Option Nat) (ρ : Nat → Nat → Nat) (hW : WF τ ρ) (H : Heap) (hT : TH D cI cS τ ρ H) (a0 : Nat) (ha0 : τ a0 = some 12) (N : Int) (hN0 : 0 ≤ N) (hN1 : N ≤ 600) (hI : IM D ρ N H a0) : MV l D cI cS τ ρ yX12_clocks cX12_clocks 2 none 8 187 H [.ref a0, .int 1] (fun (u : Heap) => (IM D ρ N u a0) ∧ ((ai H (ρ a0 0) 976).toInt ≤ (ai u (ρ a0 0) 976).toInt)) (fun q => q = ρ a0 0 ∨ q = ρ a0 2) := by
  refine MV.of (by decide) (Nat.le_of_ble_eq_true rfl) ?_
  intro p e s m args below meth c E hml hr hlk hs ls hl
  have hx := E.1
  have hb := E.2.1
  have hown := E.2.2.1
  have hts := E.2.2.2.1
  have hS : SS (fun q => q = ρ a0 0 ∨ q = ρ a0 2) H H [] := SS.rf
  have hl : lv_has ls 2 [(0, .ref a0), (1, .int 1)] := hl
  have n01 := hI.2.2.2.2.2.1
  have n23 := hI.2.2.2.2.2.2.1
  have J_63 : ∀ (H_c63 : Heap) (lc_c63 : List Loc) (ls : Array Slot), TH D cI cS τ ρ H_c63 → SS (fun q => q = ρ a0 0 ∨ q = ρ a0 2) H H_c63 lc_c63 → lv_has ls 2 [(0, .ref a0), (1, .int 1)] → IM D ρ N H_c63 a0 → (ai H (ρ a0 0) 976).toInt ≤ (ai H_c63 (ρ a0 0) 976).toInt → W p l e (rmO 8 187) s m args below meth c H_c63 lc_c63 0 0 (MQ below (va_Qv (fun (u : Heap) => (IM D ρ N u a0) ∧ ((ai H (ρ a0 0) 976).toInt ≤ (ai u (ρ a0 0) 976).toInt)) (Bt D cI cS τ ρ H) (fun q => q = ρ a0 0 ∨ q = ρ a0 2)) args s 0 0 (fun q => q = ρ a0 0 ∨ q = ρ a0 2)) (F0 m 63 ls []) := by
    intro H_c63 lc_c63 ls hT_c63 hS_c63 hl hI_c63 hmn_c63
    refine lv_aload_n hx hb dX12_clocks_63 rfl (lv_at hl 0 rfl) ?_
    refine lv_iload_n hx hb dX12_clocks_64 rfl (lv_at hl 1 rfl) ?_
    refine lv_bipush (v := 8) hx hb dX12_clocks_65 (by decide) ?_
    refine lv_bipush (v := 64) hx hb dX12_clocks_67 (by decide) ?_
    refine lv_iconst (v := 2) hx hb dX12_clocks_69 (by decide) ?_
    refine lv_aload_n hx hb dX12_clocks_70 rfl (lv_at hl 0 rfl) ?_
    refine lv_iload_n hx hb dX12_clocks_71 rfl (lv_at hl 1 rfl) ?_
    refine lv_bipush (v := 8) hx hb dX12_clocks_72 (by decide) ?_
    refine th_Vi (As := [.int 1, .int 8]) (rest := [.int 2, .int 64, .int 8, .int 1, .ref a0]) E hml hl.1 (y_get_v40 l D cI cS τ ρ hW H_c63 hT_c63 a0 ha0) lk_X12_99 yd_X12_get hT_c63 ha0 rfl (by decide) hS_c63 (fun _ h => h.elim) ⟨by decide, by decide⟩ (Nat.le_of_ble_eq_true rfl) ⟨by decide, by decide⟩ rfl dX12_clocks_74 (fun r_1 H_1 locs_1 p_1 hT_1 hk_1 hS_1 => ?_)
    have p_1 : H_c63 = H_1 ∧ (ai H_c63 (ρ a0 0) 296 = r_1) := p_1
    obtain ⟨rfl, p_1_0⟩ := p_1
    have c_r_1 := congrArg Int32.toInt p_1_0
    refine lv_imul hx hb dX12_clocks_77 ?_
    refine lv_topi (fun x_2 ex_2 => ?_)
    refine th_Si (As := [.int 64, .int x_2]) (rest := [.int 8, .int 1, .ref a0]) E hml hl.1 (y_lesser l D cI cS τ ρ hW H_c63 hT_1 x_2) lk_X12_146 yd_X12_lesser hS_1 (fun _ h => h.elim) ⟨by decide, by decide⟩ (Nat.le_of_ble_eq_true rfl) ⟨by decide, by decide⟩ rfl dX12_clocks_78 (fun r_3 H_3 locs_3 p_3 hT_3 hk_3 hS_3 => ?_)
    have p_3 : H_c63 = H_3 ∧ (r_3.toInt ≤ 64 ∧ r_3.toInt ≤ x_2.toInt ∧ (r_3.toInt = 64 ∨ r_3.toInt = x_2.toInt)) := p_3
    obtain ⟨rfl, p_3_0⟩ := p_3
    refine th_Vv (As := [.int 1, .int 8, .int r_3]) (rest := []) E hml hl.1 (y_set_v4 l D cI cS τ ρ hW H_c63 hT_3 a0 r_3 ha0) lk_X12_95 yd_X12_set hT_3 ha0 rfl (by decide) hS_3 (fun q h => (Or.inl h)) ⟨by decide, by decide⟩ (Nat.le_of_ble_eq_true rfl) ⟨by decide, by decide⟩ rfl dX12_clocks_81 (fun H_4 locs_4 p_4 hT_4 hk_4 hS_4 => ?_)
    have p_4 : (AU 985 H_c63 H_4 (ρ a0 0) 296 r_3) := p_4
    have hW_4 : PW N H_4 (ρ a0 0) := PW.put hI_c63.1 p_4 (by show (-2147483648 : Int) ≤ _; exact i_min _) (by show _ ≤ (2147483647 : Int); exact i_max _)
    refine lv_aload_n hx hb dX12_clocks_84 rfl (lv_at hl 0 rfl) ?_
    refine lv_iload_n hx hb dX12_clocks_85 rfl (lv_at hl 1 rfl) ?_
    refine th_Vv (As := [.int 1]) (rest := []) E hml hl.1 (y_settles_v2 l D cI cS τ ρ hW H_4 hT_4 a0 ha0 N hN0 hN1 ⟨hW_4, (QS.same (AU.o p_4 (by decide) (by decide)) (AU.o p_4 (by decide) (by decide)) hI_c63.2.1), (QS.same (AU.o p_4 (by decide) (by decide)) (AU.o p_4 (by decide) (by decide)) hI_c63.2.2.1), (PL.q (p_4.2 _ (th_ne (hW _ 12 2 ha0 (by decide) (by decide) (by decide)) (hW _ 12 0 ha0 (by decide) (by decide) (by decide)) (by decide))) hI_c63.2.2.2.1), (PL.q (p_4.2 _ (th_ne (hW _ 12 3 ha0 (by decide) (by decide) (by decide)) (hW _ 12 0 ha0 (by decide) (by decide) (by decide)) (by decide))) hI_c63.2.2.2.2.1), (IF.q (p_4.2 _ (th_ne ha0 (hW _ 12 0 ha0 (by decide) (by decide) (by decide)) (by decide))) hI_c63.2.2.2.2.2)⟩) lk_X12_166 yd_X12_settles hT_4 ha0 rfl (by decide) hS_4 (fun q h => (Or.inl h)) ⟨by decide, by decide⟩ (Nat.le_of_ble_eq_true rfl) ⟨by decide, by decide⟩ rfl dX12_clocks_86 (fun H_5 locs_5 p_5 hT_5 hk_5 hS_5 => ?_)
    have p_5 : (IM D ρ N H_5 a0) ∧ ((ai H_4 (ρ a0 0) 976).toInt ≤ (ai H_5 (ρ a0 0) 976).toInt) := p_5
    obtain ⟨p_5_0, p_5_1⟩ := p_5
    have mn_5 : (ai H_c63 (ρ a0 0) 976).toInt ≤ (ai H_5 (ρ a0 0) 976).toInt := by have h := p_5_1; rw [(AU.o p_4 (by decide) (by decide))] at h; exact h
    exact th_vret E hr hlk hs hT_5 hS_5 ⟨⟨p_5_0.1, p_5_0.2.1, p_5_0.2.2.1, p_5_0.2.2.2.1, p_5_0.2.2.2.2.1, p_5_0.2.2.2.2.2⟩, (by omega)⟩ dX12_clocks_89
  refine lv_aload_n hx hb dX12_clocks_0 rfl (lv_at hl 0 rfl) ?_
  refine lv_iload_n hx hb dX12_clocks_1 rfl (lv_at hl 1 rfl) ?_
  refine lv_bipush (v := 11) hx hb dX12_clocks_2 (by decide) ?_
  refine lv_aload_n hx hb dX12_clocks_4 rfl (lv_at hl 0 rfl) ?_
  refine lv_iload_n hx hb dX12_clocks_5 rfl (lv_at hl 1 rfl) ?_
  refine lv_bipush (v := 11) hx hb dX12_clocks_6 (by decide) ?_
  refine th_Vi (As := [.int 1, .int 11]) (rest := [.int 11, .int 1, .ref a0]) E hml hl.1 (y_get_v39 l D cI cS τ ρ hW H hT a0 ha0) lk_X12_99 yd_X12_get hT ha0 rfl (by decide) hS (fun _ h => h.elim) ⟨by decide, by decide⟩ (Nat.le_of_ble_eq_true rfl) ⟨by decide, by decide⟩ rfl dX12_clocks_8 (fun r_6 H_6 locs_6 p_6 hT_6 hk_6 hS_6 => ?_)
  have p_6 : H = H_6 ∧ (ai H (ρ a0 0) 299 = r_6) := p_6
  obtain ⟨rfl, p_6_0⟩ := p_6
  have c_r_6 := congrArg Int32.toInt p_6_0
  refine lv_iconst (v := 1) hx hb dX12_clocks_11 (by decide) ?_
  refine lv_isub hx hb dX12_clocks_12 ?_
  refine lv_topi (fun x_7 ex_7 => ?_)
  refine th_Vv (As := [.int 1, .int 11, .int x_7]) (rest := []) E hml hl.1 (y_set_v64 l D cI cS τ ρ hW H hT_6 a0 x_7 ha0) lk_X12_95 yd_X12_set hT_6 ha0 rfl (by decide) hS_6 (fun q h => (Or.inl h)) ⟨by decide, by decide⟩ (Nat.le_of_ble_eq_true rfl) ⟨by decide, by decide⟩ rfl dX12_clocks_13 (fun H_8 locs_8 p_8 hT_8 hk_8 hS_8 => ?_)
  have p_8 : (AU 985 H H_8 (ρ a0 0) 299 x_7) := p_8
  have hW_8 : PW N H_8 (ρ a0 0) := PW.put hI.1 p_8 (by show (-2147483648 : Int) ≤ _; exact i_min _) (by show _ ≤ (2147483647 : Int); exact i_max _)
  refine lv_aload_n hx hb dX12_clocks_16 rfl (lv_at hl 0 rfl) ?_
  refine lv_iload_n hx hb dX12_clocks_17 rfl (lv_at hl 1 rfl) ?_
  refine lv_bipush (v := 11) hx hb dX12_clocks_18 (by decide) ?_
  refine th_Vi (As := [.int 1, .int 11]) (rest := []) E hml hl.1 (y_get_v39 l D cI cS τ ρ hW H_8 hT_8 a0 ha0) lk_X12_99 yd_X12_get hT_8 ha0 rfl (by decide) hS_8 (fun _ h => h.elim) ⟨by decide, by decide⟩ (Nat.le_of_ble_eq_true rfl) ⟨by decide, by decide⟩ rfl dX12_clocks_20 (fun r_9 H_9 locs_9 p_9 hT_9 hk_9 hS_9 => ?_)
  have p_9 : H_8 = H_9 ∧ (ai H_8 (ρ a0 0) 299 = r_9) := p_9
  obtain ⟨rfl, p_9_0⟩ := p_9
  have s_9 : r_9 = x_7 := p_9_0.symm.trans (AU.s p_8 (by decide))
  refine th_topi s_9 ?_
  refine lv_if_le (tgt := 27) hx hb dX12_clocks_23 (by decide) (fun c_10 => ?_) (fun c_10 => ?_)
  · have f_10 : x_7.toInt ≤ 0 := r_le rfl (by decide) c_10
    refine lv_aload_n hx hb dX12_clocks_27 rfl (lv_at hl 0 rfl) ?_
    refine lv_iload_n hx hb dX12_clocks_28 rfl (lv_at hl 1 rfl) ?_
    refine lv_iconst (v := 1) hx hb dX12_clocks_29 (by decide) ?_
    refine th_Vi (As := [.int 1, .int 1]) (rest := []) E hml hl.1 (y_get_v29 l D cI cS τ ρ hW H_8 hT_9 a0 ha0) lk_X12_99 yd_X12_get hT_9 ha0 rfl (by decide) hS_9 (fun _ h => h.elim) ⟨by decide, by decide⟩ (Nat.le_of_ble_eq_true rfl) ⟨by decide, by decide⟩ rfl dX12_clocks_30 (fun r_11 H_11 locs_11 p_11 hT_11 hk_11 hS_11 => ?_)
    have p_11 : H_8 = H_11 ∧ (ai H_8 (ρ a0 0) 289 = r_11) := p_11
    obtain ⟨rfl, p_11_0⟩ := p_11
    have t_11 : ai H (ρ a0 0) 289 = r_11 := (AU.o p_8 (by decide) (by decide)).symm.trans p_11_0
    have b_r_11 : 0 ≤ r_11.toInt ∧ r_11.toInt ≤ N + 2 := by rw [← t_11]; exact hI.1 289 (by decide)
    have c_r_11 := congrArg Int32.toInt t_11
    refine lv_aload_n hx hb dX12_clocks_33 rfl (lv_at hl 0 rfl) ?_
    refine lv_iload_n hx hb dX12_clocks_34 rfl (lv_at hl 1 rfl) ?_
    refine lv_iconst (v := 2) hx hb dX12_clocks_35 (by decide) ?_
    refine th_Vi (As := [.int 1, .int 2]) (rest := [.int r_11]) E hml hl.1 (y_get_v32 l D cI cS τ ρ hW H_8 hT_11 a0 ha0) lk_X12_99 yd_X12_get hT_11 ha0 rfl (by decide) hS_11 (fun _ h => h.elim) ⟨by decide, by decide⟩ (Nat.le_of_ble_eq_true rfl) ⟨by decide, by decide⟩ rfl dX12_clocks_36 (fun r_12 H_12 locs_12 p_12 hT_12 hk_12 hS_12 => ?_)
    have p_12 : H_8 = H_12 ∧ (ai H_8 (ρ a0 0) 290 = r_12) := p_12
    obtain ⟨rfl, p_12_0⟩ := p_12
    have t_12 : ai H (ρ a0 0) 290 = r_12 := (AU.o p_8 (by decide) (by decide)).symm.trans p_12_0
    have b_r_12 : 0 ≤ r_12.toInt ∧ r_12.toInt ≤ N + 2 := by rw [← t_12]; exact hI.1 290 (by decide)
    have c_r_12 := congrArg Int32.toInt t_12
    refine lv_icmp_ge (tgt := 50) hx hb dX12_clocks_39 (by decide) (fun c_13 => ?_) (fun c_13 => ?_)
    · have f_13 : r_12.toInt ≤ r_11.toInt := r_le rfl rfl c_13
      refine lv_aload_n hx hb dX12_clocks_50 rfl (lv_at hl 0 rfl) ?_
      refine lv_iload_n hx hb dX12_clocks_51 rfl (lv_at hl 1 rfl) ?_
      refine th_Vi (As := [.int 1]) (rest := []) E hml hl.1 (y_isBlocked_v2 l D cI cS τ ρ hW H_8 hT_12 a0 ha0 N hN0 hN1 ⟨hW_8, (QS.same (AU.o p_8 (by decide) (by decide)) (AU.o p_8 (by decide) (by decide)) hI.2.1), (QS.same (AU.o p_8 (by decide) (by decide)) (((AU.o p_8 (by decide) (by decide)).trans t_12).trans t_12.symm) hI.2.2.1), (PL.q (p_8.2 _ (th_ne (hW _ 12 2 ha0 (by decide) (by decide) (by decide)) (hW _ 12 0 ha0 (by decide) (by decide) (by decide)) (by decide))) hI.2.2.2.1), (PL.q (p_8.2 _ (th_ne (hW _ 12 3 ha0 (by decide) (by decide) (by decide)) (hW _ 12 0 ha0 (by decide) (by decide) (by decide)) (by decide))) hI.2.2.2.2.1), (IF.q (p_8.2 _ (th_ne ha0 (hW _ 12 0 ha0 (by decide) (by decide) (by decide)) (by decide))) hI.2.2.2.2.2)⟩) lk_X12_157 yd_X12_isBlocked hT_12 ha0 rfl (by decide) hS_12 (fun _ h => h.elim) ⟨by decide, by decide⟩ (Nat.le_of_ble_eq_true rfl) ⟨by decide, by decide⟩ rfl dX12_clocks_52 (fun r_14 H_14 locs_14 p_14 hT_14 hk_14 hS_14 => ?_)
      have p_14 : H_8 = H_14 ∧ (r_14 = 0 ∨ r_14 = 1) ∧ (r_14.toInt = 1 → ((ai H_8 (ρ a0 0) 288).toInt = 4 ∨ (ai H_8 (ρ a0 0) 288).toInt = 7)) := p_14
      obtain ⟨rfl, p_14_0, p_14_1⟩ := p_14
      have z_14 := b_iv p_14_0
      refine lv_if_eq (tgt := 63) hx hb dX12_clocks_55 (by decide) (fun c_15 => ?_) (fun c_15 => ?_)
      · have f_15 : r_14.toInt = 0 := r_eq rfl (by decide) c_15
        exact J_63 H_8 locs_14 _ hT_14 hS_14 hl ⟨hW_8, (QS.same (AU.o p_8 (by decide) (by decide)) (AU.o p_8 (by decide) (by decide)) hI.2.1), (QS.same (AU.o p_8 (by decide) (by decide)) (((AU.o p_8 (by decide) (by decide)).trans t_12).trans t_12.symm) hI.2.2.1), (PL.q (p_8.2 _ (th_ne (hW _ 12 2 ha0 (by decide) (by decide) (by decide)) (hW _ 12 0 ha0 (by decide) (by decide) (by decide)) (by decide))) hI.2.2.2.1), (PL.q (p_8.2 _ (th_ne (hW _ 12 3 ha0 (by decide) (by decide) (by decide)) (hW _ 12 0 ha0 (by decide) (by decide) (by decide)) (by decide))) hI.2.2.2.2.1), (IF.q (p_8.2 _ (th_ne ha0 (hW _ 12 0 ha0 (by decide) (by decide) (by decide)) (by decide))) hI.2.2.2.2.2)⟩ (by rw [(AU.o p_8 (by decide) (by decide))]; omega)
      · have f_15 : ¬ r_14.toInt = 0 := r_ne rfl (by decide) c_15
        have nz_r_14 : ¬ r_14 = 0 := c_15
        refine lv_aload_n hx hb dX12_clocks_58 rfl (lv_at hl 0 rfl) ?_
        refine lv_iload_n hx hb dX12_clocks_59 rfl (lv_at hl 1 rfl) ?_
        refine th_Vv (As := [.int 1]) (rest := []) E hml hl.1 (y_asks_v2 l D cI cS τ ρ hW H_8 hT_14 a0 ha0 N hN0 hN1 ⟨hW_8, (QS.same (AU.o p_8 (by decide) (by decide)) (AU.o p_8 (by decide) (by decide)) hI.2.1), (QS.same (AU.o p_8 (by decide) (by decide)) (((AU.o p_8 (by decide) (by decide)).trans t_12).trans t_12.symm) hI.2.2.1), (PL.q (p_8.2 _ (th_ne (hW _ 12 2 ha0 (by decide) (by decide) (by decide)) (hW _ 12 0 ha0 (by decide) (by decide) (by decide)) (by decide))) hI.2.2.2.1), (PL.q (p_8.2 _ (th_ne (hW _ 12 3 ha0 (by decide) (by decide) (by decide)) (hW _ 12 0 ha0 (by decide) (by decide) (by decide)) (by decide))) hI.2.2.2.2.1), (IF.q (p_8.2 _ (th_ne ha0 (hW _ 12 0 ha0 (by decide) (by decide) (by decide)) (by decide))) hI.2.2.2.2.2)⟩ (by have : (ai H_8 (ρ a0 0) 288).toInt = (ai H (ρ a0 0) 288 : Int32).toInt := congrArg Int32.toInt (AU.o p_8 (by decide) (by decide)); omega)) lk_X12_266 yd_X12_asks hT_14 ha0 rfl (by decide) hS_14 (fun q => (fun h => h.elim (fun h => (Or.inr h)) (fun h => (Or.inl h)))) ⟨by decide, by decide⟩ (Nat.le_of_ble_eq_true rfl) ⟨by decide, by decide⟩ rfl dX12_clocks_60 (fun H_16 locs_16 p_16 hT_16 hk_16 hS_16 => ?_)
        have p_16 : (IM D ρ N H_16 a0) ∧ ((ai H_8 (ρ a0 0) 976).toInt ≤ (ai H_16 (ρ a0 0) 976).toInt) := p_16
        obtain ⟨p_16_0, p_16_1⟩ := p_16
        have mn_16 : (ai H (ρ a0 0) 976).toInt ≤ (ai H_16 (ρ a0 0) 976).toInt := by have h := p_16_1; rw [(AU.o p_8 (by decide) (by decide))] at h; exact h
        exact J_63 H_16 locs_16 _ hT_16 hS_16 hl ⟨p_16_0.1, p_16_0.2.1, p_16_0.2.2.1, p_16_0.2.2.2.1, p_16_0.2.2.2.2.1, p_16_0.2.2.2.2.2⟩ (by omega)
    · have f_13 : r_11.toInt < r_12.toInt := r_nle rfl rfl c_13
      refine lv_aload_n hx hb dX12_clocks_42 rfl (lv_at hl 0 rfl) ?_
      refine lv_iload_n hx hb dX12_clocks_43 rfl (lv_at hl 1 rfl) ?_
      refine th_Vv (As := [.int 1]) (rest := []) E hml hl.1 (y_sendsAgain_v2 l D cI cS τ ρ hW H_8 hT_12 a0 ha0 N hN0 hN1 ⟨hW_8, (QS.same (AU.o p_8 (by decide) (by decide)) (AU.o p_8 (by decide) (by decide)) hI.2.1), (QS.same (AU.o p_8 (by decide) (by decide)) (((AU.o p_8 (by decide) (by decide)).trans t_12).trans t_12.symm) hI.2.2.1), (PL.q (p_8.2 _ (th_ne (hW _ 12 2 ha0 (by decide) (by decide) (by decide)) (hW _ 12 0 ha0 (by decide) (by decide) (by decide)) (by decide))) hI.2.2.2.1), (PL.q (p_8.2 _ (th_ne (hW _ 12 3 ha0 (by decide) (by decide) (by decide)) (hW _ 12 0 ha0 (by decide) (by decide) (by decide)) (by decide))) hI.2.2.2.2.1), (IF.q (p_8.2 _ (th_ne ha0 (hW _ 12 0 ha0 (by decide) (by decide) (by decide)) (by decide))) hI.2.2.2.2.2)⟩) lk_X12_263 yd_X12_sendsAgain hT_12 ha0 rfl (by decide) hS_12 (fun q => (fun h => h.elim (fun h => (Or.inr h)) (fun h => (Or.inl h)))) ⟨by decide, by decide⟩ (Nat.le_of_ble_eq_true rfl) ⟨by decide, by decide⟩ rfl dX12_clocks_44 (fun H_17 locs_17 p_17 hT_17 hk_17 hS_17 => ?_)
      have p_17 : (IM D ρ N H_17 a0) ∧ ((ai H_8 (ρ a0 0) 976).toInt ≤ (ai H_17 (ρ a0 0) 976).toInt) := p_17
      obtain ⟨p_17_0, p_17_1⟩ := p_17
      have mn_17 : (ai H (ρ a0 0) 976).toInt ≤ (ai H_17 (ρ a0 0) 976).toInt := by have h := p_17_1; rw [(AU.o p_8 (by decide) (by decide))] at h; exact h
      refine lv_goto (tgt := 63) hx hb dX12_clocks_47 (by decide) ?_
      exact J_63 H_17 locs_17 _ hT_17 hS_17 hl ⟨p_17_0.1, p_17_0.2.1, p_17_0.2.2.1, p_17_0.2.2.2.1, p_17_0.2.2.2.2.1, p_17_0.2.2.2.2.2⟩ (by omega)
  · have f_10 : 0 < x_7.toInt := r_nle rfl (by decide) c_10
    exact th_vret E hr hlk hs hT_9 hS_9 ⟨⟨hW_8, (QS.same (AU.o p_8 (by decide) (by decide)) (AU.o p_8 (by decide) (by decide)) hI.2.1), (QS.same (AU.o p_8 (by decide) (by decide)) (AU.o p_8 (by decide) (by decide)) hI.2.2.1), (PL.q (p_8.2 _ (th_ne (hW _ 12 2 ha0 (by decide) (by decide) (by decide)) (hW _ 12 0 ha0 (by decide) (by decide) (by decide)) (by decide))) hI.2.2.2.1), (PL.q (p_8.2 _ (th_ne (hW _ 12 3 ha0 (by decide) (by decide) (by decide)) (hW _ 12 0 ha0 (by decide) (by decide) (by decide)) (by decide))) hI.2.2.2.2.1), (IF.q (p_8.2 _ (th_ne ha0 (hW _ 12 0 ha0 (by decide) (by decide) (by decide)) (by decide))) hI.2.2.2.2.2)⟩, (by rw [(AU.o p_8 (by decide) (by decide))]; omega)⟩ dX12_clocks_26
set_option maxHeartbeats 4000000 in
set_option maxRecDepth 100000 in
/-- the reference: ticks -/
theorem y_ticks (l : Launch) (D : va_G) (cI cS : ClassId) (τ : Nat → Option Nat) (ρ : Nat → Nat → Nat) (hW : WF τ ρ) (H : Heap) (hT : TH D cI cS τ ρ H) (a0 : Nat) (ha0 : τ a0 = some 12) (N : Int) (hN0 : 0 ≤ N) (hN1 : N ≤ 600) (hI : IM D ρ N H a0) : MV l D cI cS τ ρ yX12_ticks cX12_ticks 2 none 9 208 H [.ref a0] (fun (u : Heap) => (IM D ρ N u a0)) (fun q => q = ρ a0 0 ∨ q = ρ a0 2) := by
  refine MV.of (by decide) (Nat.le_of_ble_eq_true rfl) ?_
  intro p e s m args below meth c E hml hr hlk hs ls hl
  have hx := E.1
  have hb := E.2.1
  have hown := E.2.2.1
  have hts := E.2.2.2.1
  have hS : SS (fun q => q = ρ a0 0 ∨ q = ρ a0 2) H H [] := SS.rf
  have hl : lv_has ls 2 [(0, .ref a0)] := hl
  have n01 := hI.2.2.2.2.2.1
  have n23 := hI.2.2.2.2.2.2.1
  refine lv_aload_n hx hb dX12_ticks_0 rfl (lv_at hl 0 rfl) ?_
  refine gf_X12_7 E hT hW ha0 dX12_ticks_1 (fun h_1 => ?_)
  refine lv_sipush (v := 977) hx hb dX12_ticks_4 (by decide) ?_
  refine lv_dup2_11 hx hb dX12_ticks_7 rfl rfl ?_
  refine th_iald E hT h_1 (by decide) (vp_in_iff.mpr ⟨by decide, by decide⟩) dX12_ticks_8 ?_
  refine th_topi (y := ai H (ρ a0 0) 977) rfl ?_
  refine lv_topi (fun x_2 ex_2 => ?_)
  have c_x_2 := congrArg Int32.toInt ex_2.symm
  refine lv_iconst (v := 1) hx hb dX12_ticks_9 (by decide) ?_
  refine lv_iadd hx hb dX12_ticks_10 ?_
  refine lv_topi (fun x_3 ex_3 => ?_)
  refine th_iast E hT hS h_1 (Or.inl rfl) (by decide) (vp_in_iff.mpr ⟨by decide, by decide⟩) dX12_ticks_11 (fun H_4 locs_4 hT_4 hU_4 hS_4 => ?_)
  have hU_4 : AU 985 H H_4 (ρ a0 0) 977 x_3 := hU_4
  have hW_4 : PW N H_4 (ρ a0 0) := PW.put hI.1 hU_4 (by show (-2147483648 : Int) ≤ _; exact i_min _) (by show _ ≤ (2147483647 : Int); exact i_max _)
  refine lv_iconst (v := 0) hx hb dX12_ticks_12 (by decide) ?_
  refine lv_istore_n (lv' := [(1, .int 0), (0, .ref a0)]) hx hb dX12_ticks_13 rfl hl (by decide) rfl (fun ls hl => ?_)
  refine lv_iload_n hx hb dX12_ticks_14 rfl (lv_at hl 0 rfl) ?_
  refine lv_iconst (v := 2) hx hb dX12_ticks_15 (by decide) ?_
  refine lv_icmp_ge (tgt := 81) hx hb dX12_ticks_16 (by decide) (fun c_5 => absurd c_5 (by decide)) (fun c_5 => ?_)
  refine lv_aload_n hx hb dX12_ticks_19 rfl (lv_at hl 1 rfl) ?_
  refine lv_iload_n hx hb dX12_ticks_20 rfl (lv_at hl 0 rfl) ?_
  refine lv_bipush (v := 12) hx hb dX12_ticks_21 (by decide) ?_
  refine th_Vi (As := [.int 0, .int 12]) (rest := []) E hml hl.1 (y_get_v41 l D cI cS τ ρ hW H_4 hT_4 a0 ha0) lk_X12_99 yd_X12_get hT_4 ha0 rfl (by decide) hS_4 (fun _ h => h.elim) ⟨by decide, by decide⟩ (Nat.le_of_ble_eq_true rfl) ⟨by decide, by decide⟩ rfl dX12_ticks_23 (fun r_6 H_6 locs_6 p_6 hT_6 hk_6 hS_6 => ?_)
  have p_6 : H_4 = H_6 ∧ (ai H_4 (ρ a0 0) 12 = r_6) := p_6
  obtain ⟨rfl, p_6_0⟩ := p_6
  have t_6 : ai H (ρ a0 0) 12 = r_6 := (AU.o hU_4 (by decide) (by decide)).symm.trans p_6_0
  have c_r_6 := congrArg Int32.toInt t_6
  refine lv_if_le (tgt := 60) hx hb dX12_ticks_26 (by decide) (fun c_7 => ?_) (fun c_7 => ?_)
  · have f_7 : r_6.toInt ≤ 0 := r_le rfl (by decide) c_7
    refine lv_aload_n hx hb dX12_ticks_60 rfl (lv_at hl 1 rfl) ?_
    refine lv_iload_n hx hb dX12_ticks_61 rfl (lv_at hl 0 rfl) ?_
    refine lv_bipush (v := 11) hx hb dX12_ticks_62 (by decide) ?_
    refine th_Vi (As := [.int 0, .int 11]) (rest := []) E hml hl.1 (y_get_v36 l D cI cS τ ρ hW H_4 hT_6 a0 ha0) lk_X12_99 yd_X12_get hT_6 ha0 rfl (by decide) hS_6 (fun _ h => h.elim) ⟨by decide, by decide⟩ (Nat.le_of_ble_eq_true rfl) ⟨by decide, by decide⟩ rfl dX12_ticks_64 (fun r_8 H_8 locs_8 p_8 hT_8 hk_8 hS_8 => ?_)
    have p_8 : H_4 = H_8 ∧ (ai H_4 (ρ a0 0) 11 = r_8) := p_8
    obtain ⟨rfl, p_8_0⟩ := p_8
    have t_8 : ai H (ρ a0 0) 11 = r_8 := (AU.o hU_4 (by decide) (by decide)).symm.trans p_8_0
    have c_r_8 := congrArg Int32.toInt t_8
    refine lv_if_le (tgt := 75) hx hb dX12_ticks_67 (by decide) (fun c_9 => ?_) (fun c_9 => ?_)
    · have f_9 : r_8.toInt ≤ 0 := r_le rfl (by decide) c_9
      refine lv_iinc (v := 1) (lv' := [(1, .int 1), (0, .ref a0)]) hx hb dX12_ticks_75 hl (k := 0) rfl (by decide) (by decide) rfl (fun ls hl => ?_)
      refine lv_goto (tgt := 14) hx hb dX12_ticks_78 (by decide) ?_
      refine lv_iload_n hx hb dX12_ticks_14 rfl (lv_at hl 0 rfl) ?_
      refine lv_iconst (v := 2) hx hb dX12_ticks_15 (by decide) ?_
      refine lv_icmp_ge (tgt := 81) hx hb dX12_ticks_16 (by decide) (fun c_11 => absurd c_11 (by decide)) (fun c_11 => ?_)
      refine lv_aload_n hx hb dX12_ticks_19 rfl (lv_at hl 1 rfl) ?_
      refine lv_iload_n hx hb dX12_ticks_20 rfl (lv_at hl 0 rfl) ?_
      refine lv_bipush (v := 12) hx hb dX12_ticks_21 (by decide) ?_
      refine th_Vi (As := [.int 1, .int 12]) (rest := []) E hml hl.1 (y_get_v42 l D cI cS τ ρ hW H_4 hT_8 a0 ha0) lk_X12_99 yd_X12_get hT_8 ha0 rfl (by decide) hS_8 (fun _ h => h.elim) ⟨by decide, by decide⟩ (Nat.le_of_ble_eq_true rfl) ⟨by decide, by decide⟩ rfl dX12_ticks_23 (fun r_12 H_12 locs_12 p_12 hT_12 hk_12 hS_12 => ?_)
      have p_12 : H_4 = H_12 ∧ (ai H_4 (ρ a0 0) 300 = r_12) := p_12
      obtain ⟨rfl, p_12_0⟩ := p_12
      have t_12 : ai H (ρ a0 0) 300 = r_12 := (AU.o hU_4 (by decide) (by decide)).symm.trans p_12_0
      have c_r_12 := congrArg Int32.toInt t_12
      refine lv_if_le (tgt := 60) hx hb dX12_ticks_26 (by decide) (fun c_13 => ?_) (fun c_13 => ?_)
      · have f_13 : r_12.toInt ≤ 0 := r_le rfl (by decide) c_13
        refine lv_aload_n hx hb dX12_ticks_60 rfl (lv_at hl 1 rfl) ?_
        refine lv_iload_n hx hb dX12_ticks_61 rfl (lv_at hl 0 rfl) ?_
        refine lv_bipush (v := 11) hx hb dX12_ticks_62 (by decide) ?_
        refine th_Vi (As := [.int 1, .int 11]) (rest := []) E hml hl.1 (y_get_v39 l D cI cS τ ρ hW H_4 hT_12 a0 ha0) lk_X12_99 yd_X12_get hT_12 ha0 rfl (by decide) hS_12 (fun _ h => h.elim) ⟨by decide, by decide⟩ (Nat.le_of_ble_eq_true rfl) ⟨by decide, by decide⟩ rfl dX12_ticks_64 (fun r_14 H_14 locs_14 p_14 hT_14 hk_14 hS_14 => ?_)
        have p_14 : H_4 = H_14 ∧ (ai H_4 (ρ a0 0) 299 = r_14) := p_14
        obtain ⟨rfl, p_14_0⟩ := p_14
        have t_14 : ai H (ρ a0 0) 299 = r_14 := (AU.o hU_4 (by decide) (by decide)).symm.trans p_14_0
        have c_r_14 := congrArg Int32.toInt t_14
        refine lv_if_le (tgt := 75) hx hb dX12_ticks_67 (by decide) (fun c_15 => ?_) (fun c_15 => ?_)
        · have f_15 : r_14.toInt ≤ 0 := r_le rfl (by decide) c_15
          refine lv_iinc (v := 2) (lv' := [(1, .int 2), (0, .ref a0)]) hx hb dX12_ticks_75 hl (k := 0) rfl (by decide) (by decide) rfl (fun ls hl => ?_)
          refine lv_goto (tgt := 14) hx hb dX12_ticks_78 (by decide) ?_
          refine lv_iload_n hx hb dX12_ticks_14 rfl (lv_at hl 0 rfl) ?_
          refine lv_iconst (v := 2) hx hb dX12_ticks_15 (by decide) ?_
          refine lv_icmp_ge (tgt := 81) hx hb dX12_ticks_16 (by decide) (fun c_17 => ?_) (fun c_17 => absurd (by decide) c_17)
          exact th_vret E hr hlk hs hT_14 hS_14 ⟨hW_4, (QS.same (AU.o hU_4 (by decide) (by decide)) (AU.o hU_4 (by decide) (by decide)) hI.2.1), (QS.same (AU.o hU_4 (by decide) (by decide)) (AU.o hU_4 (by decide) (by decide)) hI.2.2.1), (PL.q (hU_4.2 _ (th_ne (hW _ 12 2 ha0 (by decide) (by decide) (by decide)) (hW _ 12 0 ha0 (by decide) (by decide) (by decide)) (by decide))) hI.2.2.2.1), (PL.q (hU_4.2 _ (th_ne (hW _ 12 3 ha0 (by decide) (by decide) (by decide)) (hW _ 12 0 ha0 (by decide) (by decide) (by decide)) (by decide))) hI.2.2.2.2.1), (IF.q (hU_4.2 _ (th_ne ha0 (hW _ 12 0 ha0 (by decide) (by decide) (by decide)) (by decide))) hI.2.2.2.2.2)⟩ dX12_ticks_81
        · have f_15 : 0 < r_14.toInt := r_nle rfl (by decide) c_15
          refine lv_aload_n hx hb dX12_ticks_70 rfl (lv_at hl 1 rfl) ?_
          refine lv_iload_n hx hb dX12_ticks_71 rfl (lv_at hl 0 rfl) ?_
          refine th_Vv (As := [.int 1]) (rest := []) E hml hl.1 (y_clocks_v2 l D cI cS τ ρ hW H_4 hT_14 a0 ha0 N hN0 hN1 ⟨hW_4, (QS.same (AU.o hU_4 (by decide) (by decide)) (AU.o hU_4 (by decide) (by decide)) hI.2.1), (QS.same (AU.o hU_4 (by decide) (by decide)) (AU.o hU_4 (by decide) (by decide)) hI.2.2.1), (PL.q (hU_4.2 _ (th_ne (hW _ 12 2 ha0 (by decide) (by decide) (by decide)) (hW _ 12 0 ha0 (by decide) (by decide) (by decide)) (by decide))) hI.2.2.2.1), (PL.q (hU_4.2 _ (th_ne (hW _ 12 3 ha0 (by decide) (by decide) (by decide)) (hW _ 12 0 ha0 (by decide) (by decide) (by decide)) (by decide))) hI.2.2.2.2.1), (IF.q (hU_4.2 _ (th_ne ha0 (hW _ 12 0 ha0 (by decide) (by decide) (by decide)) (by decide))) hI.2.2.2.2.2)⟩) lk_X12_269 yd_X12_clocks hT_14 ha0 rfl (by decide) hS_14 (fun q => (fun h => h.elim (fun h => (Or.inl h)) (fun h => (Or.inr h)))) ⟨by decide, by decide⟩ (Nat.le_of_ble_eq_true rfl) ⟨by decide, by decide⟩ rfl dX12_ticks_72 (fun H_18 locs_18 p_18 hT_18 hk_18 hS_18 => ?_)
          have p_18 : (IM D ρ N H_18 a0) ∧ ((ai H_4 (ρ a0 0) 976).toInt ≤ (ai H_18 (ρ a0 0) 976).toInt) := p_18
          obtain ⟨p_18_0, p_18_1⟩ := p_18
          have mn_18 : (ai H (ρ a0 0) 976).toInt ≤ (ai H_18 (ρ a0 0) 976).toInt := by have h := p_18_1; rw [(AU.o hU_4 (by decide) (by decide))] at h; exact h
          refine lv_iinc (v := 2) (lv' := [(1, .int 2), (0, .ref a0)]) hx hb dX12_ticks_75 hl (k := 0) rfl (by decide) (by decide) rfl (fun ls hl => ?_)
          refine lv_goto (tgt := 14) hx hb dX12_ticks_78 (by decide) ?_
          refine lv_iload_n hx hb dX12_ticks_14 rfl (lv_at hl 0 rfl) ?_
          refine lv_iconst (v := 2) hx hb dX12_ticks_15 (by decide) ?_
          refine lv_icmp_ge (tgt := 81) hx hb dX12_ticks_16 (by decide) (fun c_20 => ?_) (fun c_20 => absurd (by decide) c_20)
          exact th_vret E hr hlk hs hT_18 hS_18 ⟨p_18_0.1, p_18_0.2.1, p_18_0.2.2.1, p_18_0.2.2.2.1, p_18_0.2.2.2.2.1, p_18_0.2.2.2.2.2⟩ dX12_ticks_81
      · have f_13 : 0 < r_12.toInt := r_nle rfl (by decide) c_13
        refine lv_aload_n hx hb dX12_ticks_29 rfl (lv_at hl 1 rfl) ?_
        refine lv_iload_n hx hb dX12_ticks_30 rfl (lv_at hl 0 rfl) ?_
        refine lv_bipush (v := 12) hx hb dX12_ticks_31 (by decide) ?_
        refine lv_aload_n hx hb dX12_ticks_33 rfl (lv_at hl 1 rfl) ?_
        refine lv_iload_n hx hb dX12_ticks_34 rfl (lv_at hl 0 rfl) ?_
        refine lv_bipush (v := 12) hx hb dX12_ticks_35 (by decide) ?_
        refine th_Vi (As := [.int 1, .int 12]) (rest := [.int 12, .int 1, .ref a0]) E hml hl.1 (y_get_v42 l D cI cS τ ρ hW H_4 hT_12 a0 ha0) lk_X12_99 yd_X12_get hT_12 ha0 rfl (by decide) hS_12 (fun _ h => h.elim) ⟨by decide, by decide⟩ (Nat.le_of_ble_eq_true rfl) ⟨by decide, by decide⟩ rfl dX12_ticks_37 (fun r_21 H_21 locs_21 p_21 hT_21 hk_21 hS_21 => ?_)
        have p_21 : H_4 = H_21 ∧ (ai H_4 (ρ a0 0) 300 = r_21) := p_21
        obtain ⟨rfl, p_21_0⟩ := p_21
        have s_21 : r_21 = r_12 := p_21_0.symm.trans ((AU.o hU_4 (by decide) (by decide)).trans t_12)
        refine th_topi s_21 ?_
        refine lv_iconst (v := 1) hx hb dX12_ticks_40 (by decide) ?_
        refine lv_isub hx hb dX12_ticks_41 ?_
        refine lv_topi (fun x_22 ex_22 => ?_)
        refine th_Vv (As := [.int 1, .int 12, .int x_22]) (rest := []) E hml hl.1 (y_set_v60 l D cI cS τ ρ hW H_4 hT_21 a0 x_22 ha0) lk_X12_95 yd_X12_set hT_21 ha0 rfl (by decide) hS_21 (fun q h => (Or.inl h)) ⟨by decide, by decide⟩ (Nat.le_of_ble_eq_true rfl) ⟨by decide, by decide⟩ rfl dX12_ticks_42 (fun H_23 locs_23 p_23 hT_23 hk_23 hS_23 => ?_)
        have p_23 : (AU 985 H_4 H_23 (ρ a0 0) 300 x_22) := p_23
        have hW_23 : PW N H_23 (ρ a0 0) := PW.put hW_4 p_23 (by show (-2147483648 : Int) ≤ _; exact i_min _) (by show _ ≤ (2147483647 : Int); exact i_max _)
        refine lv_aload_n hx hb dX12_ticks_45 rfl (lv_at hl 1 rfl) ?_
        refine lv_iload_n hx hb dX12_ticks_46 rfl (lv_at hl 0 rfl) ?_
        refine lv_bipush (v := 12) hx hb dX12_ticks_47 (by decide) ?_
        refine th_Vi (As := [.int 1, .int 12]) (rest := []) E hml hl.1 (y_get_v42 l D cI cS τ ρ hW H_23 hT_23 a0 ha0) lk_X12_99 yd_X12_get hT_23 ha0 rfl (by decide) hS_23 (fun _ h => h.elim) ⟨by decide, by decide⟩ (Nat.le_of_ble_eq_true rfl) ⟨by decide, by decide⟩ rfl dX12_ticks_49 (fun r_24 H_24 locs_24 p_24 hT_24 hk_24 hS_24 => ?_)
        have p_24 : H_23 = H_24 ∧ (ai H_23 (ρ a0 0) 300 = r_24) := p_24
        obtain ⟨rfl, p_24_0⟩ := p_24
        have s_24 : r_24 = x_22 := p_24_0.symm.trans (AU.s p_23 (by decide))
        refine th_topi s_24 ?_
        refine lv_if_ne (tgt := 60) hx hb dX12_ticks_52 (by decide) (fun c_25 => ?_) (fun c_25 => ?_)
        · have f_25 : ¬ x_22.toInt = 0 := r_ne rfl (by decide) c_25
          have nz_x_22 : ¬ x_22 = 0 := c_25
          refine lv_aload_n hx hb dX12_ticks_60 rfl (lv_at hl 1 rfl) ?_
          refine lv_iload_n hx hb dX12_ticks_61 rfl (lv_at hl 0 rfl) ?_
          refine lv_bipush (v := 11) hx hb dX12_ticks_62 (by decide) ?_
          refine th_Vi (As := [.int 1, .int 11]) (rest := []) E hml hl.1 (y_get_v39 l D cI cS τ ρ hW H_23 hT_24 a0 ha0) lk_X12_99 yd_X12_get hT_24 ha0 rfl (by decide) hS_24 (fun _ h => h.elim) ⟨by decide, by decide⟩ (Nat.le_of_ble_eq_true rfl) ⟨by decide, by decide⟩ rfl dX12_ticks_64 (fun r_26 H_26 locs_26 p_26 hT_26 hk_26 hS_26 => ?_)
          have p_26 : H_23 = H_26 ∧ (ai H_23 (ρ a0 0) 299 = r_26) := p_26
          obtain ⟨rfl, p_26_0⟩ := p_26
          have t_26 : ai H (ρ a0 0) 299 = r_26 := (Eq.trans (AU.o p_23 (by decide) (by decide)) (AU.o hU_4 (by decide) (by decide))).symm.trans p_26_0
          have c_r_26 := congrArg Int32.toInt t_26
          refine lv_if_le (tgt := 75) hx hb dX12_ticks_67 (by decide) (fun c_27 => ?_) (fun c_27 => ?_)
          · have f_27 : r_26.toInt ≤ 0 := r_le rfl (by decide) c_27
            refine lv_iinc (v := 2) (lv' := [(1, .int 2), (0, .ref a0)]) hx hb dX12_ticks_75 hl (k := 0) rfl (by decide) (by decide) rfl (fun ls hl => ?_)
            refine lv_goto (tgt := 14) hx hb dX12_ticks_78 (by decide) ?_
            refine lv_iload_n hx hb dX12_ticks_14 rfl (lv_at hl 0 rfl) ?_
            refine lv_iconst (v := 2) hx hb dX12_ticks_15 (by decide) ?_
            refine lv_icmp_ge (tgt := 81) hx hb dX12_ticks_16 (by decide) (fun c_29 => ?_) (fun c_29 => absurd (by decide) c_29)
            exact th_vret E hr hlk hs hT_26 hS_26 ⟨hW_23, (QS.same (Eq.trans (AU.o p_23 (by decide) (by decide)) (AU.o hU_4 (by decide) (by decide))) (Eq.trans (AU.o p_23 (by decide) (by decide)) (AU.o hU_4 (by decide) (by decide))) hI.2.1), (QS.same (Eq.trans (AU.o p_23 (by decide) (by decide)) (AU.o hU_4 (by decide) (by decide))) (Eq.trans (AU.o p_23 (by decide) (by decide)) (AU.o hU_4 (by decide) (by decide))) hI.2.2.1), (PL.q (p_23.2 _ (th_ne (hW _ 12 2 ha0 (by decide) (by decide) (by decide)) (hW _ 12 0 ha0 (by decide) (by decide) (by decide)) (by decide))) (PL.q (hU_4.2 _ (th_ne (hW _ 12 2 ha0 (by decide) (by decide) (by decide)) (hW _ 12 0 ha0 (by decide) (by decide) (by decide)) (by decide))) hI.2.2.2.1)), (PL.q (p_23.2 _ (th_ne (hW _ 12 3 ha0 (by decide) (by decide) (by decide)) (hW _ 12 0 ha0 (by decide) (by decide) (by decide)) (by decide))) (PL.q (hU_4.2 _ (th_ne (hW _ 12 3 ha0 (by decide) (by decide) (by decide)) (hW _ 12 0 ha0 (by decide) (by decide) (by decide)) (by decide))) hI.2.2.2.2.1)), (IF.q (p_23.2 _ (th_ne ha0 (hW _ 12 0 ha0 (by decide) (by decide) (by decide)) (by decide))) (IF.q (hU_4.2 _ (th_ne ha0 (hW _ 12 0 ha0 (by decide) (by decide) (by decide)) (by decide))) hI.2.2.2.2.2))⟩ dX12_ticks_81
          · have f_27 : 0 < r_26.toInt := r_nle rfl (by decide) c_27
            refine lv_aload_n hx hb dX12_ticks_70 rfl (lv_at hl 1 rfl) ?_
            refine lv_iload_n hx hb dX12_ticks_71 rfl (lv_at hl 0 rfl) ?_
            refine th_Vv (As := [.int 1]) (rest := []) E hml hl.1 (y_clocks_v2 l D cI cS τ ρ hW H_23 hT_26 a0 ha0 N hN0 hN1 ⟨hW_23, (QS.same (Eq.trans (AU.o p_23 (by decide) (by decide)) (AU.o hU_4 (by decide) (by decide))) (Eq.trans (AU.o p_23 (by decide) (by decide)) (AU.o hU_4 (by decide) (by decide))) hI.2.1), (QS.same (Eq.trans (AU.o p_23 (by decide) (by decide)) (AU.o hU_4 (by decide) (by decide))) (Eq.trans (AU.o p_23 (by decide) (by decide)) (AU.o hU_4 (by decide) (by decide))) hI.2.2.1), (PL.q (p_23.2 _ (th_ne (hW _ 12 2 ha0 (by decide) (by decide) (by decide)) (hW _ 12 0 ha0 (by decide) (by decide) (by decide)) (by decide))) (PL.q (hU_4.2 _ (th_ne (hW _ 12 2 ha0 (by decide) (by decide) (by decide)) (hW _ 12 0 ha0 (by decide) (by decide) (by decide)) (by decide))) hI.2.2.2.1)), (PL.q (p_23.2 _ (th_ne (hW _ 12 3 ha0 (by decide) (by decide) (by decide)) (hW _ 12 0 ha0 (by decide) (by decide) (by decide)) (by decide))) (PL.q (hU_4.2 _ (th_ne (hW _ 12 3 ha0 (by decide) (by decide) (by decide)) (hW _ 12 0 ha0 (by decide) (by decide) (by decide)) (by decide))) hI.2.2.2.2.1)), (IF.q (p_23.2 _ (th_ne ha0 (hW _ 12 0 ha0 (by decide) (by decide) (by decide)) (by decide))) (IF.q (hU_4.2 _ (th_ne ha0 (hW _ 12 0 ha0 (by decide) (by decide) (by decide)) (by decide))) hI.2.2.2.2.2))⟩) lk_X12_269 yd_X12_clocks hT_26 ha0 rfl (by decide) hS_26 (fun q => (fun h => h.elim (fun h => (Or.inl h)) (fun h => (Or.inr h)))) ⟨by decide, by decide⟩ (Nat.le_of_ble_eq_true rfl) ⟨by decide, by decide⟩ rfl dX12_ticks_72 (fun H_30 locs_30 p_30 hT_30 hk_30 hS_30 => ?_)
            have p_30 : (IM D ρ N H_30 a0) ∧ ((ai H_23 (ρ a0 0) 976).toInt ≤ (ai H_30 (ρ a0 0) 976).toInt) := p_30
            obtain ⟨p_30_0, p_30_1⟩ := p_30
            have mn_30 : (ai H (ρ a0 0) 976).toInt ≤ (ai H_30 (ρ a0 0) 976).toInt := by have h := p_30_1; rw [(Eq.trans (AU.o p_23 (by decide) (by decide)) (AU.o hU_4 (by decide) (by decide)))] at h; exact h
            refine lv_iinc (v := 2) (lv' := [(1, .int 2), (0, .ref a0)]) hx hb dX12_ticks_75 hl (k := 0) rfl (by decide) (by decide) rfl (fun ls hl => ?_)
            refine lv_goto (tgt := 14) hx hb dX12_ticks_78 (by decide) ?_
            refine lv_iload_n hx hb dX12_ticks_14 rfl (lv_at hl 0 rfl) ?_
            refine lv_iconst (v := 2) hx hb dX12_ticks_15 (by decide) ?_
            refine lv_icmp_ge (tgt := 81) hx hb dX12_ticks_16 (by decide) (fun c_32 => ?_) (fun c_32 => absurd (by decide) c_32)
            exact th_vret E hr hlk hs hT_30 hS_30 ⟨p_30_0.1, p_30_0.2.1, p_30_0.2.2.1, p_30_0.2.2.2.1, p_30_0.2.2.2.2.1, p_30_0.2.2.2.2.2⟩ dX12_ticks_81
        · have f_25 : x_22.toInt = 0 := r_eq rfl (by decide) c_25
          refine lv_aload_n hx hb dX12_ticks_55 rfl (lv_at hl 1 rfl) ?_
          refine lv_iload_n hx hb dX12_ticks_56 rfl (lv_at hl 0 rfl) ?_
          refine th_Vv (As := [.int 1]) (rest := []) E hml hl.1 (y_shuts_v2 l D cI cS τ ρ hW H_23 hT_24 a0 ha0 N hN0 hN1 ⟨hW_23, (QS.same (Eq.trans (AU.o p_23 (by decide) (by decide)) (AU.o hU_4 (by decide) (by decide))) (Eq.trans (AU.o p_23 (by decide) (by decide)) (AU.o hU_4 (by decide) (by decide))) hI.2.1), (QS.same (Eq.trans (AU.o p_23 (by decide) (by decide)) (AU.o hU_4 (by decide) (by decide))) (Eq.trans (AU.o p_23 (by decide) (by decide)) (AU.o hU_4 (by decide) (by decide))) hI.2.2.1), (PL.q (p_23.2 _ (th_ne (hW _ 12 2 ha0 (by decide) (by decide) (by decide)) (hW _ 12 0 ha0 (by decide) (by decide) (by decide)) (by decide))) (PL.q (hU_4.2 _ (th_ne (hW _ 12 2 ha0 (by decide) (by decide) (by decide)) (hW _ 12 0 ha0 (by decide) (by decide) (by decide)) (by decide))) hI.2.2.2.1)), (PL.q (p_23.2 _ (th_ne (hW _ 12 3 ha0 (by decide) (by decide) (by decide)) (hW _ 12 0 ha0 (by decide) (by decide) (by decide)) (by decide))) (PL.q (hU_4.2 _ (th_ne (hW _ 12 3 ha0 (by decide) (by decide) (by decide)) (hW _ 12 0 ha0 (by decide) (by decide) (by decide)) (by decide))) hI.2.2.2.2.1)), (IF.q (p_23.2 _ (th_ne ha0 (hW _ 12 0 ha0 (by decide) (by decide) (by decide)) (by decide))) (IF.q (hU_4.2 _ (th_ne ha0 (hW _ 12 0 ha0 (by decide) (by decide) (by decide)) (by decide))) hI.2.2.2.2.2))⟩) lk_X12_180 yd_X12_shuts hT_24 ha0 rfl (by decide) hS_24 (fun q h => (Or.inl h)) ⟨by decide, by decide⟩ (Nat.le_of_ble_eq_true rfl) ⟨by decide, by decide⟩ rfl dX12_ticks_57 (fun H_33 locs_33 p_33 hT_33 hk_33 hS_33 => ?_)
          have p_33 : (IM D ρ N H_33 a0) ∧ ((ai H_23 (ρ a0 0) 976).toInt ≤ (ai H_33 (ρ a0 0) 976).toInt) := p_33
          obtain ⟨p_33_0, p_33_1⟩ := p_33
          have mn_33 : (ai H (ρ a0 0) 976).toInt ≤ (ai H_33 (ρ a0 0) 976).toInt := by have h := p_33_1; rw [(Eq.trans (AU.o p_23 (by decide) (by decide)) (AU.o hU_4 (by decide) (by decide)))] at h; exact h
          refine lv_aload_n hx hb dX12_ticks_60 rfl (lv_at hl 1 rfl) ?_
          refine lv_iload_n hx hb dX12_ticks_61 rfl (lv_at hl 0 rfl) ?_
          refine lv_bipush (v := 11) hx hb dX12_ticks_62 (by decide) ?_
          refine th_Vi (As := [.int 1, .int 11]) (rest := []) E hml hl.1 (y_get_v39 l D cI cS τ ρ hW H_33 hT_33 a0 ha0) lk_X12_99 yd_X12_get hT_33 ha0 rfl (by decide) hS_33 (fun _ h => h.elim) ⟨by decide, by decide⟩ (Nat.le_of_ble_eq_true rfl) ⟨by decide, by decide⟩ rfl dX12_ticks_64 (fun r_34 H_34 locs_34 p_34 hT_34 hk_34 hS_34 => ?_)
          have p_34 : H_33 = H_34 ∧ (ai H_33 (ρ a0 0) 299 = r_34) := p_34
          obtain ⟨rfl, p_34_0⟩ := p_34
          have c_r_34 := congrArg Int32.toInt p_34_0
          refine lv_if_le (tgt := 75) hx hb dX12_ticks_67 (by decide) (fun c_35 => ?_) (fun c_35 => ?_)
          · have f_35 : r_34.toInt ≤ 0 := r_le rfl (by decide) c_35
            refine lv_iinc (v := 2) (lv' := [(1, .int 2), (0, .ref a0)]) hx hb dX12_ticks_75 hl (k := 0) rfl (by decide) (by decide) rfl (fun ls hl => ?_)
            refine lv_goto (tgt := 14) hx hb dX12_ticks_78 (by decide) ?_
            refine lv_iload_n hx hb dX12_ticks_14 rfl (lv_at hl 0 rfl) ?_
            refine lv_iconst (v := 2) hx hb dX12_ticks_15 (by decide) ?_
            refine lv_icmp_ge (tgt := 81) hx hb dX12_ticks_16 (by decide) (fun c_37 => ?_) (fun c_37 => absurd (by decide) c_37)
            exact th_vret E hr hlk hs hT_34 hS_34 ⟨p_33_0.1, p_33_0.2.1, p_33_0.2.2.1, p_33_0.2.2.2.1, p_33_0.2.2.2.2.1, p_33_0.2.2.2.2.2⟩ dX12_ticks_81
          · have f_35 : 0 < r_34.toInt := r_nle rfl (by decide) c_35
            refine lv_aload_n hx hb dX12_ticks_70 rfl (lv_at hl 1 rfl) ?_
            refine lv_iload_n hx hb dX12_ticks_71 rfl (lv_at hl 0 rfl) ?_
            refine th_Vv (As := [.int 1]) (rest := []) E hml hl.1 (y_clocks_v2 l D cI cS τ ρ hW H_33 hT_34 a0 ha0 N hN0 hN1 ⟨p_33_0.1, p_33_0.2.1, p_33_0.2.2.1, p_33_0.2.2.2.1, p_33_0.2.2.2.2.1, p_33_0.2.2.2.2.2⟩) lk_X12_269 yd_X12_clocks hT_34 ha0 rfl (by decide) hS_34 (fun q => (fun h => h.elim (fun h => (Or.inl h)) (fun h => (Or.inr h)))) ⟨by decide, by decide⟩ (Nat.le_of_ble_eq_true rfl) ⟨by decide, by decide⟩ rfl dX12_ticks_72 (fun H_38 locs_38 p_38 hT_38 hk_38 hS_38 => ?_)
            have p_38 : (IM D ρ N H_38 a0) ∧ ((ai H_33 (ρ a0 0) 976).toInt ≤ (ai H_38 (ρ a0 0) 976).toInt) := p_38
            obtain ⟨p_38_0, p_38_1⟩ := p_38
            have mn_38 : (ai H_33 (ρ a0 0) 976).toInt ≤ (ai H_38 (ρ a0 0) 976).toInt := by exact p_38_1
            refine lv_iinc (v := 2) (lv' := [(1, .int 2), (0, .ref a0)]) hx hb dX12_ticks_75 hl (k := 0) rfl (by decide) (by decide) rfl (fun ls hl => ?_)
            refine lv_goto (tgt := 14) hx hb dX12_ticks_78 (by decide) ?_
            refine lv_iload_n hx hb dX12_ticks_14 rfl (lv_at hl 0 rfl) ?_
            refine lv_iconst (v := 2) hx hb dX12_ticks_15 (by decide) ?_
            refine lv_icmp_ge (tgt := 81) hx hb dX12_ticks_16 (by decide) (fun c_40 => ?_) (fun c_40 => absurd (by decide) c_40)
            exact th_vret E hr hlk hs hT_38 hS_38 ⟨p_38_0.1, p_38_0.2.1, p_38_0.2.2.1, p_38_0.2.2.2.1, p_38_0.2.2.2.2.1, p_38_0.2.2.2.2.2⟩ dX12_ticks_81
    · have f_9 : 0 < r_8.toInt := r_nle rfl (by decide) c_9
      refine lv_aload_n hx hb dX12_ticks_70 rfl (lv_at hl 1 rfl) ?_
      refine lv_iload_n hx hb dX12_ticks_71 rfl (lv_at hl 0 rfl) ?_
      refine th_Vv (As := [.int 0]) (rest := []) E hml hl.1 (y_clocks l D cI cS τ ρ hW H_4 hT_8 a0 ha0 N hN0 hN1 ⟨hW_4, (QS.same (AU.o hU_4 (by decide) (by decide)) (AU.o hU_4 (by decide) (by decide)) hI.2.1), (QS.same (AU.o hU_4 (by decide) (by decide)) (AU.o hU_4 (by decide) (by decide)) hI.2.2.1), (PL.q (hU_4.2 _ (th_ne (hW _ 12 2 ha0 (by decide) (by decide) (by decide)) (hW _ 12 0 ha0 (by decide) (by decide) (by decide)) (by decide))) hI.2.2.2.1), (PL.q (hU_4.2 _ (th_ne (hW _ 12 3 ha0 (by decide) (by decide) (by decide)) (hW _ 12 0 ha0 (by decide) (by decide) (by decide)) (by decide))) hI.2.2.2.2.1), (IF.q (hU_4.2 _ (th_ne ha0 (hW _ 12 0 ha0 (by decide) (by decide) (by decide)) (by decide))) hI.2.2.2.2.2)⟩) lk_X12_269 yd_X12_clocks hT_8 ha0 rfl (by decide) hS_8 (fun q => (fun h => h.elim (fun h => (Or.inl h)) (fun h => (Or.inr h)))) ⟨by decide, by decide⟩ (Nat.le_of_ble_eq_true rfl) ⟨by decide, by decide⟩ rfl dX12_ticks_72 (fun H_41 locs_41 p_41 hT_41 hk_41 hS_41 => ?_)
      have p_41 : (IM D ρ N H_41 a0) ∧ ((ai H_4 (ρ a0 0) 976).toInt ≤ (ai H_41 (ρ a0 0) 976).toInt) := p_41
      obtain ⟨p_41_0, p_41_1⟩ := p_41
      have mn_41 : (ai H (ρ a0 0) 976).toInt ≤ (ai H_41 (ρ a0 0) 976).toInt := by have h := p_41_1; rw [(AU.o hU_4 (by decide) (by decide))] at h; exact h
      refine lv_iinc (v := 1) (lv' := [(1, .int 1), (0, .ref a0)]) hx hb dX12_ticks_75 hl (k := 0) rfl (by decide) (by decide) rfl (fun ls hl => ?_)
      refine lv_goto (tgt := 14) hx hb dX12_ticks_78 (by decide) ?_
      refine lv_iload_n hx hb dX12_ticks_14 rfl (lv_at hl 0 rfl) ?_
      refine lv_iconst (v := 2) hx hb dX12_ticks_15 (by decide) ?_
      refine lv_icmp_ge (tgt := 81) hx hb dX12_ticks_16 (by decide) (fun c_43 => absurd c_43 (by decide)) (fun c_43 => ?_)
      refine lv_aload_n hx hb dX12_ticks_19 rfl (lv_at hl 1 rfl) ?_
      refine lv_iload_n hx hb dX12_ticks_20 rfl (lv_at hl 0 rfl) ?_
      refine lv_bipush (v := 12) hx hb dX12_ticks_21 (by decide) ?_
      refine th_Vi (As := [.int 1, .int 12]) (rest := []) E hml hl.1 (y_get_v42 l D cI cS τ ρ hW H_41 hT_41 a0 ha0) lk_X12_99 yd_X12_get hT_41 ha0 rfl (by decide) hS_41 (fun _ h => h.elim) ⟨by decide, by decide⟩ (Nat.le_of_ble_eq_true rfl) ⟨by decide, by decide⟩ rfl dX12_ticks_23 (fun r_44 H_44 locs_44 p_44 hT_44 hk_44 hS_44 => ?_)
      have p_44 : H_41 = H_44 ∧ (ai H_41 (ρ a0 0) 300 = r_44) := p_44
      obtain ⟨rfl, p_44_0⟩ := p_44
      have c_r_44 := congrArg Int32.toInt p_44_0
      refine lv_if_le (tgt := 60) hx hb dX12_ticks_26 (by decide) (fun c_45 => ?_) (fun c_45 => ?_)
      · have f_45 : r_44.toInt ≤ 0 := r_le rfl (by decide) c_45
        refine lv_aload_n hx hb dX12_ticks_60 rfl (lv_at hl 1 rfl) ?_
        refine lv_iload_n hx hb dX12_ticks_61 rfl (lv_at hl 0 rfl) ?_
        refine lv_bipush (v := 11) hx hb dX12_ticks_62 (by decide) ?_
        refine th_Vi (As := [.int 1, .int 11]) (rest := []) E hml hl.1 (y_get_v39 l D cI cS τ ρ hW H_41 hT_44 a0 ha0) lk_X12_99 yd_X12_get hT_44 ha0 rfl (by decide) hS_44 (fun _ h => h.elim) ⟨by decide, by decide⟩ (Nat.le_of_ble_eq_true rfl) ⟨by decide, by decide⟩ rfl dX12_ticks_64 (fun r_46 H_46 locs_46 p_46 hT_46 hk_46 hS_46 => ?_)
        have p_46 : H_41 = H_46 ∧ (ai H_41 (ρ a0 0) 299 = r_46) := p_46
        obtain ⟨rfl, p_46_0⟩ := p_46
        have c_r_46 := congrArg Int32.toInt p_46_0
        refine lv_if_le (tgt := 75) hx hb dX12_ticks_67 (by decide) (fun c_47 => ?_) (fun c_47 => ?_)
        · have f_47 : r_46.toInt ≤ 0 := r_le rfl (by decide) c_47
          refine lv_iinc (v := 2) (lv' := [(1, .int 2), (0, .ref a0)]) hx hb dX12_ticks_75 hl (k := 0) rfl (by decide) (by decide) rfl (fun ls hl => ?_)
          refine lv_goto (tgt := 14) hx hb dX12_ticks_78 (by decide) ?_
          refine lv_iload_n hx hb dX12_ticks_14 rfl (lv_at hl 0 rfl) ?_
          refine lv_iconst (v := 2) hx hb dX12_ticks_15 (by decide) ?_
          refine lv_icmp_ge (tgt := 81) hx hb dX12_ticks_16 (by decide) (fun c_49 => ?_) (fun c_49 => absurd (by decide) c_49)
          exact th_vret E hr hlk hs hT_46 hS_46 ⟨p_41_0.1, p_41_0.2.1, p_41_0.2.2.1, p_41_0.2.2.2.1, p_41_0.2.2.2.2.1, p_41_0.2.2.2.2.2⟩ dX12_ticks_81
        · have f_47 : 0 < r_46.toInt := r_nle rfl (by decide) c_47
          refine lv_aload_n hx hb dX12_ticks_70 rfl (lv_at hl 1 rfl) ?_
          refine lv_iload_n hx hb dX12_ticks_71 rfl (lv_at hl 0 rfl) ?_
          refine th_Vv (As := [.int 1]) (rest := []) E hml hl.1 (y_clocks_v2 l D cI cS τ ρ hW H_41 hT_46 a0 ha0 N hN0 hN1 ⟨p_41_0.1, p_41_0.2.1, p_41_0.2.2.1, p_41_0.2.2.2.1, p_41_0.2.2.2.2.1, p_41_0.2.2.2.2.2⟩) lk_X12_269 yd_X12_clocks hT_46 ha0 rfl (by decide) hS_46 (fun q => (fun h => h.elim (fun h => (Or.inl h)) (fun h => (Or.inr h)))) ⟨by decide, by decide⟩ (Nat.le_of_ble_eq_true rfl) ⟨by decide, by decide⟩ rfl dX12_ticks_72 (fun H_50 locs_50 p_50 hT_50 hk_50 hS_50 => ?_)
          have p_50 : (IM D ρ N H_50 a0) ∧ ((ai H_41 (ρ a0 0) 976).toInt ≤ (ai H_50 (ρ a0 0) 976).toInt) := p_50
          obtain ⟨p_50_0, p_50_1⟩ := p_50
          have mn_50 : (ai H_41 (ρ a0 0) 976).toInt ≤ (ai H_50 (ρ a0 0) 976).toInt := by exact p_50_1
          refine lv_iinc (v := 2) (lv' := [(1, .int 2), (0, .ref a0)]) hx hb dX12_ticks_75 hl (k := 0) rfl (by decide) (by decide) rfl (fun ls hl => ?_)
          refine lv_goto (tgt := 14) hx hb dX12_ticks_78 (by decide) ?_
          refine lv_iload_n hx hb dX12_ticks_14 rfl (lv_at hl 0 rfl) ?_
          refine lv_iconst (v := 2) hx hb dX12_ticks_15 (by decide) ?_
          refine lv_icmp_ge (tgt := 81) hx hb dX12_ticks_16 (by decide) (fun c_52 => ?_) (fun c_52 => absurd (by decide) c_52)
          exact th_vret E hr hlk hs hT_50 hS_50 ⟨p_50_0.1, p_50_0.2.1, p_50_0.2.2.1, p_50_0.2.2.2.1, p_50_0.2.2.2.2.1, p_50_0.2.2.2.2.2⟩ dX12_ticks_81
      · have f_45 : 0 < r_44.toInt := r_nle rfl (by decide) c_45
        refine lv_aload_n hx hb dX12_ticks_29 rfl (lv_at hl 1 rfl) ?_
        refine lv_iload_n hx hb dX12_ticks_30 rfl (lv_at hl 0 rfl) ?_
        refine lv_bipush (v := 12) hx hb dX12_ticks_31 (by decide) ?_
        refine lv_aload_n hx hb dX12_ticks_33 rfl (lv_at hl 1 rfl) ?_
        refine lv_iload_n hx hb dX12_ticks_34 rfl (lv_at hl 0 rfl) ?_
        refine lv_bipush (v := 12) hx hb dX12_ticks_35 (by decide) ?_
        refine th_Vi (As := [.int 1, .int 12]) (rest := [.int 12, .int 1, .ref a0]) E hml hl.1 (y_get_v42 l D cI cS τ ρ hW H_41 hT_44 a0 ha0) lk_X12_99 yd_X12_get hT_44 ha0 rfl (by decide) hS_44 (fun _ h => h.elim) ⟨by decide, by decide⟩ (Nat.le_of_ble_eq_true rfl) ⟨by decide, by decide⟩ rfl dX12_ticks_37 (fun r_53 H_53 locs_53 p_53 hT_53 hk_53 hS_53 => ?_)
        have p_53 : H_41 = H_53 ∧ (ai H_41 (ρ a0 0) 300 = r_53) := p_53
        obtain ⟨rfl, p_53_0⟩ := p_53
        have s_53 : r_53 = r_44 := p_53_0.symm.trans p_44_0
        refine th_topi s_53 ?_
        refine lv_iconst (v := 1) hx hb dX12_ticks_40 (by decide) ?_
        refine lv_isub hx hb dX12_ticks_41 ?_
        refine lv_topi (fun x_54 ex_54 => ?_)
        refine th_Vv (As := [.int 1, .int 12, .int x_54]) (rest := []) E hml hl.1 (y_set_v60 l D cI cS τ ρ hW H_41 hT_53 a0 x_54 ha0) lk_X12_95 yd_X12_set hT_53 ha0 rfl (by decide) hS_53 (fun q h => (Or.inl h)) ⟨by decide, by decide⟩ (Nat.le_of_ble_eq_true rfl) ⟨by decide, by decide⟩ rfl dX12_ticks_42 (fun H_55 locs_55 p_55 hT_55 hk_55 hS_55 => ?_)
        have p_55 : (AU 985 H_41 H_55 (ρ a0 0) 300 x_54) := p_55
        have hW_55 : PW N H_55 (ρ a0 0) := PW.put p_41_0.1 p_55 (by show (-2147483648 : Int) ≤ _; exact i_min _) (by show _ ≤ (2147483647 : Int); exact i_max _)
        refine lv_aload_n hx hb dX12_ticks_45 rfl (lv_at hl 1 rfl) ?_
        refine lv_iload_n hx hb dX12_ticks_46 rfl (lv_at hl 0 rfl) ?_
        refine lv_bipush (v := 12) hx hb dX12_ticks_47 (by decide) ?_
        refine th_Vi (As := [.int 1, .int 12]) (rest := []) E hml hl.1 (y_get_v42 l D cI cS τ ρ hW H_55 hT_55 a0 ha0) lk_X12_99 yd_X12_get hT_55 ha0 rfl (by decide) hS_55 (fun _ h => h.elim) ⟨by decide, by decide⟩ (Nat.le_of_ble_eq_true rfl) ⟨by decide, by decide⟩ rfl dX12_ticks_49 (fun r_56 H_56 locs_56 p_56 hT_56 hk_56 hS_56 => ?_)
        have p_56 : H_55 = H_56 ∧ (ai H_55 (ρ a0 0) 300 = r_56) := p_56
        obtain ⟨rfl, p_56_0⟩ := p_56
        have s_56 : r_56 = x_54 := p_56_0.symm.trans (AU.s p_55 (by decide))
        refine th_topi s_56 ?_
        refine lv_if_ne (tgt := 60) hx hb dX12_ticks_52 (by decide) (fun c_57 => ?_) (fun c_57 => ?_)
        · have f_57 : ¬ x_54.toInt = 0 := r_ne rfl (by decide) c_57
          have nz_x_54 : ¬ x_54 = 0 := c_57
          refine lv_aload_n hx hb dX12_ticks_60 rfl (lv_at hl 1 rfl) ?_
          refine lv_iload_n hx hb dX12_ticks_61 rfl (lv_at hl 0 rfl) ?_
          refine lv_bipush (v := 11) hx hb dX12_ticks_62 (by decide) ?_
          refine th_Vi (As := [.int 1, .int 11]) (rest := []) E hml hl.1 (y_get_v39 l D cI cS τ ρ hW H_55 hT_56 a0 ha0) lk_X12_99 yd_X12_get hT_56 ha0 rfl (by decide) hS_56 (fun _ h => h.elim) ⟨by decide, by decide⟩ (Nat.le_of_ble_eq_true rfl) ⟨by decide, by decide⟩ rfl dX12_ticks_64 (fun r_58 H_58 locs_58 p_58 hT_58 hk_58 hS_58 => ?_)
          have p_58 : H_55 = H_58 ∧ (ai H_55 (ρ a0 0) 299 = r_58) := p_58
          obtain ⟨rfl, p_58_0⟩ := p_58
          have t_58 : ai H_41 (ρ a0 0) 299 = r_58 := (AU.o p_55 (by decide) (by decide)).symm.trans p_58_0
          have c_r_58 := congrArg Int32.toInt t_58
          refine lv_if_le (tgt := 75) hx hb dX12_ticks_67 (by decide) (fun c_59 => ?_) (fun c_59 => ?_)
          · have f_59 : r_58.toInt ≤ 0 := r_le rfl (by decide) c_59
            refine lv_iinc (v := 2) (lv' := [(1, .int 2), (0, .ref a0)]) hx hb dX12_ticks_75 hl (k := 0) rfl (by decide) (by decide) rfl (fun ls hl => ?_)
            refine lv_goto (tgt := 14) hx hb dX12_ticks_78 (by decide) ?_
            refine lv_iload_n hx hb dX12_ticks_14 rfl (lv_at hl 0 rfl) ?_
            refine lv_iconst (v := 2) hx hb dX12_ticks_15 (by decide) ?_
            refine lv_icmp_ge (tgt := 81) hx hb dX12_ticks_16 (by decide) (fun c_61 => ?_) (fun c_61 => absurd (by decide) c_61)
            exact th_vret E hr hlk hs hT_58 hS_58 ⟨hW_55, (QS.same (AU.o p_55 (by decide) (by decide)) (AU.o p_55 (by decide) (by decide)) p_41_0.2.1), (QS.same (AU.o p_55 (by decide) (by decide)) (AU.o p_55 (by decide) (by decide)) p_41_0.2.2.1), (PL.q (p_55.2 _ (th_ne (hW _ 12 2 ha0 (by decide) (by decide) (by decide)) (hW _ 12 0 ha0 (by decide) (by decide) (by decide)) (by decide))) p_41_0.2.2.2.1), (PL.q (p_55.2 _ (th_ne (hW _ 12 3 ha0 (by decide) (by decide) (by decide)) (hW _ 12 0 ha0 (by decide) (by decide) (by decide)) (by decide))) p_41_0.2.2.2.2.1), (IF.q (p_55.2 _ (th_ne ha0 (hW _ 12 0 ha0 (by decide) (by decide) (by decide)) (by decide))) p_41_0.2.2.2.2.2)⟩ dX12_ticks_81
          · have f_59 : 0 < r_58.toInt := r_nle rfl (by decide) c_59
            refine lv_aload_n hx hb dX12_ticks_70 rfl (lv_at hl 1 rfl) ?_
            refine lv_iload_n hx hb dX12_ticks_71 rfl (lv_at hl 0 rfl) ?_
            refine th_Vv (As := [.int 1]) (rest := []) E hml hl.1 (y_clocks_v2 l D cI cS τ ρ hW H_55 hT_58 a0 ha0 N hN0 hN1 ⟨hW_55, (QS.same (AU.o p_55 (by decide) (by decide)) (AU.o p_55 (by decide) (by decide)) p_41_0.2.1), (QS.same (AU.o p_55 (by decide) (by decide)) (AU.o p_55 (by decide) (by decide)) p_41_0.2.2.1), (PL.q (p_55.2 _ (th_ne (hW _ 12 2 ha0 (by decide) (by decide) (by decide)) (hW _ 12 0 ha0 (by decide) (by decide) (by decide)) (by decide))) p_41_0.2.2.2.1), (PL.q (p_55.2 _ (th_ne (hW _ 12 3 ha0 (by decide) (by decide) (by decide)) (hW _ 12 0 ha0 (by decide) (by decide) (by decide)) (by decide))) p_41_0.2.2.2.2.1), (IF.q (p_55.2 _ (th_ne ha0 (hW _ 12 0 ha0 (by decide) (by decide) (by decide)) (by decide))) p_41_0.2.2.2.2.2)⟩) lk_X12_269 yd_X12_clocks hT_58 ha0 rfl (by decide) hS_58 (fun q => (fun h => h.elim (fun h => (Or.inl h)) (fun h => (Or.inr h)))) ⟨by decide, by decide⟩ (Nat.le_of_ble_eq_true rfl) ⟨by decide, by decide⟩ rfl dX12_ticks_72 (fun H_62 locs_62 p_62 hT_62 hk_62 hS_62 => ?_)
            have p_62 : (IM D ρ N H_62 a0) ∧ ((ai H_55 (ρ a0 0) 976).toInt ≤ (ai H_62 (ρ a0 0) 976).toInt) := p_62
            obtain ⟨p_62_0, p_62_1⟩ := p_62
            have mn_62 : (ai H_41 (ρ a0 0) 976).toInt ≤ (ai H_62 (ρ a0 0) 976).toInt := by have h := p_62_1; rw [(AU.o p_55 (by decide) (by decide))] at h; exact h
            refine lv_iinc (v := 2) (lv' := [(1, .int 2), (0, .ref a0)]) hx hb dX12_ticks_75 hl (k := 0) rfl (by decide) (by decide) rfl (fun ls hl => ?_)
            refine lv_goto (tgt := 14) hx hb dX12_ticks_78 (by decide) ?_
            refine lv_iload_n hx hb dX12_ticks_14 rfl (lv_at hl 0 rfl) ?_
            refine lv_iconst (v := 2) hx hb dX12_ticks_15 (by decide) ?_
            refine lv_icmp_ge (tgt := 81) hx hb dX12_ticks_16 (by decide) (fun c_64 => ?_) (fun c_64 => absurd (by decide) c_64)
            exact th_vret E hr hlk hs hT_62 hS_62 ⟨p_62_0.1, p_62_0.2.1, p_62_0.2.2.1, p_62_0.2.2.2.1, p_62_0.2.2.2.2.1, p_62_0.2.2.2.2.2⟩ dX12_ticks_81
        · have f_57 : x_54.toInt = 0 := r_eq rfl (by decide) c_57
          refine lv_aload_n hx hb dX12_ticks_55 rfl (lv_at hl 1 rfl) ?_
          refine lv_iload_n hx hb dX12_ticks_56 rfl (lv_at hl 0 rfl) ?_
          refine th_Vv (As := [.int 1]) (rest := []) E hml hl.1 (y_shuts_v2 l D cI cS τ ρ hW H_55 hT_56 a0 ha0 N hN0 hN1 ⟨hW_55, (QS.same (AU.o p_55 (by decide) (by decide)) (AU.o p_55 (by decide) (by decide)) p_41_0.2.1), (QS.same (AU.o p_55 (by decide) (by decide)) (AU.o p_55 (by decide) (by decide)) p_41_0.2.2.1), (PL.q (p_55.2 _ (th_ne (hW _ 12 2 ha0 (by decide) (by decide) (by decide)) (hW _ 12 0 ha0 (by decide) (by decide) (by decide)) (by decide))) p_41_0.2.2.2.1), (PL.q (p_55.2 _ (th_ne (hW _ 12 3 ha0 (by decide) (by decide) (by decide)) (hW _ 12 0 ha0 (by decide) (by decide) (by decide)) (by decide))) p_41_0.2.2.2.2.1), (IF.q (p_55.2 _ (th_ne ha0 (hW _ 12 0 ha0 (by decide) (by decide) (by decide)) (by decide))) p_41_0.2.2.2.2.2)⟩) lk_X12_180 yd_X12_shuts hT_56 ha0 rfl (by decide) hS_56 (fun q h => (Or.inl h)) ⟨by decide, by decide⟩ (Nat.le_of_ble_eq_true rfl) ⟨by decide, by decide⟩ rfl dX12_ticks_57 (fun H_65 locs_65 p_65 hT_65 hk_65 hS_65 => ?_)
          have p_65 : (IM D ρ N H_65 a0) ∧ ((ai H_55 (ρ a0 0) 976).toInt ≤ (ai H_65 (ρ a0 0) 976).toInt) := p_65
          obtain ⟨p_65_0, p_65_1⟩ := p_65
          have mn_65 : (ai H_41 (ρ a0 0) 976).toInt ≤ (ai H_65 (ρ a0 0) 976).toInt := by have h := p_65_1; rw [(AU.o p_55 (by decide) (by decide))] at h; exact h
          refine lv_aload_n hx hb dX12_ticks_60 rfl (lv_at hl 1 rfl) ?_
          refine lv_iload_n hx hb dX12_ticks_61 rfl (lv_at hl 0 rfl) ?_
          refine lv_bipush (v := 11) hx hb dX12_ticks_62 (by decide) ?_
          refine th_Vi (As := [.int 1, .int 11]) (rest := []) E hml hl.1 (y_get_v39 l D cI cS τ ρ hW H_65 hT_65 a0 ha0) lk_X12_99 yd_X12_get hT_65 ha0 rfl (by decide) hS_65 (fun _ h => h.elim) ⟨by decide, by decide⟩ (Nat.le_of_ble_eq_true rfl) ⟨by decide, by decide⟩ rfl dX12_ticks_64 (fun r_66 H_66 locs_66 p_66 hT_66 hk_66 hS_66 => ?_)
          have p_66 : H_65 = H_66 ∧ (ai H_65 (ρ a0 0) 299 = r_66) := p_66
          obtain ⟨rfl, p_66_0⟩ := p_66
          have c_r_66 := congrArg Int32.toInt p_66_0
          refine lv_if_le (tgt := 75) hx hb dX12_ticks_67 (by decide) (fun c_67 => ?_) (fun c_67 => ?_)
          · have f_67 : r_66.toInt ≤ 0 := r_le rfl (by decide) c_67
            refine lv_iinc (v := 2) (lv' := [(1, .int 2), (0, .ref a0)]) hx hb dX12_ticks_75 hl (k := 0) rfl (by decide) (by decide) rfl (fun ls hl => ?_)
            refine lv_goto (tgt := 14) hx hb dX12_ticks_78 (by decide) ?_
            refine lv_iload_n hx hb dX12_ticks_14 rfl (lv_at hl 0 rfl) ?_
            refine lv_iconst (v := 2) hx hb dX12_ticks_15 (by decide) ?_
            refine lv_icmp_ge (tgt := 81) hx hb dX12_ticks_16 (by decide) (fun c_69 => ?_) (fun c_69 => absurd (by decide) c_69)
            exact th_vret E hr hlk hs hT_66 hS_66 ⟨p_65_0.1, p_65_0.2.1, p_65_0.2.2.1, p_65_0.2.2.2.1, p_65_0.2.2.2.2.1, p_65_0.2.2.2.2.2⟩ dX12_ticks_81
          · have f_67 : 0 < r_66.toInt := r_nle rfl (by decide) c_67
            refine lv_aload_n hx hb dX12_ticks_70 rfl (lv_at hl 1 rfl) ?_
            refine lv_iload_n hx hb dX12_ticks_71 rfl (lv_at hl 0 rfl) ?_
            refine th_Vv (As := [.int 1]) (rest := []) E hml hl.1 (y_clocks_v2 l D cI cS τ ρ hW H_65 hT_66 a0 ha0 N hN0 hN1 ⟨p_65_0.1, p_65_0.2.1, p_65_0.2.2.1, p_65_0.2.2.2.1, p_65_0.2.2.2.2.1, p_65_0.2.2.2.2.2⟩) lk_X12_269 yd_X12_clocks hT_66 ha0 rfl (by decide) hS_66 (fun q => (fun h => h.elim (fun h => (Or.inl h)) (fun h => (Or.inr h)))) ⟨by decide, by decide⟩ (Nat.le_of_ble_eq_true rfl) ⟨by decide, by decide⟩ rfl dX12_ticks_72 (fun H_70 locs_70 p_70 hT_70 hk_70 hS_70 => ?_)
            have p_70 : (IM D ρ N H_70 a0) ∧ ((ai H_65 (ρ a0 0) 976).toInt ≤ (ai H_70 (ρ a0 0) 976).toInt) := p_70
            obtain ⟨p_70_0, p_70_1⟩ := p_70
            have mn_70 : (ai H_65 (ρ a0 0) 976).toInt ≤ (ai H_70 (ρ a0 0) 976).toInt := by exact p_70_1
            refine lv_iinc (v := 2) (lv' := [(1, .int 2), (0, .ref a0)]) hx hb dX12_ticks_75 hl (k := 0) rfl (by decide) (by decide) rfl (fun ls hl => ?_)
            refine lv_goto (tgt := 14) hx hb dX12_ticks_78 (by decide) ?_
            refine lv_iload_n hx hb dX12_ticks_14 rfl (lv_at hl 0 rfl) ?_
            refine lv_iconst (v := 2) hx hb dX12_ticks_15 (by decide) ?_
            refine lv_icmp_ge (tgt := 81) hx hb dX12_ticks_16 (by decide) (fun c_72 => ?_) (fun c_72 => absurd (by decide) c_72)
            exact th_vret E hr hlk hs hT_70 hS_70 ⟨p_70_0.1, p_70_0.2.1, p_70_0.2.2.1, p_70_0.2.2.2.1, p_70_0.2.2.2.2.1, p_70_0.2.2.2.2.2⟩ dX12_ticks_81
  · have f_7 : 0 < r_6.toInt := r_nle rfl (by decide) c_7
    refine lv_aload_n hx hb dX12_ticks_29 rfl (lv_at hl 1 rfl) ?_
    refine lv_iload_n hx hb dX12_ticks_30 rfl (lv_at hl 0 rfl) ?_
    refine lv_bipush (v := 12) hx hb dX12_ticks_31 (by decide) ?_
    refine lv_aload_n hx hb dX12_ticks_33 rfl (lv_at hl 1 rfl) ?_
    refine lv_iload_n hx hb dX12_ticks_34 rfl (lv_at hl 0 rfl) ?_
    refine lv_bipush (v := 12) hx hb dX12_ticks_35 (by decide) ?_
    refine th_Vi (As := [.int 0, .int 12]) (rest := [.int 12, .int 0, .ref a0]) E hml hl.1 (y_get_v41 l D cI cS τ ρ hW H_4 hT_6 a0 ha0) lk_X12_99 yd_X12_get hT_6 ha0 rfl (by decide) hS_6 (fun _ h => h.elim) ⟨by decide, by decide⟩ (Nat.le_of_ble_eq_true rfl) ⟨by decide, by decide⟩ rfl dX12_ticks_37 (fun r_73 H_73 locs_73 p_73 hT_73 hk_73 hS_73 => ?_)
    have p_73 : H_4 = H_73 ∧ (ai H_4 (ρ a0 0) 12 = r_73) := p_73
    obtain ⟨rfl, p_73_0⟩ := p_73
    have s_73 : r_73 = r_6 := p_73_0.symm.trans ((AU.o hU_4 (by decide) (by decide)).trans t_6)
    refine th_topi s_73 ?_
    refine lv_iconst (v := 1) hx hb dX12_ticks_40 (by decide) ?_
    refine lv_isub hx hb dX12_ticks_41 ?_
    refine lv_topi (fun x_74 ex_74 => ?_)
    refine th_Vv (As := [.int 0, .int 12, .int x_74]) (rest := []) E hml hl.1 (y_set_v36 l D cI cS τ ρ hW H_4 hT_73 a0 x_74 ha0) lk_X12_95 yd_X12_set hT_73 ha0 rfl (by decide) hS_73 (fun q h => (Or.inl h)) ⟨by decide, by decide⟩ (Nat.le_of_ble_eq_true rfl) ⟨by decide, by decide⟩ rfl dX12_ticks_42 (fun H_75 locs_75 p_75 hT_75 hk_75 hS_75 => ?_)
    have p_75 : (AU 985 H_4 H_75 (ρ a0 0) 12 x_74) := p_75
    have hW_75 : PW N H_75 (ρ a0 0) := PW.put hW_4 p_75 (by show (-2147483648 : Int) ≤ _; exact i_min _) (by show _ ≤ (2147483647 : Int); exact i_max _)
    refine lv_aload_n hx hb dX12_ticks_45 rfl (lv_at hl 1 rfl) ?_
    refine lv_iload_n hx hb dX12_ticks_46 rfl (lv_at hl 0 rfl) ?_
    refine lv_bipush (v := 12) hx hb dX12_ticks_47 (by decide) ?_
    refine th_Vi (As := [.int 0, .int 12]) (rest := []) E hml hl.1 (y_get_v41 l D cI cS τ ρ hW H_75 hT_75 a0 ha0) lk_X12_99 yd_X12_get hT_75 ha0 rfl (by decide) hS_75 (fun _ h => h.elim) ⟨by decide, by decide⟩ (Nat.le_of_ble_eq_true rfl) ⟨by decide, by decide⟩ rfl dX12_ticks_49 (fun r_76 H_76 locs_76 p_76 hT_76 hk_76 hS_76 => ?_)
    have p_76 : H_75 = H_76 ∧ (ai H_75 (ρ a0 0) 12 = r_76) := p_76
    obtain ⟨rfl, p_76_0⟩ := p_76
    have s_76 : r_76 = x_74 := p_76_0.symm.trans (AU.s p_75 (by decide))
    refine th_topi s_76 ?_
    refine lv_if_ne (tgt := 60) hx hb dX12_ticks_52 (by decide) (fun c_77 => ?_) (fun c_77 => ?_)
    · have f_77 : ¬ x_74.toInt = 0 := r_ne rfl (by decide) c_77
      have nz_x_74 : ¬ x_74 = 0 := c_77
      refine lv_aload_n hx hb dX12_ticks_60 rfl (lv_at hl 1 rfl) ?_
      refine lv_iload_n hx hb dX12_ticks_61 rfl (lv_at hl 0 rfl) ?_
      refine lv_bipush (v := 11) hx hb dX12_ticks_62 (by decide) ?_
      refine th_Vi (As := [.int 0, .int 11]) (rest := []) E hml hl.1 (y_get_v36 l D cI cS τ ρ hW H_75 hT_76 a0 ha0) lk_X12_99 yd_X12_get hT_76 ha0 rfl (by decide) hS_76 (fun _ h => h.elim) ⟨by decide, by decide⟩ (Nat.le_of_ble_eq_true rfl) ⟨by decide, by decide⟩ rfl dX12_ticks_64 (fun r_78 H_78 locs_78 p_78 hT_78 hk_78 hS_78 => ?_)
      have p_78 : H_75 = H_78 ∧ (ai H_75 (ρ a0 0) 11 = r_78) := p_78
      obtain ⟨rfl, p_78_0⟩ := p_78
      have t_78 : ai H (ρ a0 0) 11 = r_78 := (Eq.trans (AU.o p_75 (by decide) (by decide)) (AU.o hU_4 (by decide) (by decide))).symm.trans p_78_0
      have c_r_78 := congrArg Int32.toInt t_78
      refine lv_if_le (tgt := 75) hx hb dX12_ticks_67 (by decide) (fun c_79 => ?_) (fun c_79 => ?_)
      · have f_79 : r_78.toInt ≤ 0 := r_le rfl (by decide) c_79
        refine lv_iinc (v := 1) (lv' := [(1, .int 1), (0, .ref a0)]) hx hb dX12_ticks_75 hl (k := 0) rfl (by decide) (by decide) rfl (fun ls hl => ?_)
        refine lv_goto (tgt := 14) hx hb dX12_ticks_78 (by decide) ?_
        refine lv_iload_n hx hb dX12_ticks_14 rfl (lv_at hl 0 rfl) ?_
        refine lv_iconst (v := 2) hx hb dX12_ticks_15 (by decide) ?_
        refine lv_icmp_ge (tgt := 81) hx hb dX12_ticks_16 (by decide) (fun c_81 => absurd c_81 (by decide)) (fun c_81 => ?_)
        refine lv_aload_n hx hb dX12_ticks_19 rfl (lv_at hl 1 rfl) ?_
        refine lv_iload_n hx hb dX12_ticks_20 rfl (lv_at hl 0 rfl) ?_
        refine lv_bipush (v := 12) hx hb dX12_ticks_21 (by decide) ?_
        refine th_Vi (As := [.int 1, .int 12]) (rest := []) E hml hl.1 (y_get_v42 l D cI cS τ ρ hW H_75 hT_78 a0 ha0) lk_X12_99 yd_X12_get hT_78 ha0 rfl (by decide) hS_78 (fun _ h => h.elim) ⟨by decide, by decide⟩ (Nat.le_of_ble_eq_true rfl) ⟨by decide, by decide⟩ rfl dX12_ticks_23 (fun r_82 H_82 locs_82 p_82 hT_82 hk_82 hS_82 => ?_)
        have p_82 : H_75 = H_82 ∧ (ai H_75 (ρ a0 0) 300 = r_82) := p_82
        obtain ⟨rfl, p_82_0⟩ := p_82
        have t_82 : ai H (ρ a0 0) 300 = r_82 := (Eq.trans (AU.o p_75 (by decide) (by decide)) (AU.o hU_4 (by decide) (by decide))).symm.trans p_82_0
        have c_r_82 := congrArg Int32.toInt t_82
        refine lv_if_le (tgt := 60) hx hb dX12_ticks_26 (by decide) (fun c_83 => ?_) (fun c_83 => ?_)
        · have f_83 : r_82.toInt ≤ 0 := r_le rfl (by decide) c_83
          refine lv_aload_n hx hb dX12_ticks_60 rfl (lv_at hl 1 rfl) ?_
          refine lv_iload_n hx hb dX12_ticks_61 rfl (lv_at hl 0 rfl) ?_
          refine lv_bipush (v := 11) hx hb dX12_ticks_62 (by decide) ?_
          refine th_Vi (As := [.int 1, .int 11]) (rest := []) E hml hl.1 (y_get_v39 l D cI cS τ ρ hW H_75 hT_82 a0 ha0) lk_X12_99 yd_X12_get hT_82 ha0 rfl (by decide) hS_82 (fun _ h => h.elim) ⟨by decide, by decide⟩ (Nat.le_of_ble_eq_true rfl) ⟨by decide, by decide⟩ rfl dX12_ticks_64 (fun r_84 H_84 locs_84 p_84 hT_84 hk_84 hS_84 => ?_)
          have p_84 : H_75 = H_84 ∧ (ai H_75 (ρ a0 0) 299 = r_84) := p_84
          obtain ⟨rfl, p_84_0⟩ := p_84
          have t_84 : ai H (ρ a0 0) 299 = r_84 := (Eq.trans (AU.o p_75 (by decide) (by decide)) (AU.o hU_4 (by decide) (by decide))).symm.trans p_84_0
          have c_r_84 := congrArg Int32.toInt t_84
          refine lv_if_le (tgt := 75) hx hb dX12_ticks_67 (by decide) (fun c_85 => ?_) (fun c_85 => ?_)
          · have f_85 : r_84.toInt ≤ 0 := r_le rfl (by decide) c_85
            refine lv_iinc (v := 2) (lv' := [(1, .int 2), (0, .ref a0)]) hx hb dX12_ticks_75 hl (k := 0) rfl (by decide) (by decide) rfl (fun ls hl => ?_)
            refine lv_goto (tgt := 14) hx hb dX12_ticks_78 (by decide) ?_
            refine lv_iload_n hx hb dX12_ticks_14 rfl (lv_at hl 0 rfl) ?_
            refine lv_iconst (v := 2) hx hb dX12_ticks_15 (by decide) ?_
            refine lv_icmp_ge (tgt := 81) hx hb dX12_ticks_16 (by decide) (fun c_87 => ?_) (fun c_87 => absurd (by decide) c_87)
            exact th_vret E hr hlk hs hT_84 hS_84 ⟨hW_75, (QS.same (Eq.trans (AU.o p_75 (by decide) (by decide)) (AU.o hU_4 (by decide) (by decide))) (Eq.trans (AU.o p_75 (by decide) (by decide)) (AU.o hU_4 (by decide) (by decide))) hI.2.1), (QS.same (Eq.trans (AU.o p_75 (by decide) (by decide)) (AU.o hU_4 (by decide) (by decide))) (Eq.trans (AU.o p_75 (by decide) (by decide)) (AU.o hU_4 (by decide) (by decide))) hI.2.2.1), (PL.q (p_75.2 _ (th_ne (hW _ 12 2 ha0 (by decide) (by decide) (by decide)) (hW _ 12 0 ha0 (by decide) (by decide) (by decide)) (by decide))) (PL.q (hU_4.2 _ (th_ne (hW _ 12 2 ha0 (by decide) (by decide) (by decide)) (hW _ 12 0 ha0 (by decide) (by decide) (by decide)) (by decide))) hI.2.2.2.1)), (PL.q (p_75.2 _ (th_ne (hW _ 12 3 ha0 (by decide) (by decide) (by decide)) (hW _ 12 0 ha0 (by decide) (by decide) (by decide)) (by decide))) (PL.q (hU_4.2 _ (th_ne (hW _ 12 3 ha0 (by decide) (by decide) (by decide)) (hW _ 12 0 ha0 (by decide) (by decide) (by decide)) (by decide))) hI.2.2.2.2.1)), (IF.q (p_75.2 _ (th_ne ha0 (hW _ 12 0 ha0 (by decide) (by decide) (by decide)) (by decide))) (IF.q (hU_4.2 _ (th_ne ha0 (hW _ 12 0 ha0 (by decide) (by decide) (by decide)) (by decide))) hI.2.2.2.2.2))⟩ dX12_ticks_81
          · have f_85 : 0 < r_84.toInt := r_nle rfl (by decide) c_85
            refine lv_aload_n hx hb dX12_ticks_70 rfl (lv_at hl 1 rfl) ?_
            refine lv_iload_n hx hb dX12_ticks_71 rfl (lv_at hl 0 rfl) ?_
            refine th_Vv (As := [.int 1]) (rest := []) E hml hl.1 (y_clocks_v2 l D cI cS τ ρ hW H_75 hT_84 a0 ha0 N hN0 hN1 ⟨hW_75, (QS.same (Eq.trans (AU.o p_75 (by decide) (by decide)) (AU.o hU_4 (by decide) (by decide))) (Eq.trans (AU.o p_75 (by decide) (by decide)) (AU.o hU_4 (by decide) (by decide))) hI.2.1), (QS.same (Eq.trans (AU.o p_75 (by decide) (by decide)) (AU.o hU_4 (by decide) (by decide))) (Eq.trans (AU.o p_75 (by decide) (by decide)) (AU.o hU_4 (by decide) (by decide))) hI.2.2.1), (PL.q (p_75.2 _ (th_ne (hW _ 12 2 ha0 (by decide) (by decide) (by decide)) (hW _ 12 0 ha0 (by decide) (by decide) (by decide)) (by decide))) (PL.q (hU_4.2 _ (th_ne (hW _ 12 2 ha0 (by decide) (by decide) (by decide)) (hW _ 12 0 ha0 (by decide) (by decide) (by decide)) (by decide))) hI.2.2.2.1)), (PL.q (p_75.2 _ (th_ne (hW _ 12 3 ha0 (by decide) (by decide) (by decide)) (hW _ 12 0 ha0 (by decide) (by decide) (by decide)) (by decide))) (PL.q (hU_4.2 _ (th_ne (hW _ 12 3 ha0 (by decide) (by decide) (by decide)) (hW _ 12 0 ha0 (by decide) (by decide) (by decide)) (by decide))) hI.2.2.2.2.1)), (IF.q (p_75.2 _ (th_ne ha0 (hW _ 12 0 ha0 (by decide) (by decide) (by decide)) (by decide))) (IF.q (hU_4.2 _ (th_ne ha0 (hW _ 12 0 ha0 (by decide) (by decide) (by decide)) (by decide))) hI.2.2.2.2.2))⟩) lk_X12_269 yd_X12_clocks hT_84 ha0 rfl (by decide) hS_84 (fun q => (fun h => h.elim (fun h => (Or.inl h)) (fun h => (Or.inr h)))) ⟨by decide, by decide⟩ (Nat.le_of_ble_eq_true rfl) ⟨by decide, by decide⟩ rfl dX12_ticks_72 (fun H_88 locs_88 p_88 hT_88 hk_88 hS_88 => ?_)
            have p_88 : (IM D ρ N H_88 a0) ∧ ((ai H_75 (ρ a0 0) 976).toInt ≤ (ai H_88 (ρ a0 0) 976).toInt) := p_88
            obtain ⟨p_88_0, p_88_1⟩ := p_88
            have mn_88 : (ai H (ρ a0 0) 976).toInt ≤ (ai H_88 (ρ a0 0) 976).toInt := by have h := p_88_1; rw [(Eq.trans (AU.o p_75 (by decide) (by decide)) (AU.o hU_4 (by decide) (by decide)))] at h; exact h
            refine lv_iinc (v := 2) (lv' := [(1, .int 2), (0, .ref a0)]) hx hb dX12_ticks_75 hl (k := 0) rfl (by decide) (by decide) rfl (fun ls hl => ?_)
            refine lv_goto (tgt := 14) hx hb dX12_ticks_78 (by decide) ?_
            refine lv_iload_n hx hb dX12_ticks_14 rfl (lv_at hl 0 rfl) ?_
            refine lv_iconst (v := 2) hx hb dX12_ticks_15 (by decide) ?_
            refine lv_icmp_ge (tgt := 81) hx hb dX12_ticks_16 (by decide) (fun c_90 => ?_) (fun c_90 => absurd (by decide) c_90)
            exact th_vret E hr hlk hs hT_88 hS_88 ⟨p_88_0.1, p_88_0.2.1, p_88_0.2.2.1, p_88_0.2.2.2.1, p_88_0.2.2.2.2.1, p_88_0.2.2.2.2.2⟩ dX12_ticks_81
        · have f_83 : 0 < r_82.toInt := r_nle rfl (by decide) c_83
          refine lv_aload_n hx hb dX12_ticks_29 rfl (lv_at hl 1 rfl) ?_
          refine lv_iload_n hx hb dX12_ticks_30 rfl (lv_at hl 0 rfl) ?_
          refine lv_bipush (v := 12) hx hb dX12_ticks_31 (by decide) ?_
          refine lv_aload_n hx hb dX12_ticks_33 rfl (lv_at hl 1 rfl) ?_
          refine lv_iload_n hx hb dX12_ticks_34 rfl (lv_at hl 0 rfl) ?_
          refine lv_bipush (v := 12) hx hb dX12_ticks_35 (by decide) ?_
          refine th_Vi (As := [.int 1, .int 12]) (rest := [.int 12, .int 1, .ref a0]) E hml hl.1 (y_get_v42 l D cI cS τ ρ hW H_75 hT_82 a0 ha0) lk_X12_99 yd_X12_get hT_82 ha0 rfl (by decide) hS_82 (fun _ h => h.elim) ⟨by decide, by decide⟩ (Nat.le_of_ble_eq_true rfl) ⟨by decide, by decide⟩ rfl dX12_ticks_37 (fun r_91 H_91 locs_91 p_91 hT_91 hk_91 hS_91 => ?_)
          have p_91 : H_75 = H_91 ∧ (ai H_75 (ρ a0 0) 300 = r_91) := p_91
          obtain ⟨rfl, p_91_0⟩ := p_91
          have s_91 : r_91 = r_82 := p_91_0.symm.trans ((Eq.trans (AU.o p_75 (by decide) (by decide)) (AU.o hU_4 (by decide) (by decide))).trans t_82)
          refine th_topi s_91 ?_
          refine lv_iconst (v := 1) hx hb dX12_ticks_40 (by decide) ?_
          refine lv_isub hx hb dX12_ticks_41 ?_
          refine lv_topi (fun x_92 ex_92 => ?_)
          refine th_Vv (As := [.int 1, .int 12, .int x_92]) (rest := []) E hml hl.1 (y_set_v60 l D cI cS τ ρ hW H_75 hT_91 a0 x_92 ha0) lk_X12_95 yd_X12_set hT_91 ha0 rfl (by decide) hS_91 (fun q h => (Or.inl h)) ⟨by decide, by decide⟩ (Nat.le_of_ble_eq_true rfl) ⟨by decide, by decide⟩ rfl dX12_ticks_42 (fun H_93 locs_93 p_93 hT_93 hk_93 hS_93 => ?_)
          have p_93 : (AU 985 H_75 H_93 (ρ a0 0) 300 x_92) := p_93
          have hW_93 : PW N H_93 (ρ a0 0) := PW.put hW_75 p_93 (by show (-2147483648 : Int) ≤ _; exact i_min _) (by show _ ≤ (2147483647 : Int); exact i_max _)
          refine lv_aload_n hx hb dX12_ticks_45 rfl (lv_at hl 1 rfl) ?_
          refine lv_iload_n hx hb dX12_ticks_46 rfl (lv_at hl 0 rfl) ?_
          refine lv_bipush (v := 12) hx hb dX12_ticks_47 (by decide) ?_
          refine th_Vi (As := [.int 1, .int 12]) (rest := []) E hml hl.1 (y_get_v42 l D cI cS τ ρ hW H_93 hT_93 a0 ha0) lk_X12_99 yd_X12_get hT_93 ha0 rfl (by decide) hS_93 (fun _ h => h.elim) ⟨by decide, by decide⟩ (Nat.le_of_ble_eq_true rfl) ⟨by decide, by decide⟩ rfl dX12_ticks_49 (fun r_94 H_94 locs_94 p_94 hT_94 hk_94 hS_94 => ?_)
          have p_94 : H_93 = H_94 ∧ (ai H_93 (ρ a0 0) 300 = r_94) := p_94
          obtain ⟨rfl, p_94_0⟩ := p_94
          have s_94 : r_94 = x_92 := p_94_0.symm.trans (AU.s p_93 (by decide))
          refine th_topi s_94 ?_
          refine lv_if_ne (tgt := 60) hx hb dX12_ticks_52 (by decide) (fun c_95 => ?_) (fun c_95 => ?_)
          · have f_95 : ¬ x_92.toInt = 0 := r_ne rfl (by decide) c_95
            have nz_x_92 : ¬ x_92 = 0 := c_95
            refine lv_aload_n hx hb dX12_ticks_60 rfl (lv_at hl 1 rfl) ?_
            refine lv_iload_n hx hb dX12_ticks_61 rfl (lv_at hl 0 rfl) ?_
            refine lv_bipush (v := 11) hx hb dX12_ticks_62 (by decide) ?_
            refine th_Vi (As := [.int 1, .int 11]) (rest := []) E hml hl.1 (y_get_v39 l D cI cS τ ρ hW H_93 hT_94 a0 ha0) lk_X12_99 yd_X12_get hT_94 ha0 rfl (by decide) hS_94 (fun _ h => h.elim) ⟨by decide, by decide⟩ (Nat.le_of_ble_eq_true rfl) ⟨by decide, by decide⟩ rfl dX12_ticks_64 (fun r_96 H_96 locs_96 p_96 hT_96 hk_96 hS_96 => ?_)
            have p_96 : H_93 = H_96 ∧ (ai H_93 (ρ a0 0) 299 = r_96) := p_96
            obtain ⟨rfl, p_96_0⟩ := p_96
            have t_96 : ai H (ρ a0 0) 299 = r_96 := (Eq.trans (AU.o p_93 (by decide) (by decide)) (Eq.trans (AU.o p_75 (by decide) (by decide)) (AU.o hU_4 (by decide) (by decide)))).symm.trans p_96_0
            have c_r_96 := congrArg Int32.toInt t_96
            refine lv_if_le (tgt := 75) hx hb dX12_ticks_67 (by decide) (fun c_97 => ?_) (fun c_97 => ?_)
            · have f_97 : r_96.toInt ≤ 0 := r_le rfl (by decide) c_97
              refine lv_iinc (v := 2) (lv' := [(1, .int 2), (0, .ref a0)]) hx hb dX12_ticks_75 hl (k := 0) rfl (by decide) (by decide) rfl (fun ls hl => ?_)
              refine lv_goto (tgt := 14) hx hb dX12_ticks_78 (by decide) ?_
              refine lv_iload_n hx hb dX12_ticks_14 rfl (lv_at hl 0 rfl) ?_
              refine lv_iconst (v := 2) hx hb dX12_ticks_15 (by decide) ?_
              refine lv_icmp_ge (tgt := 81) hx hb dX12_ticks_16 (by decide) (fun c_99 => ?_) (fun c_99 => absurd (by decide) c_99)
              exact th_vret E hr hlk hs hT_96 hS_96 ⟨hW_93, (QS.same (Eq.trans (AU.o p_93 (by decide) (by decide)) (Eq.trans (AU.o p_75 (by decide) (by decide)) (AU.o hU_4 (by decide) (by decide)))) (Eq.trans (AU.o p_93 (by decide) (by decide)) (Eq.trans (AU.o p_75 (by decide) (by decide)) (AU.o hU_4 (by decide) (by decide)))) hI.2.1), (QS.same (Eq.trans (AU.o p_93 (by decide) (by decide)) (Eq.trans (AU.o p_75 (by decide) (by decide)) (AU.o hU_4 (by decide) (by decide)))) (Eq.trans (AU.o p_93 (by decide) (by decide)) (Eq.trans (AU.o p_75 (by decide) (by decide)) (AU.o hU_4 (by decide) (by decide)))) hI.2.2.1), (PL.q (p_93.2 _ (th_ne (hW _ 12 2 ha0 (by decide) (by decide) (by decide)) (hW _ 12 0 ha0 (by decide) (by decide) (by decide)) (by decide))) (PL.q (p_75.2 _ (th_ne (hW _ 12 2 ha0 (by decide) (by decide) (by decide)) (hW _ 12 0 ha0 (by decide) (by decide) (by decide)) (by decide))) (PL.q (hU_4.2 _ (th_ne (hW _ 12 2 ha0 (by decide) (by decide) (by decide)) (hW _ 12 0 ha0 (by decide) (by decide) (by decide)) (by decide))) hI.2.2.2.1))), (PL.q (p_93.2 _ (th_ne (hW _ 12 3 ha0 (by decide) (by decide) (by decide)) (hW _ 12 0 ha0 (by decide) (by decide) (by decide)) (by decide))) (PL.q (p_75.2 _ (th_ne (hW _ 12 3 ha0 (by decide) (by decide) (by decide)) (hW _ 12 0 ha0 (by decide) (by decide) (by decide)) (by decide))) (PL.q (hU_4.2 _ (th_ne (hW _ 12 3 ha0 (by decide) (by decide) (by decide)) (hW _ 12 0 ha0 (by decide) (by decide) (by decide)) (by decide))) hI.2.2.2.2.1))), (IF.q (p_93.2 _ (th_ne ha0 (hW _ 12 0 ha0 (by decide) (by decide) (by decide)) (by decide))) (IF.q (p_75.2 _ (th_ne ha0 (hW _ 12 0 ha0 (by decide) (by decide) (by decide)) (by decide))) (IF.q (hU_4.2 _ (th_ne ha0 (hW _ 12 0 ha0 (by decide) (by decide) (by decide)) (by decide))) hI.2.2.2.2.2)))⟩ dX12_ticks_81
            · have f_97 : 0 < r_96.toInt := r_nle rfl (by decide) c_97
              refine lv_aload_n hx hb dX12_ticks_70 rfl (lv_at hl 1 rfl) ?_
              refine lv_iload_n hx hb dX12_ticks_71 rfl (lv_at hl 0 rfl) ?_
              refine th_Vv (As := [.int 1]) (rest := []) E hml hl.1 (y_clocks_v2 l D cI cS τ ρ hW H_93 hT_96 a0 ha0 N hN0 hN1 ⟨hW_93, (QS.same (Eq.trans (AU.o p_93 (by decide) (by decide)) (Eq.trans (AU.o p_75 (by decide) (by decide)) (AU.o hU_4 (by decide) (by decide)))) (Eq.trans (AU.o p_93 (by decide) (by decide)) (Eq.trans (AU.o p_75 (by decide) (by decide)) (AU.o hU_4 (by decide) (by decide)))) hI.2.1), (QS.same (Eq.trans (AU.o p_93 (by decide) (by decide)) (Eq.trans (AU.o p_75 (by decide) (by decide)) (AU.o hU_4 (by decide) (by decide)))) (Eq.trans (AU.o p_93 (by decide) (by decide)) (Eq.trans (AU.o p_75 (by decide) (by decide)) (AU.o hU_4 (by decide) (by decide)))) hI.2.2.1), (PL.q (p_93.2 _ (th_ne (hW _ 12 2 ha0 (by decide) (by decide) (by decide)) (hW _ 12 0 ha0 (by decide) (by decide) (by decide)) (by decide))) (PL.q (p_75.2 _ (th_ne (hW _ 12 2 ha0 (by decide) (by decide) (by decide)) (hW _ 12 0 ha0 (by decide) (by decide) (by decide)) (by decide))) (PL.q (hU_4.2 _ (th_ne (hW _ 12 2 ha0 (by decide) (by decide) (by decide)) (hW _ 12 0 ha0 (by decide) (by decide) (by decide)) (by decide))) hI.2.2.2.1))), (PL.q (p_93.2 _ (th_ne (hW _ 12 3 ha0 (by decide) (by decide) (by decide)) (hW _ 12 0 ha0 (by decide) (by decide) (by decide)) (by decide))) (PL.q (p_75.2 _ (th_ne (hW _ 12 3 ha0 (by decide) (by decide) (by decide)) (hW _ 12 0 ha0 (by decide) (by decide) (by decide)) (by decide))) (PL.q (hU_4.2 _ (th_ne (hW _ 12 3 ha0 (by decide) (by decide) (by decide)) (hW _ 12 0 ha0 (by decide) (by decide) (by decide)) (by decide))) hI.2.2.2.2.1))), (IF.q (p_93.2 _ (th_ne ha0 (hW _ 12 0 ha0 (by decide) (by decide) (by decide)) (by decide))) (IF.q (p_75.2 _ (th_ne ha0 (hW _ 12 0 ha0 (by decide) (by decide) (by decide)) (by decide))) (IF.q (hU_4.2 _ (th_ne ha0 (hW _ 12 0 ha0 (by decide) (by decide) (by decide)) (by decide))) hI.2.2.2.2.2)))⟩) lk_X12_269 yd_X12_clocks hT_96 ha0 rfl (by decide) hS_96 (fun q => (fun h => h.elim (fun h => (Or.inl h)) (fun h => (Or.inr h)))) ⟨by decide, by decide⟩ (Nat.le_of_ble_eq_true rfl) ⟨by decide, by decide⟩ rfl dX12_ticks_72 (fun H_100 locs_100 p_100 hT_100 hk_100 hS_100 => ?_)
              have p_100 : (IM D ρ N H_100 a0) ∧ ((ai H_93 (ρ a0 0) 976).toInt ≤ (ai H_100 (ρ a0 0) 976).toInt) := p_100
              obtain ⟨p_100_0, p_100_1⟩ := p_100
              have mn_100 : (ai H (ρ a0 0) 976).toInt ≤ (ai H_100 (ρ a0 0) 976).toInt := by have h := p_100_1; rw [(Eq.trans (AU.o p_93 (by decide) (by decide)) (Eq.trans (AU.o p_75 (by decide) (by decide)) (AU.o hU_4 (by decide) (by decide))))] at h; exact h
              refine lv_iinc (v := 2) (lv' := [(1, .int 2), (0, .ref a0)]) hx hb dX12_ticks_75 hl (k := 0) rfl (by decide) (by decide) rfl (fun ls hl => ?_)
              refine lv_goto (tgt := 14) hx hb dX12_ticks_78 (by decide) ?_
              refine lv_iload_n hx hb dX12_ticks_14 rfl (lv_at hl 0 rfl) ?_
              refine lv_iconst (v := 2) hx hb dX12_ticks_15 (by decide) ?_
              refine lv_icmp_ge (tgt := 81) hx hb dX12_ticks_16 (by decide) (fun c_102 => ?_) (fun c_102 => absurd (by decide) c_102)
              exact th_vret E hr hlk hs hT_100 hS_100 ⟨p_100_0.1, p_100_0.2.1, p_100_0.2.2.1, p_100_0.2.2.2.1, p_100_0.2.2.2.2.1, p_100_0.2.2.2.2.2⟩ dX12_ticks_81
          · have f_95 : x_92.toInt = 0 := r_eq rfl (by decide) c_95
            refine lv_aload_n hx hb dX12_ticks_55 rfl (lv_at hl 1 rfl) ?_
            refine lv_iload_n hx hb dX12_ticks_56 rfl (lv_at hl 0 rfl) ?_
            refine th_Vv (As := [.int 1]) (rest := []) E hml hl.1 (y_shuts_v2 l D cI cS τ ρ hW H_93 hT_94 a0 ha0 N hN0 hN1 ⟨hW_93, (QS.same (Eq.trans (AU.o p_93 (by decide) (by decide)) (Eq.trans (AU.o p_75 (by decide) (by decide)) (AU.o hU_4 (by decide) (by decide)))) (Eq.trans (AU.o p_93 (by decide) (by decide)) (Eq.trans (AU.o p_75 (by decide) (by decide)) (AU.o hU_4 (by decide) (by decide)))) hI.2.1), (QS.same (Eq.trans (AU.o p_93 (by decide) (by decide)) (Eq.trans (AU.o p_75 (by decide) (by decide)) (AU.o hU_4 (by decide) (by decide)))) (Eq.trans (AU.o p_93 (by decide) (by decide)) (Eq.trans (AU.o p_75 (by decide) (by decide)) (AU.o hU_4 (by decide) (by decide)))) hI.2.2.1), (PL.q (p_93.2 _ (th_ne (hW _ 12 2 ha0 (by decide) (by decide) (by decide)) (hW _ 12 0 ha0 (by decide) (by decide) (by decide)) (by decide))) (PL.q (p_75.2 _ (th_ne (hW _ 12 2 ha0 (by decide) (by decide) (by decide)) (hW _ 12 0 ha0 (by decide) (by decide) (by decide)) (by decide))) (PL.q (hU_4.2 _ (th_ne (hW _ 12 2 ha0 (by decide) (by decide) (by decide)) (hW _ 12 0 ha0 (by decide) (by decide) (by decide)) (by decide))) hI.2.2.2.1))), (PL.q (p_93.2 _ (th_ne (hW _ 12 3 ha0 (by decide) (by decide) (by decide)) (hW _ 12 0 ha0 (by decide) (by decide) (by decide)) (by decide))) (PL.q (p_75.2 _ (th_ne (hW _ 12 3 ha0 (by decide) (by decide) (by decide)) (hW _ 12 0 ha0 (by decide) (by decide) (by decide)) (by decide))) (PL.q (hU_4.2 _ (th_ne (hW _ 12 3 ha0 (by decide) (by decide) (by decide)) (hW _ 12 0 ha0 (by decide) (by decide) (by decide)) (by decide))) hI.2.2.2.2.1))), (IF.q (p_93.2 _ (th_ne ha0 (hW _ 12 0 ha0 (by decide) (by decide) (by decide)) (by decide))) (IF.q (p_75.2 _ (th_ne ha0 (hW _ 12 0 ha0 (by decide) (by decide) (by decide)) (by decide))) (IF.q (hU_4.2 _ (th_ne ha0 (hW _ 12 0 ha0 (by decide) (by decide) (by decide)) (by decide))) hI.2.2.2.2.2)))⟩) lk_X12_180 yd_X12_shuts hT_94 ha0 rfl (by decide) hS_94 (fun q h => (Or.inl h)) ⟨by decide, by decide⟩ (Nat.le_of_ble_eq_true rfl) ⟨by decide, by decide⟩ rfl dX12_ticks_57 (fun H_103 locs_103 p_103 hT_103 hk_103 hS_103 => ?_)
            have p_103 : (IM D ρ N H_103 a0) ∧ ((ai H_93 (ρ a0 0) 976).toInt ≤ (ai H_103 (ρ a0 0) 976).toInt) := p_103
            obtain ⟨p_103_0, p_103_1⟩ := p_103
            have mn_103 : (ai H (ρ a0 0) 976).toInt ≤ (ai H_103 (ρ a0 0) 976).toInt := by have h := p_103_1; rw [(Eq.trans (AU.o p_93 (by decide) (by decide)) (Eq.trans (AU.o p_75 (by decide) (by decide)) (AU.o hU_4 (by decide) (by decide))))] at h; exact h
            refine lv_aload_n hx hb dX12_ticks_60 rfl (lv_at hl 1 rfl) ?_
            refine lv_iload_n hx hb dX12_ticks_61 rfl (lv_at hl 0 rfl) ?_
            refine lv_bipush (v := 11) hx hb dX12_ticks_62 (by decide) ?_
            refine th_Vi (As := [.int 1, .int 11]) (rest := []) E hml hl.1 (y_get_v39 l D cI cS τ ρ hW H_103 hT_103 a0 ha0) lk_X12_99 yd_X12_get hT_103 ha0 rfl (by decide) hS_103 (fun _ h => h.elim) ⟨by decide, by decide⟩ (Nat.le_of_ble_eq_true rfl) ⟨by decide, by decide⟩ rfl dX12_ticks_64 (fun r_104 H_104 locs_104 p_104 hT_104 hk_104 hS_104 => ?_)
            have p_104 : H_103 = H_104 ∧ (ai H_103 (ρ a0 0) 299 = r_104) := p_104
            obtain ⟨rfl, p_104_0⟩ := p_104
            have c_r_104 := congrArg Int32.toInt p_104_0
            refine lv_if_le (tgt := 75) hx hb dX12_ticks_67 (by decide) (fun c_105 => ?_) (fun c_105 => ?_)
            · have f_105 : r_104.toInt ≤ 0 := r_le rfl (by decide) c_105
              refine lv_iinc (v := 2) (lv' := [(1, .int 2), (0, .ref a0)]) hx hb dX12_ticks_75 hl (k := 0) rfl (by decide) (by decide) rfl (fun ls hl => ?_)
              refine lv_goto (tgt := 14) hx hb dX12_ticks_78 (by decide) ?_
              refine lv_iload_n hx hb dX12_ticks_14 rfl (lv_at hl 0 rfl) ?_
              refine lv_iconst (v := 2) hx hb dX12_ticks_15 (by decide) ?_
              refine lv_icmp_ge (tgt := 81) hx hb dX12_ticks_16 (by decide) (fun c_107 => ?_) (fun c_107 => absurd (by decide) c_107)
              exact th_vret E hr hlk hs hT_104 hS_104 ⟨p_103_0.1, p_103_0.2.1, p_103_0.2.2.1, p_103_0.2.2.2.1, p_103_0.2.2.2.2.1, p_103_0.2.2.2.2.2⟩ dX12_ticks_81
            · have f_105 : 0 < r_104.toInt := r_nle rfl (by decide) c_105
              refine lv_aload_n hx hb dX12_ticks_70 rfl (lv_at hl 1 rfl) ?_
              refine lv_iload_n hx hb dX12_ticks_71 rfl (lv_at hl 0 rfl) ?_
              refine th_Vv (As := [.int 1]) (rest := []) E hml hl.1 (y_clocks_v2 l D cI cS τ ρ hW H_103 hT_104 a0 ha0 N hN0 hN1 ⟨p_103_0.1, p_103_0.2.1, p_103_0.2.2.1, p_103_0.2.2.2.1, p_103_0.2.2.2.2.1, p_103_0.2.2.2.2.2⟩) lk_X12_269 yd_X12_clocks hT_104 ha0 rfl (by decide) hS_104 (fun q => (fun h => h.elim (fun h => (Or.inl h)) (fun h => (Or.inr h)))) ⟨by decide, by decide⟩ (Nat.le_of_ble_eq_true rfl) ⟨by decide, by decide⟩ rfl dX12_ticks_72 (fun H_108 locs_108 p_108 hT_108 hk_108 hS_108 => ?_)
              have p_108 : (IM D ρ N H_108 a0) ∧ ((ai H_103 (ρ a0 0) 976).toInt ≤ (ai H_108 (ρ a0 0) 976).toInt) := p_108
              obtain ⟨p_108_0, p_108_1⟩ := p_108
              have mn_108 : (ai H_103 (ρ a0 0) 976).toInt ≤ (ai H_108 (ρ a0 0) 976).toInt := by exact p_108_1
              refine lv_iinc (v := 2) (lv' := [(1, .int 2), (0, .ref a0)]) hx hb dX12_ticks_75 hl (k := 0) rfl (by decide) (by decide) rfl (fun ls hl => ?_)
              refine lv_goto (tgt := 14) hx hb dX12_ticks_78 (by decide) ?_
              refine lv_iload_n hx hb dX12_ticks_14 rfl (lv_at hl 0 rfl) ?_
              refine lv_iconst (v := 2) hx hb dX12_ticks_15 (by decide) ?_
              refine lv_icmp_ge (tgt := 81) hx hb dX12_ticks_16 (by decide) (fun c_110 => ?_) (fun c_110 => absurd (by decide) c_110)
              exact th_vret E hr hlk hs hT_108 hS_108 ⟨p_108_0.1, p_108_0.2.1, p_108_0.2.2.1, p_108_0.2.2.2.1, p_108_0.2.2.2.2.1, p_108_0.2.2.2.2.2⟩ dX12_ticks_81
      · have f_79 : 0 < r_78.toInt := r_nle rfl (by decide) c_79
        refine lv_aload_n hx hb dX12_ticks_70 rfl (lv_at hl 1 rfl) ?_
        refine lv_iload_n hx hb dX12_ticks_71 rfl (lv_at hl 0 rfl) ?_
        refine th_Vv (As := [.int 0]) (rest := []) E hml hl.1 (y_clocks l D cI cS τ ρ hW H_75 hT_78 a0 ha0 N hN0 hN1 ⟨hW_75, (QS.same (Eq.trans (AU.o p_75 (by decide) (by decide)) (AU.o hU_4 (by decide) (by decide))) (Eq.trans (AU.o p_75 (by decide) (by decide)) (AU.o hU_4 (by decide) (by decide))) hI.2.1), (QS.same (Eq.trans (AU.o p_75 (by decide) (by decide)) (AU.o hU_4 (by decide) (by decide))) (Eq.trans (AU.o p_75 (by decide) (by decide)) (AU.o hU_4 (by decide) (by decide))) hI.2.2.1), (PL.q (p_75.2 _ (th_ne (hW _ 12 2 ha0 (by decide) (by decide) (by decide)) (hW _ 12 0 ha0 (by decide) (by decide) (by decide)) (by decide))) (PL.q (hU_4.2 _ (th_ne (hW _ 12 2 ha0 (by decide) (by decide) (by decide)) (hW _ 12 0 ha0 (by decide) (by decide) (by decide)) (by decide))) hI.2.2.2.1)), (PL.q (p_75.2 _ (th_ne (hW _ 12 3 ha0 (by decide) (by decide) (by decide)) (hW _ 12 0 ha0 (by decide) (by decide) (by decide)) (by decide))) (PL.q (hU_4.2 _ (th_ne (hW _ 12 3 ha0 (by decide) (by decide) (by decide)) (hW _ 12 0 ha0 (by decide) (by decide) (by decide)) (by decide))) hI.2.2.2.2.1)), (IF.q (p_75.2 _ (th_ne ha0 (hW _ 12 0 ha0 (by decide) (by decide) (by decide)) (by decide))) (IF.q (hU_4.2 _ (th_ne ha0 (hW _ 12 0 ha0 (by decide) (by decide) (by decide)) (by decide))) hI.2.2.2.2.2))⟩) lk_X12_269 yd_X12_clocks hT_78 ha0 rfl (by decide) hS_78 (fun q => (fun h => h.elim (fun h => (Or.inl h)) (fun h => (Or.inr h)))) ⟨by decide, by decide⟩ (Nat.le_of_ble_eq_true rfl) ⟨by decide, by decide⟩ rfl dX12_ticks_72 (fun H_111 locs_111 p_111 hT_111 hk_111 hS_111 => ?_)
        have p_111 : (IM D ρ N H_111 a0) ∧ ((ai H_75 (ρ a0 0) 976).toInt ≤ (ai H_111 (ρ a0 0) 976).toInt) := p_111
        obtain ⟨p_111_0, p_111_1⟩ := p_111
        have mn_111 : (ai H (ρ a0 0) 976).toInt ≤ (ai H_111 (ρ a0 0) 976).toInt := by have h := p_111_1; rw [(Eq.trans (AU.o p_75 (by decide) (by decide)) (AU.o hU_4 (by decide) (by decide)))] at h; exact h
        refine lv_iinc (v := 1) (lv' := [(1, .int 1), (0, .ref a0)]) hx hb dX12_ticks_75 hl (k := 0) rfl (by decide) (by decide) rfl (fun ls hl => ?_)
        refine lv_goto (tgt := 14) hx hb dX12_ticks_78 (by decide) ?_
        refine lv_iload_n hx hb dX12_ticks_14 rfl (lv_at hl 0 rfl) ?_
        refine lv_iconst (v := 2) hx hb dX12_ticks_15 (by decide) ?_
        refine lv_icmp_ge (tgt := 81) hx hb dX12_ticks_16 (by decide) (fun c_113 => absurd c_113 (by decide)) (fun c_113 => ?_)
        refine lv_aload_n hx hb dX12_ticks_19 rfl (lv_at hl 1 rfl) ?_
        refine lv_iload_n hx hb dX12_ticks_20 rfl (lv_at hl 0 rfl) ?_
        refine lv_bipush (v := 12) hx hb dX12_ticks_21 (by decide) ?_
        refine th_Vi (As := [.int 1, .int 12]) (rest := []) E hml hl.1 (y_get_v42 l D cI cS τ ρ hW H_111 hT_111 a0 ha0) lk_X12_99 yd_X12_get hT_111 ha0 rfl (by decide) hS_111 (fun _ h => h.elim) ⟨by decide, by decide⟩ (Nat.le_of_ble_eq_true rfl) ⟨by decide, by decide⟩ rfl dX12_ticks_23 (fun r_114 H_114 locs_114 p_114 hT_114 hk_114 hS_114 => ?_)
        have p_114 : H_111 = H_114 ∧ (ai H_111 (ρ a0 0) 300 = r_114) := p_114
        obtain ⟨rfl, p_114_0⟩ := p_114
        have c_r_114 := congrArg Int32.toInt p_114_0
        refine lv_if_le (tgt := 60) hx hb dX12_ticks_26 (by decide) (fun c_115 => ?_) (fun c_115 => ?_)
        · have f_115 : r_114.toInt ≤ 0 := r_le rfl (by decide) c_115
          refine lv_aload_n hx hb dX12_ticks_60 rfl (lv_at hl 1 rfl) ?_
          refine lv_iload_n hx hb dX12_ticks_61 rfl (lv_at hl 0 rfl) ?_
          refine lv_bipush (v := 11) hx hb dX12_ticks_62 (by decide) ?_
          refine th_Vi (As := [.int 1, .int 11]) (rest := []) E hml hl.1 (y_get_v39 l D cI cS τ ρ hW H_111 hT_114 a0 ha0) lk_X12_99 yd_X12_get hT_114 ha0 rfl (by decide) hS_114 (fun _ h => h.elim) ⟨by decide, by decide⟩ (Nat.le_of_ble_eq_true rfl) ⟨by decide, by decide⟩ rfl dX12_ticks_64 (fun r_116 H_116 locs_116 p_116 hT_116 hk_116 hS_116 => ?_)
          have p_116 : H_111 = H_116 ∧ (ai H_111 (ρ a0 0) 299 = r_116) := p_116
          obtain ⟨rfl, p_116_0⟩ := p_116
          have c_r_116 := congrArg Int32.toInt p_116_0
          refine lv_if_le (tgt := 75) hx hb dX12_ticks_67 (by decide) (fun c_117 => ?_) (fun c_117 => ?_)
          · have f_117 : r_116.toInt ≤ 0 := r_le rfl (by decide) c_117
            refine lv_iinc (v := 2) (lv' := [(1, .int 2), (0, .ref a0)]) hx hb dX12_ticks_75 hl (k := 0) rfl (by decide) (by decide) rfl (fun ls hl => ?_)
            refine lv_goto (tgt := 14) hx hb dX12_ticks_78 (by decide) ?_
            refine lv_iload_n hx hb dX12_ticks_14 rfl (lv_at hl 0 rfl) ?_
            refine lv_iconst (v := 2) hx hb dX12_ticks_15 (by decide) ?_
            refine lv_icmp_ge (tgt := 81) hx hb dX12_ticks_16 (by decide) (fun c_119 => ?_) (fun c_119 => absurd (by decide) c_119)
            exact th_vret E hr hlk hs hT_116 hS_116 ⟨p_111_0.1, p_111_0.2.1, p_111_0.2.2.1, p_111_0.2.2.2.1, p_111_0.2.2.2.2.1, p_111_0.2.2.2.2.2⟩ dX12_ticks_81
          · have f_117 : 0 < r_116.toInt := r_nle rfl (by decide) c_117
            refine lv_aload_n hx hb dX12_ticks_70 rfl (lv_at hl 1 rfl) ?_
            refine lv_iload_n hx hb dX12_ticks_71 rfl (lv_at hl 0 rfl) ?_
            refine th_Vv (As := [.int 1]) (rest := []) E hml hl.1 (y_clocks_v2 l D cI cS τ ρ hW H_111 hT_116 a0 ha0 N hN0 hN1 ⟨p_111_0.1, p_111_0.2.1, p_111_0.2.2.1, p_111_0.2.2.2.1, p_111_0.2.2.2.2.1, p_111_0.2.2.2.2.2⟩) lk_X12_269 yd_X12_clocks hT_116 ha0 rfl (by decide) hS_116 (fun q => (fun h => h.elim (fun h => (Or.inl h)) (fun h => (Or.inr h)))) ⟨by decide, by decide⟩ (Nat.le_of_ble_eq_true rfl) ⟨by decide, by decide⟩ rfl dX12_ticks_72 (fun H_120 locs_120 p_120 hT_120 hk_120 hS_120 => ?_)
            have p_120 : (IM D ρ N H_120 a0) ∧ ((ai H_111 (ρ a0 0) 976).toInt ≤ (ai H_120 (ρ a0 0) 976).toInt) := p_120
            obtain ⟨p_120_0, p_120_1⟩ := p_120
            have mn_120 : (ai H_111 (ρ a0 0) 976).toInt ≤ (ai H_120 (ρ a0 0) 976).toInt := by exact p_120_1
            refine lv_iinc (v := 2) (lv' := [(1, .int 2), (0, .ref a0)]) hx hb dX12_ticks_75 hl (k := 0) rfl (by decide) (by decide) rfl (fun ls hl => ?_)
            refine lv_goto (tgt := 14) hx hb dX12_ticks_78 (by decide) ?_
            refine lv_iload_n hx hb dX12_ticks_14 rfl (lv_at hl 0 rfl) ?_
            refine lv_iconst (v := 2) hx hb dX12_ticks_15 (by decide) ?_
            refine lv_icmp_ge (tgt := 81) hx hb dX12_ticks_16 (by decide) (fun c_122 => ?_) (fun c_122 => absurd (by decide) c_122)
            exact th_vret E hr hlk hs hT_120 hS_120 ⟨p_120_0.1, p_120_0.2.1, p_120_0.2.2.1, p_120_0.2.2.2.1, p_120_0.2.2.2.2.1, p_120_0.2.2.2.2.2⟩ dX12_ticks_81
        · have f_115 : 0 < r_114.toInt := r_nle rfl (by decide) c_115
          refine lv_aload_n hx hb dX12_ticks_29 rfl (lv_at hl 1 rfl) ?_
          refine lv_iload_n hx hb dX12_ticks_30 rfl (lv_at hl 0 rfl) ?_
          refine lv_bipush (v := 12) hx hb dX12_ticks_31 (by decide) ?_
          refine lv_aload_n hx hb dX12_ticks_33 rfl (lv_at hl 1 rfl) ?_
          refine lv_iload_n hx hb dX12_ticks_34 rfl (lv_at hl 0 rfl) ?_
          refine lv_bipush (v := 12) hx hb dX12_ticks_35 (by decide) ?_
          refine th_Vi (As := [.int 1, .int 12]) (rest := [.int 12, .int 1, .ref a0]) E hml hl.1 (y_get_v42 l D cI cS τ ρ hW H_111 hT_114 a0 ha0) lk_X12_99 yd_X12_get hT_114 ha0 rfl (by decide) hS_114 (fun _ h => h.elim) ⟨by decide, by decide⟩ (Nat.le_of_ble_eq_true rfl) ⟨by decide, by decide⟩ rfl dX12_ticks_37 (fun r_123 H_123 locs_123 p_123 hT_123 hk_123 hS_123 => ?_)
          have p_123 : H_111 = H_123 ∧ (ai H_111 (ρ a0 0) 300 = r_123) := p_123
          obtain ⟨rfl, p_123_0⟩ := p_123
          have s_123 : r_123 = r_114 := p_123_0.symm.trans p_114_0
          refine th_topi s_123 ?_
          refine lv_iconst (v := 1) hx hb dX12_ticks_40 (by decide) ?_
          refine lv_isub hx hb dX12_ticks_41 ?_
          refine lv_topi (fun x_124 ex_124 => ?_)
          refine th_Vv (As := [.int 1, .int 12, .int x_124]) (rest := []) E hml hl.1 (y_set_v60 l D cI cS τ ρ hW H_111 hT_123 a0 x_124 ha0) lk_X12_95 yd_X12_set hT_123 ha0 rfl (by decide) hS_123 (fun q h => (Or.inl h)) ⟨by decide, by decide⟩ (Nat.le_of_ble_eq_true rfl) ⟨by decide, by decide⟩ rfl dX12_ticks_42 (fun H_125 locs_125 p_125 hT_125 hk_125 hS_125 => ?_)
          have p_125 : (AU 985 H_111 H_125 (ρ a0 0) 300 x_124) := p_125
          have hW_125 : PW N H_125 (ρ a0 0) := PW.put p_111_0.1 p_125 (by show (-2147483648 : Int) ≤ _; exact i_min _) (by show _ ≤ (2147483647 : Int); exact i_max _)
          refine lv_aload_n hx hb dX12_ticks_45 rfl (lv_at hl 1 rfl) ?_
          refine lv_iload_n hx hb dX12_ticks_46 rfl (lv_at hl 0 rfl) ?_
          refine lv_bipush (v := 12) hx hb dX12_ticks_47 (by decide) ?_
          refine th_Vi (As := [.int 1, .int 12]) (rest := []) E hml hl.1 (y_get_v42 l D cI cS τ ρ hW H_125 hT_125 a0 ha0) lk_X12_99 yd_X12_get hT_125 ha0 rfl (by decide) hS_125 (fun _ h => h.elim) ⟨by decide, by decide⟩ (Nat.le_of_ble_eq_true rfl) ⟨by decide, by decide⟩ rfl dX12_ticks_49 (fun r_126 H_126 locs_126 p_126 hT_126 hk_126 hS_126 => ?_)
          have p_126 : H_125 = H_126 ∧ (ai H_125 (ρ a0 0) 300 = r_126) := p_126
          obtain ⟨rfl, p_126_0⟩ := p_126
          have s_126 : r_126 = x_124 := p_126_0.symm.trans (AU.s p_125 (by decide))
          refine th_topi s_126 ?_
          refine lv_if_ne (tgt := 60) hx hb dX12_ticks_52 (by decide) (fun c_127 => ?_) (fun c_127 => ?_)
          · have f_127 : ¬ x_124.toInt = 0 := r_ne rfl (by decide) c_127
            have nz_x_124 : ¬ x_124 = 0 := c_127
            refine lv_aload_n hx hb dX12_ticks_60 rfl (lv_at hl 1 rfl) ?_
            refine lv_iload_n hx hb dX12_ticks_61 rfl (lv_at hl 0 rfl) ?_
            refine lv_bipush (v := 11) hx hb dX12_ticks_62 (by decide) ?_
            refine th_Vi (As := [.int 1, .int 11]) (rest := []) E hml hl.1 (y_get_v39 l D cI cS τ ρ hW H_125 hT_126 a0 ha0) lk_X12_99 yd_X12_get hT_126 ha0 rfl (by decide) hS_126 (fun _ h => h.elim) ⟨by decide, by decide⟩ (Nat.le_of_ble_eq_true rfl) ⟨by decide, by decide⟩ rfl dX12_ticks_64 (fun r_128 H_128 locs_128 p_128 hT_128 hk_128 hS_128 => ?_)
            have p_128 : H_125 = H_128 ∧ (ai H_125 (ρ a0 0) 299 = r_128) := p_128
            obtain ⟨rfl, p_128_0⟩ := p_128
            have t_128 : ai H_111 (ρ a0 0) 299 = r_128 := (AU.o p_125 (by decide) (by decide)).symm.trans p_128_0
            have c_r_128 := congrArg Int32.toInt t_128
            refine lv_if_le (tgt := 75) hx hb dX12_ticks_67 (by decide) (fun c_129 => ?_) (fun c_129 => ?_)
            · have f_129 : r_128.toInt ≤ 0 := r_le rfl (by decide) c_129
              refine lv_iinc (v := 2) (lv' := [(1, .int 2), (0, .ref a0)]) hx hb dX12_ticks_75 hl (k := 0) rfl (by decide) (by decide) rfl (fun ls hl => ?_)
              refine lv_goto (tgt := 14) hx hb dX12_ticks_78 (by decide) ?_
              refine lv_iload_n hx hb dX12_ticks_14 rfl (lv_at hl 0 rfl) ?_
              refine lv_iconst (v := 2) hx hb dX12_ticks_15 (by decide) ?_
              refine lv_icmp_ge (tgt := 81) hx hb dX12_ticks_16 (by decide) (fun c_131 => ?_) (fun c_131 => absurd (by decide) c_131)
              exact th_vret E hr hlk hs hT_128 hS_128 ⟨hW_125, (QS.same (AU.o p_125 (by decide) (by decide)) (AU.o p_125 (by decide) (by decide)) p_111_0.2.1), (QS.same (AU.o p_125 (by decide) (by decide)) (AU.o p_125 (by decide) (by decide)) p_111_0.2.2.1), (PL.q (p_125.2 _ (th_ne (hW _ 12 2 ha0 (by decide) (by decide) (by decide)) (hW _ 12 0 ha0 (by decide) (by decide) (by decide)) (by decide))) p_111_0.2.2.2.1), (PL.q (p_125.2 _ (th_ne (hW _ 12 3 ha0 (by decide) (by decide) (by decide)) (hW _ 12 0 ha0 (by decide) (by decide) (by decide)) (by decide))) p_111_0.2.2.2.2.1), (IF.q (p_125.2 _ (th_ne ha0 (hW _ 12 0 ha0 (by decide) (by decide) (by decide)) (by decide))) p_111_0.2.2.2.2.2)⟩ dX12_ticks_81
            · have f_129 : 0 < r_128.toInt := r_nle rfl (by decide) c_129
              refine lv_aload_n hx hb dX12_ticks_70 rfl (lv_at hl 1 rfl) ?_
              refine lv_iload_n hx hb dX12_ticks_71 rfl (lv_at hl 0 rfl) ?_
              refine th_Vv (As := [.int 1]) (rest := []) E hml hl.1 (y_clocks_v2 l D cI cS τ ρ hW H_125 hT_128 a0 ha0 N hN0 hN1 ⟨hW_125, (QS.same (AU.o p_125 (by decide) (by decide)) (AU.o p_125 (by decide) (by decide)) p_111_0.2.1), (QS.same (AU.o p_125 (by decide) (by decide)) (AU.o p_125 (by decide) (by decide)) p_111_0.2.2.1), (PL.q (p_125.2 _ (th_ne (hW _ 12 2 ha0 (by decide) (by decide) (by decide)) (hW _ 12 0 ha0 (by decide) (by decide) (by decide)) (by decide))) p_111_0.2.2.2.1), (PL.q (p_125.2 _ (th_ne (hW _ 12 3 ha0 (by decide) (by decide) (by decide)) (hW _ 12 0 ha0 (by decide) (by decide) (by decide)) (by decide))) p_111_0.2.2.2.2.1), (IF.q (p_125.2 _ (th_ne ha0 (hW _ 12 0 ha0 (by decide) (by decide) (by decide)) (by decide))) p_111_0.2.2.2.2.2)⟩) lk_X12_269 yd_X12_clocks hT_128 ha0 rfl (by decide) hS_128 (fun q => (fun h => h.elim (fun h => (Or.inl h)) (fun h => (Or.inr h)))) ⟨by decide, by decide⟩ (Nat.le_of_ble_eq_true rfl) ⟨by decide, by decide⟩ rfl dX12_ticks_72 (fun H_132 locs_132 p_132 hT_132 hk_132 hS_132 => ?_)
              have p_132 : (IM D ρ N H_132 a0) ∧ ((ai H_125 (ρ a0 0) 976).toInt ≤ (ai H_132 (ρ a0 0) 976).toInt) := p_132
              obtain ⟨p_132_0, p_132_1⟩ := p_132
              have mn_132 : (ai H_111 (ρ a0 0) 976).toInt ≤ (ai H_132 (ρ a0 0) 976).toInt := by have h := p_132_1; rw [(AU.o p_125 (by decide) (by decide))] at h; exact h
              refine lv_iinc (v := 2) (lv' := [(1, .int 2), (0, .ref a0)]) hx hb dX12_ticks_75 hl (k := 0) rfl (by decide) (by decide) rfl (fun ls hl => ?_)
              refine lv_goto (tgt := 14) hx hb dX12_ticks_78 (by decide) ?_
              refine lv_iload_n hx hb dX12_ticks_14 rfl (lv_at hl 0 rfl) ?_
              refine lv_iconst (v := 2) hx hb dX12_ticks_15 (by decide) ?_
              refine lv_icmp_ge (tgt := 81) hx hb dX12_ticks_16 (by decide) (fun c_134 => ?_) (fun c_134 => absurd (by decide) c_134)
              exact th_vret E hr hlk hs hT_132 hS_132 ⟨p_132_0.1, p_132_0.2.1, p_132_0.2.2.1, p_132_0.2.2.2.1, p_132_0.2.2.2.2.1, p_132_0.2.2.2.2.2⟩ dX12_ticks_81
          · have f_127 : x_124.toInt = 0 := r_eq rfl (by decide) c_127
            refine lv_aload_n hx hb dX12_ticks_55 rfl (lv_at hl 1 rfl) ?_
            refine lv_iload_n hx hb dX12_ticks_56 rfl (lv_at hl 0 rfl) ?_
            refine th_Vv (As := [.int 1]) (rest := []) E hml hl.1 (y_shuts_v2 l D cI cS τ ρ hW H_125 hT_126 a0 ha0 N hN0 hN1 ⟨hW_125, (QS.same (AU.o p_125 (by decide) (by decide)) (AU.o p_125 (by decide) (by decide)) p_111_0.2.1), (QS.same (AU.o p_125 (by decide) (by decide)) (AU.o p_125 (by decide) (by decide)) p_111_0.2.2.1), (PL.q (p_125.2 _ (th_ne (hW _ 12 2 ha0 (by decide) (by decide) (by decide)) (hW _ 12 0 ha0 (by decide) (by decide) (by decide)) (by decide))) p_111_0.2.2.2.1), (PL.q (p_125.2 _ (th_ne (hW _ 12 3 ha0 (by decide) (by decide) (by decide)) (hW _ 12 0 ha0 (by decide) (by decide) (by decide)) (by decide))) p_111_0.2.2.2.2.1), (IF.q (p_125.2 _ (th_ne ha0 (hW _ 12 0 ha0 (by decide) (by decide) (by decide)) (by decide))) p_111_0.2.2.2.2.2)⟩) lk_X12_180 yd_X12_shuts hT_126 ha0 rfl (by decide) hS_126 (fun q h => (Or.inl h)) ⟨by decide, by decide⟩ (Nat.le_of_ble_eq_true rfl) ⟨by decide, by decide⟩ rfl dX12_ticks_57 (fun H_135 locs_135 p_135 hT_135 hk_135 hS_135 => ?_)
            have p_135 : (IM D ρ N H_135 a0) ∧ ((ai H_125 (ρ a0 0) 976).toInt ≤ (ai H_135 (ρ a0 0) 976).toInt) := p_135
            obtain ⟨p_135_0, p_135_1⟩ := p_135
            have mn_135 : (ai H_111 (ρ a0 0) 976).toInt ≤ (ai H_135 (ρ a0 0) 976).toInt := by have h := p_135_1; rw [(AU.o p_125 (by decide) (by decide))] at h; exact h
            refine lv_aload_n hx hb dX12_ticks_60 rfl (lv_at hl 1 rfl) ?_
            refine lv_iload_n hx hb dX12_ticks_61 rfl (lv_at hl 0 rfl) ?_
            refine lv_bipush (v := 11) hx hb dX12_ticks_62 (by decide) ?_
            refine th_Vi (As := [.int 1, .int 11]) (rest := []) E hml hl.1 (y_get_v39 l D cI cS τ ρ hW H_135 hT_135 a0 ha0) lk_X12_99 yd_X12_get hT_135 ha0 rfl (by decide) hS_135 (fun _ h => h.elim) ⟨by decide, by decide⟩ (Nat.le_of_ble_eq_true rfl) ⟨by decide, by decide⟩ rfl dX12_ticks_64 (fun r_136 H_136 locs_136 p_136 hT_136 hk_136 hS_136 => ?_)
            have p_136 : H_135 = H_136 ∧ (ai H_135 (ρ a0 0) 299 = r_136) := p_136
            obtain ⟨rfl, p_136_0⟩ := p_136
            have c_r_136 := congrArg Int32.toInt p_136_0
            refine lv_if_le (tgt := 75) hx hb dX12_ticks_67 (by decide) (fun c_137 => ?_) (fun c_137 => ?_)
            · have f_137 : r_136.toInt ≤ 0 := r_le rfl (by decide) c_137
              refine lv_iinc (v := 2) (lv' := [(1, .int 2), (0, .ref a0)]) hx hb dX12_ticks_75 hl (k := 0) rfl (by decide) (by decide) rfl (fun ls hl => ?_)
              refine lv_goto (tgt := 14) hx hb dX12_ticks_78 (by decide) ?_
              refine lv_iload_n hx hb dX12_ticks_14 rfl (lv_at hl 0 rfl) ?_
              refine lv_iconst (v := 2) hx hb dX12_ticks_15 (by decide) ?_
              refine lv_icmp_ge (tgt := 81) hx hb dX12_ticks_16 (by decide) (fun c_139 => ?_) (fun c_139 => absurd (by decide) c_139)
              exact th_vret E hr hlk hs hT_136 hS_136 ⟨p_135_0.1, p_135_0.2.1, p_135_0.2.2.1, p_135_0.2.2.2.1, p_135_0.2.2.2.2.1, p_135_0.2.2.2.2.2⟩ dX12_ticks_81
            · have f_137 : 0 < r_136.toInt := r_nle rfl (by decide) c_137
              refine lv_aload_n hx hb dX12_ticks_70 rfl (lv_at hl 1 rfl) ?_
              refine lv_iload_n hx hb dX12_ticks_71 rfl (lv_at hl 0 rfl) ?_
              refine th_Vv (As := [.int 1]) (rest := []) E hml hl.1 (y_clocks_v2 l D cI cS τ ρ hW H_135 hT_136 a0 ha0 N hN0 hN1 ⟨p_135_0.1, p_135_0.2.1, p_135_0.2.2.1, p_135_0.2.2.2.1, p_135_0.2.2.2.2.1, p_135_0.2.2.2.2.2⟩) lk_X12_269 yd_X12_clocks hT_136 ha0 rfl (by decide) hS_136 (fun q => (fun h => h.elim (fun h => (Or.inl h)) (fun h => (Or.inr h)))) ⟨by decide, by decide⟩ (Nat.le_of_ble_eq_true rfl) ⟨by decide, by decide⟩ rfl dX12_ticks_72 (fun H_140 locs_140 p_140 hT_140 hk_140 hS_140 => ?_)
              have p_140 : (IM D ρ N H_140 a0) ∧ ((ai H_135 (ρ a0 0) 976).toInt ≤ (ai H_140 (ρ a0 0) 976).toInt) := p_140
              obtain ⟨p_140_0, p_140_1⟩ := p_140
              have mn_140 : (ai H_135 (ρ a0 0) 976).toInt ≤ (ai H_140 (ρ a0 0) 976).toInt := by exact p_140_1
              refine lv_iinc (v := 2) (lv' := [(1, .int 2), (0, .ref a0)]) hx hb dX12_ticks_75 hl (k := 0) rfl (by decide) (by decide) rfl (fun ls hl => ?_)
              refine lv_goto (tgt := 14) hx hb dX12_ticks_78 (by decide) ?_
              refine lv_iload_n hx hb dX12_ticks_14 rfl (lv_at hl 0 rfl) ?_
              refine lv_iconst (v := 2) hx hb dX12_ticks_15 (by decide) ?_
              refine lv_icmp_ge (tgt := 81) hx hb dX12_ticks_16 (by decide) (fun c_142 => ?_) (fun c_142 => absurd (by decide) c_142)
              exact th_vret E hr hlk hs hT_140 hS_140 ⟨p_140_0.1, p_140_0.2.1, p_140_0.2.2.1, p_140_0.2.2.2.1, p_140_0.2.2.2.2.1, p_140_0.2.2.2.2.2⟩ dX12_ticks_81
    · have f_77 : x_74.toInt = 0 := r_eq rfl (by decide) c_77
      refine lv_aload_n hx hb dX12_ticks_55 rfl (lv_at hl 1 rfl) ?_
      refine lv_iload_n hx hb dX12_ticks_56 rfl (lv_at hl 0 rfl) ?_
      refine th_Vv (As := [.int 0]) (rest := []) E hml hl.1 (y_shuts l D cI cS τ ρ hW H_75 hT_76 a0 ha0 N hN0 hN1 ⟨hW_75, (QS.same (Eq.trans (AU.o p_75 (by decide) (by decide)) (AU.o hU_4 (by decide) (by decide))) (Eq.trans (AU.o p_75 (by decide) (by decide)) (AU.o hU_4 (by decide) (by decide))) hI.2.1), (QS.same (Eq.trans (AU.o p_75 (by decide) (by decide)) (AU.o hU_4 (by decide) (by decide))) (Eq.trans (AU.o p_75 (by decide) (by decide)) (AU.o hU_4 (by decide) (by decide))) hI.2.2.1), (PL.q (p_75.2 _ (th_ne (hW _ 12 2 ha0 (by decide) (by decide) (by decide)) (hW _ 12 0 ha0 (by decide) (by decide) (by decide)) (by decide))) (PL.q (hU_4.2 _ (th_ne (hW _ 12 2 ha0 (by decide) (by decide) (by decide)) (hW _ 12 0 ha0 (by decide) (by decide) (by decide)) (by decide))) hI.2.2.2.1)), (PL.q (p_75.2 _ (th_ne (hW _ 12 3 ha0 (by decide) (by decide) (by decide)) (hW _ 12 0 ha0 (by decide) (by decide) (by decide)) (by decide))) (PL.q (hU_4.2 _ (th_ne (hW _ 12 3 ha0 (by decide) (by decide) (by decide)) (hW _ 12 0 ha0 (by decide) (by decide) (by decide)) (by decide))) hI.2.2.2.2.1)), (IF.q (p_75.2 _ (th_ne ha0 (hW _ 12 0 ha0 (by decide) (by decide) (by decide)) (by decide))) (IF.q (hU_4.2 _ (th_ne ha0 (hW _ 12 0 ha0 (by decide) (by decide) (by decide)) (by decide))) hI.2.2.2.2.2))⟩) lk_X12_180 yd_X12_shuts hT_76 ha0 rfl (by decide) hS_76 (fun q h => (Or.inl h)) ⟨by decide, by decide⟩ (Nat.le_of_ble_eq_true rfl) ⟨by decide, by decide⟩ rfl dX12_ticks_57 (fun H_143 locs_143 p_143 hT_143 hk_143 hS_143 => ?_)
      have p_143 : (IM D ρ N H_143 a0) ∧ ((ai H_75 (ρ a0 0) 976).toInt ≤ (ai H_143 (ρ a0 0) 976).toInt) := p_143
      obtain ⟨p_143_0, p_143_1⟩ := p_143
      have mn_143 : (ai H (ρ a0 0) 976).toInt ≤ (ai H_143 (ρ a0 0) 976).toInt := by have h := p_143_1; rw [(Eq.trans (AU.o p_75 (by decide) (by decide)) (AU.o hU_4 (by decide) (by decide)))] at h; exact h
      refine lv_aload_n hx hb dX12_ticks_60 rfl (lv_at hl 1 rfl) ?_
      refine lv_iload_n hx hb dX12_ticks_61 rfl (lv_at hl 0 rfl) ?_
      refine lv_bipush (v := 11) hx hb dX12_ticks_62 (by decide) ?_
      refine th_Vi (As := [.int 0, .int 11]) (rest := []) E hml hl.1 (y_get_v36 l D cI cS τ ρ hW H_143 hT_143 a0 ha0) lk_X12_99 yd_X12_get hT_143 ha0 rfl (by decide) hS_143 (fun _ h => h.elim) ⟨by decide, by decide⟩ (Nat.le_of_ble_eq_true rfl) ⟨by decide, by decide⟩ rfl dX12_ticks_64 (fun r_144 H_144 locs_144 p_144 hT_144 hk_144 hS_144 => ?_)
      have p_144 : H_143 = H_144 ∧ (ai H_143 (ρ a0 0) 11 = r_144) := p_144
      obtain ⟨rfl, p_144_0⟩ := p_144
      have c_r_144 := congrArg Int32.toInt p_144_0
      refine lv_if_le (tgt := 75) hx hb dX12_ticks_67 (by decide) (fun c_145 => ?_) (fun c_145 => ?_)
      · have f_145 : r_144.toInt ≤ 0 := r_le rfl (by decide) c_145
        refine lv_iinc (v := 1) (lv' := [(1, .int 1), (0, .ref a0)]) hx hb dX12_ticks_75 hl (k := 0) rfl (by decide) (by decide) rfl (fun ls hl => ?_)
        refine lv_goto (tgt := 14) hx hb dX12_ticks_78 (by decide) ?_
        refine lv_iload_n hx hb dX12_ticks_14 rfl (lv_at hl 0 rfl) ?_
        refine lv_iconst (v := 2) hx hb dX12_ticks_15 (by decide) ?_
        refine lv_icmp_ge (tgt := 81) hx hb dX12_ticks_16 (by decide) (fun c_147 => absurd c_147 (by decide)) (fun c_147 => ?_)
        refine lv_aload_n hx hb dX12_ticks_19 rfl (lv_at hl 1 rfl) ?_
        refine lv_iload_n hx hb dX12_ticks_20 rfl (lv_at hl 0 rfl) ?_
        refine lv_bipush (v := 12) hx hb dX12_ticks_21 (by decide) ?_
        refine th_Vi (As := [.int 1, .int 12]) (rest := []) E hml hl.1 (y_get_v42 l D cI cS τ ρ hW H_143 hT_144 a0 ha0) lk_X12_99 yd_X12_get hT_144 ha0 rfl (by decide) hS_144 (fun _ h => h.elim) ⟨by decide, by decide⟩ (Nat.le_of_ble_eq_true rfl) ⟨by decide, by decide⟩ rfl dX12_ticks_23 (fun r_148 H_148 locs_148 p_148 hT_148 hk_148 hS_148 => ?_)
        have p_148 : H_143 = H_148 ∧ (ai H_143 (ρ a0 0) 300 = r_148) := p_148
        obtain ⟨rfl, p_148_0⟩ := p_148
        have c_r_148 := congrArg Int32.toInt p_148_0
        refine lv_if_le (tgt := 60) hx hb dX12_ticks_26 (by decide) (fun c_149 => ?_) (fun c_149 => ?_)
        · have f_149 : r_148.toInt ≤ 0 := r_le rfl (by decide) c_149
          refine lv_aload_n hx hb dX12_ticks_60 rfl (lv_at hl 1 rfl) ?_
          refine lv_iload_n hx hb dX12_ticks_61 rfl (lv_at hl 0 rfl) ?_
          refine lv_bipush (v := 11) hx hb dX12_ticks_62 (by decide) ?_
          refine th_Vi (As := [.int 1, .int 11]) (rest := []) E hml hl.1 (y_get_v39 l D cI cS τ ρ hW H_143 hT_148 a0 ha0) lk_X12_99 yd_X12_get hT_148 ha0 rfl (by decide) hS_148 (fun _ h => h.elim) ⟨by decide, by decide⟩ (Nat.le_of_ble_eq_true rfl) ⟨by decide, by decide⟩ rfl dX12_ticks_64 (fun r_150 H_150 locs_150 p_150 hT_150 hk_150 hS_150 => ?_)
          have p_150 : H_143 = H_150 ∧ (ai H_143 (ρ a0 0) 299 = r_150) := p_150
          obtain ⟨rfl, p_150_0⟩ := p_150
          have c_r_150 := congrArg Int32.toInt p_150_0
          refine lv_if_le (tgt := 75) hx hb dX12_ticks_67 (by decide) (fun c_151 => ?_) (fun c_151 => ?_)
          · have f_151 : r_150.toInt ≤ 0 := r_le rfl (by decide) c_151
            refine lv_iinc (v := 2) (lv' := [(1, .int 2), (0, .ref a0)]) hx hb dX12_ticks_75 hl (k := 0) rfl (by decide) (by decide) rfl (fun ls hl => ?_)
            refine lv_goto (tgt := 14) hx hb dX12_ticks_78 (by decide) ?_
            refine lv_iload_n hx hb dX12_ticks_14 rfl (lv_at hl 0 rfl) ?_
            refine lv_iconst (v := 2) hx hb dX12_ticks_15 (by decide) ?_
            refine lv_icmp_ge (tgt := 81) hx hb dX12_ticks_16 (by decide) (fun c_153 => ?_) (fun c_153 => absurd (by decide) c_153)
            exact th_vret E hr hlk hs hT_150 hS_150 ⟨p_143_0.1, p_143_0.2.1, p_143_0.2.2.1, p_143_0.2.2.2.1, p_143_0.2.2.2.2.1, p_143_0.2.2.2.2.2⟩ dX12_ticks_81
          · have f_151 : 0 < r_150.toInt := r_nle rfl (by decide) c_151
            refine lv_aload_n hx hb dX12_ticks_70 rfl (lv_at hl 1 rfl) ?_
            refine lv_iload_n hx hb dX12_ticks_71 rfl (lv_at hl 0 rfl) ?_
            refine th_Vv (As := [.int 1]) (rest := []) E hml hl.1 (y_clocks_v2 l D cI cS τ ρ hW H_143 hT_150 a0 ha0 N hN0 hN1 ⟨p_143_0.1, p_143_0.2.1, p_143_0.2.2.1, p_143_0.2.2.2.1, p_143_0.2.2.2.2.1, p_143_0.2.2.2.2.2⟩) lk_X12_269 yd_X12_clocks hT_150 ha0 rfl (by decide) hS_150 (fun q => (fun h => h.elim (fun h => (Or.inl h)) (fun h => (Or.inr h)))) ⟨by decide, by decide⟩ (Nat.le_of_ble_eq_true rfl) ⟨by decide, by decide⟩ rfl dX12_ticks_72 (fun H_154 locs_154 p_154 hT_154 hk_154 hS_154 => ?_)
            have p_154 : (IM D ρ N H_154 a0) ∧ ((ai H_143 (ρ a0 0) 976).toInt ≤ (ai H_154 (ρ a0 0) 976).toInt) := p_154
            obtain ⟨p_154_0, p_154_1⟩ := p_154
            have mn_154 : (ai H_143 (ρ a0 0) 976).toInt ≤ (ai H_154 (ρ a0 0) 976).toInt := by exact p_154_1
            refine lv_iinc (v := 2) (lv' := [(1, .int 2), (0, .ref a0)]) hx hb dX12_ticks_75 hl (k := 0) rfl (by decide) (by decide) rfl (fun ls hl => ?_)
            refine lv_goto (tgt := 14) hx hb dX12_ticks_78 (by decide) ?_
            refine lv_iload_n hx hb dX12_ticks_14 rfl (lv_at hl 0 rfl) ?_
            refine lv_iconst (v := 2) hx hb dX12_ticks_15 (by decide) ?_
            refine lv_icmp_ge (tgt := 81) hx hb dX12_ticks_16 (by decide) (fun c_156 => ?_) (fun c_156 => absurd (by decide) c_156)
            exact th_vret E hr hlk hs hT_154 hS_154 ⟨p_154_0.1, p_154_0.2.1, p_154_0.2.2.1, p_154_0.2.2.2.1, p_154_0.2.2.2.2.1, p_154_0.2.2.2.2.2⟩ dX12_ticks_81
        · have f_149 : 0 < r_148.toInt := r_nle rfl (by decide) c_149
          refine lv_aload_n hx hb dX12_ticks_29 rfl (lv_at hl 1 rfl) ?_
          refine lv_iload_n hx hb dX12_ticks_30 rfl (lv_at hl 0 rfl) ?_
          refine lv_bipush (v := 12) hx hb dX12_ticks_31 (by decide) ?_
          refine lv_aload_n hx hb dX12_ticks_33 rfl (lv_at hl 1 rfl) ?_
          refine lv_iload_n hx hb dX12_ticks_34 rfl (lv_at hl 0 rfl) ?_
          refine lv_bipush (v := 12) hx hb dX12_ticks_35 (by decide) ?_
          refine th_Vi (As := [.int 1, .int 12]) (rest := [.int 12, .int 1, .ref a0]) E hml hl.1 (y_get_v42 l D cI cS τ ρ hW H_143 hT_148 a0 ha0) lk_X12_99 yd_X12_get hT_148 ha0 rfl (by decide) hS_148 (fun _ h => h.elim) ⟨by decide, by decide⟩ (Nat.le_of_ble_eq_true rfl) ⟨by decide, by decide⟩ rfl dX12_ticks_37 (fun r_157 H_157 locs_157 p_157 hT_157 hk_157 hS_157 => ?_)
          have p_157 : H_143 = H_157 ∧ (ai H_143 (ρ a0 0) 300 = r_157) := p_157
          obtain ⟨rfl, p_157_0⟩ := p_157
          have s_157 : r_157 = r_148 := p_157_0.symm.trans p_148_0
          refine th_topi s_157 ?_
          refine lv_iconst (v := 1) hx hb dX12_ticks_40 (by decide) ?_
          refine lv_isub hx hb dX12_ticks_41 ?_
          refine lv_topi (fun x_158 ex_158 => ?_)
          refine th_Vv (As := [.int 1, .int 12, .int x_158]) (rest := []) E hml hl.1 (y_set_v60 l D cI cS τ ρ hW H_143 hT_157 a0 x_158 ha0) lk_X12_95 yd_X12_set hT_157 ha0 rfl (by decide) hS_157 (fun q h => (Or.inl h)) ⟨by decide, by decide⟩ (Nat.le_of_ble_eq_true rfl) ⟨by decide, by decide⟩ rfl dX12_ticks_42 (fun H_159 locs_159 p_159 hT_159 hk_159 hS_159 => ?_)
          have p_159 : (AU 985 H_143 H_159 (ρ a0 0) 300 x_158) := p_159
          have hW_159 : PW N H_159 (ρ a0 0) := PW.put p_143_0.1 p_159 (by show (-2147483648 : Int) ≤ _; exact i_min _) (by show _ ≤ (2147483647 : Int); exact i_max _)
          refine lv_aload_n hx hb dX12_ticks_45 rfl (lv_at hl 1 rfl) ?_
          refine lv_iload_n hx hb dX12_ticks_46 rfl (lv_at hl 0 rfl) ?_
          refine lv_bipush (v := 12) hx hb dX12_ticks_47 (by decide) ?_
          refine th_Vi (As := [.int 1, .int 12]) (rest := []) E hml hl.1 (y_get_v42 l D cI cS τ ρ hW H_159 hT_159 a0 ha0) lk_X12_99 yd_X12_get hT_159 ha0 rfl (by decide) hS_159 (fun _ h => h.elim) ⟨by decide, by decide⟩ (Nat.le_of_ble_eq_true rfl) ⟨by decide, by decide⟩ rfl dX12_ticks_49 (fun r_160 H_160 locs_160 p_160 hT_160 hk_160 hS_160 => ?_)
          have p_160 : H_159 = H_160 ∧ (ai H_159 (ρ a0 0) 300 = r_160) := p_160
          obtain ⟨rfl, p_160_0⟩ := p_160
          have s_160 : r_160 = x_158 := p_160_0.symm.trans (AU.s p_159 (by decide))
          refine th_topi s_160 ?_
          refine lv_if_ne (tgt := 60) hx hb dX12_ticks_52 (by decide) (fun c_161 => ?_) (fun c_161 => ?_)
          · have f_161 : ¬ x_158.toInt = 0 := r_ne rfl (by decide) c_161
            have nz_x_158 : ¬ x_158 = 0 := c_161
            refine lv_aload_n hx hb dX12_ticks_60 rfl (lv_at hl 1 rfl) ?_
            refine lv_iload_n hx hb dX12_ticks_61 rfl (lv_at hl 0 rfl) ?_
            refine lv_bipush (v := 11) hx hb dX12_ticks_62 (by decide) ?_
            refine th_Vi (As := [.int 1, .int 11]) (rest := []) E hml hl.1 (y_get_v39 l D cI cS τ ρ hW H_159 hT_160 a0 ha0) lk_X12_99 yd_X12_get hT_160 ha0 rfl (by decide) hS_160 (fun _ h => h.elim) ⟨by decide, by decide⟩ (Nat.le_of_ble_eq_true rfl) ⟨by decide, by decide⟩ rfl dX12_ticks_64 (fun r_162 H_162 locs_162 p_162 hT_162 hk_162 hS_162 => ?_)
            have p_162 : H_159 = H_162 ∧ (ai H_159 (ρ a0 0) 299 = r_162) := p_162
            obtain ⟨rfl, p_162_0⟩ := p_162
            have t_162 : ai H_143 (ρ a0 0) 299 = r_162 := (AU.o p_159 (by decide) (by decide)).symm.trans p_162_0
            have c_r_162 := congrArg Int32.toInt t_162
            refine lv_if_le (tgt := 75) hx hb dX12_ticks_67 (by decide) (fun c_163 => ?_) (fun c_163 => ?_)
            · have f_163 : r_162.toInt ≤ 0 := r_le rfl (by decide) c_163
              refine lv_iinc (v := 2) (lv' := [(1, .int 2), (0, .ref a0)]) hx hb dX12_ticks_75 hl (k := 0) rfl (by decide) (by decide) rfl (fun ls hl => ?_)
              refine lv_goto (tgt := 14) hx hb dX12_ticks_78 (by decide) ?_
              refine lv_iload_n hx hb dX12_ticks_14 rfl (lv_at hl 0 rfl) ?_
              refine lv_iconst (v := 2) hx hb dX12_ticks_15 (by decide) ?_
              refine lv_icmp_ge (tgt := 81) hx hb dX12_ticks_16 (by decide) (fun c_165 => ?_) (fun c_165 => absurd (by decide) c_165)
              exact th_vret E hr hlk hs hT_162 hS_162 ⟨hW_159, (QS.same (AU.o p_159 (by decide) (by decide)) (AU.o p_159 (by decide) (by decide)) p_143_0.2.1), (QS.same (AU.o p_159 (by decide) (by decide)) (AU.o p_159 (by decide) (by decide)) p_143_0.2.2.1), (PL.q (p_159.2 _ (th_ne (hW _ 12 2 ha0 (by decide) (by decide) (by decide)) (hW _ 12 0 ha0 (by decide) (by decide) (by decide)) (by decide))) p_143_0.2.2.2.1), (PL.q (p_159.2 _ (th_ne (hW _ 12 3 ha0 (by decide) (by decide) (by decide)) (hW _ 12 0 ha0 (by decide) (by decide) (by decide)) (by decide))) p_143_0.2.2.2.2.1), (IF.q (p_159.2 _ (th_ne ha0 (hW _ 12 0 ha0 (by decide) (by decide) (by decide)) (by decide))) p_143_0.2.2.2.2.2)⟩ dX12_ticks_81
            · have f_163 : 0 < r_162.toInt := r_nle rfl (by decide) c_163
              refine lv_aload_n hx hb dX12_ticks_70 rfl (lv_at hl 1 rfl) ?_
              refine lv_iload_n hx hb dX12_ticks_71 rfl (lv_at hl 0 rfl) ?_
              refine th_Vv (As := [.int 1]) (rest := []) E hml hl.1 (y_clocks_v2 l D cI cS τ ρ hW H_159 hT_162 a0 ha0 N hN0 hN1 ⟨hW_159, (QS.same (AU.o p_159 (by decide) (by decide)) (AU.o p_159 (by decide) (by decide)) p_143_0.2.1), (QS.same (AU.o p_159 (by decide) (by decide)) (AU.o p_159 (by decide) (by decide)) p_143_0.2.2.1), (PL.q (p_159.2 _ (th_ne (hW _ 12 2 ha0 (by decide) (by decide) (by decide)) (hW _ 12 0 ha0 (by decide) (by decide) (by decide)) (by decide))) p_143_0.2.2.2.1), (PL.q (p_159.2 _ (th_ne (hW _ 12 3 ha0 (by decide) (by decide) (by decide)) (hW _ 12 0 ha0 (by decide) (by decide) (by decide)) (by decide))) p_143_0.2.2.2.2.1), (IF.q (p_159.2 _ (th_ne ha0 (hW _ 12 0 ha0 (by decide) (by decide) (by decide)) (by decide))) p_143_0.2.2.2.2.2)⟩) lk_X12_269 yd_X12_clocks hT_162 ha0 rfl (by decide) hS_162 (fun q => (fun h => h.elim (fun h => (Or.inl h)) (fun h => (Or.inr h)))) ⟨by decide, by decide⟩ (Nat.le_of_ble_eq_true rfl) ⟨by decide, by decide⟩ rfl dX12_ticks_72 (fun H_166 locs_166 p_166 hT_166 hk_166 hS_166 => ?_)
              have p_166 : (IM D ρ N H_166 a0) ∧ ((ai H_159 (ρ a0 0) 976).toInt ≤ (ai H_166 (ρ a0 0) 976).toInt) := p_166
              obtain ⟨p_166_0, p_166_1⟩ := p_166
              have mn_166 : (ai H_143 (ρ a0 0) 976).toInt ≤ (ai H_166 (ρ a0 0) 976).toInt := by have h := p_166_1; rw [(AU.o p_159 (by decide) (by decide))] at h; exact h
              refine lv_iinc (v := 2) (lv' := [(1, .int 2), (0, .ref a0)]) hx hb dX12_ticks_75 hl (k := 0) rfl (by decide) (by decide) rfl (fun ls hl => ?_)
              refine lv_goto (tgt := 14) hx hb dX12_ticks_78 (by decide) ?_
              refine lv_iload_n hx hb dX12_ticks_14 rfl (lv_at hl 0 rfl) ?_
              refine lv_iconst (v := 2) hx hb dX12_ticks_15 (by decide) ?_
              refine lv_icmp_ge (tgt := 81) hx hb dX12_ticks_16 (by decide) (fun c_168 => ?_) (fun c_168 => absurd (by decide) c_168)
              exact th_vret E hr hlk hs hT_166 hS_166 ⟨p_166_0.1, p_166_0.2.1, p_166_0.2.2.1, p_166_0.2.2.2.1, p_166_0.2.2.2.2.1, p_166_0.2.2.2.2.2⟩ dX12_ticks_81
          · have f_161 : x_158.toInt = 0 := r_eq rfl (by decide) c_161
            refine lv_aload_n hx hb dX12_ticks_55 rfl (lv_at hl 1 rfl) ?_
            refine lv_iload_n hx hb dX12_ticks_56 rfl (lv_at hl 0 rfl) ?_
            refine th_Vv (As := [.int 1]) (rest := []) E hml hl.1 (y_shuts_v2 l D cI cS τ ρ hW H_159 hT_160 a0 ha0 N hN0 hN1 ⟨hW_159, (QS.same (AU.o p_159 (by decide) (by decide)) (AU.o p_159 (by decide) (by decide)) p_143_0.2.1), (QS.same (AU.o p_159 (by decide) (by decide)) (AU.o p_159 (by decide) (by decide)) p_143_0.2.2.1), (PL.q (p_159.2 _ (th_ne (hW _ 12 2 ha0 (by decide) (by decide) (by decide)) (hW _ 12 0 ha0 (by decide) (by decide) (by decide)) (by decide))) p_143_0.2.2.2.1), (PL.q (p_159.2 _ (th_ne (hW _ 12 3 ha0 (by decide) (by decide) (by decide)) (hW _ 12 0 ha0 (by decide) (by decide) (by decide)) (by decide))) p_143_0.2.2.2.2.1), (IF.q (p_159.2 _ (th_ne ha0 (hW _ 12 0 ha0 (by decide) (by decide) (by decide)) (by decide))) p_143_0.2.2.2.2.2)⟩) lk_X12_180 yd_X12_shuts hT_160 ha0 rfl (by decide) hS_160 (fun q h => (Or.inl h)) ⟨by decide, by decide⟩ (Nat.le_of_ble_eq_true rfl) ⟨by decide, by decide⟩ rfl dX12_ticks_57 (fun H_169 locs_169 p_169 hT_169 hk_169 hS_169 => ?_)
            have p_169 : (IM D ρ N H_169 a0) ∧ ((ai H_159 (ρ a0 0) 976).toInt ≤ (ai H_169 (ρ a0 0) 976).toInt) := p_169
            obtain ⟨p_169_0, p_169_1⟩ := p_169
            have mn_169 : (ai H_143 (ρ a0 0) 976).toInt ≤ (ai H_169 (ρ a0 0) 976).toInt := by have h := p_169_1; rw [(AU.o p_159 (by decide) (by decide))] at h; exact h
            refine lv_aload_n hx hb dX12_ticks_60 rfl (lv_at hl 1 rfl) ?_
            refine lv_iload_n hx hb dX12_ticks_61 rfl (lv_at hl 0 rfl) ?_
            refine lv_bipush (v := 11) hx hb dX12_ticks_62 (by decide) ?_
            refine th_Vi (As := [.int 1, .int 11]) (rest := []) E hml hl.1 (y_get_v39 l D cI cS τ ρ hW H_169 hT_169 a0 ha0) lk_X12_99 yd_X12_get hT_169 ha0 rfl (by decide) hS_169 (fun _ h => h.elim) ⟨by decide, by decide⟩ (Nat.le_of_ble_eq_true rfl) ⟨by decide, by decide⟩ rfl dX12_ticks_64 (fun r_170 H_170 locs_170 p_170 hT_170 hk_170 hS_170 => ?_)
            have p_170 : H_169 = H_170 ∧ (ai H_169 (ρ a0 0) 299 = r_170) := p_170
            obtain ⟨rfl, p_170_0⟩ := p_170
            have c_r_170 := congrArg Int32.toInt p_170_0
            refine lv_if_le (tgt := 75) hx hb dX12_ticks_67 (by decide) (fun c_171 => ?_) (fun c_171 => ?_)
            · have f_171 : r_170.toInt ≤ 0 := r_le rfl (by decide) c_171
              refine lv_iinc (v := 2) (lv' := [(1, .int 2), (0, .ref a0)]) hx hb dX12_ticks_75 hl (k := 0) rfl (by decide) (by decide) rfl (fun ls hl => ?_)
              refine lv_goto (tgt := 14) hx hb dX12_ticks_78 (by decide) ?_
              refine lv_iload_n hx hb dX12_ticks_14 rfl (lv_at hl 0 rfl) ?_
              refine lv_iconst (v := 2) hx hb dX12_ticks_15 (by decide) ?_
              refine lv_icmp_ge (tgt := 81) hx hb dX12_ticks_16 (by decide) (fun c_173 => ?_) (fun c_173 => absurd (by decide) c_173)
              exact th_vret E hr hlk hs hT_170 hS_170 ⟨p_169_0.1, p_169_0.2.1, p_169_0.2.2.1, p_169_0.2.2.2.1, p_169_0.2.2.2.2.1, p_169_0.2.2.2.2.2⟩ dX12_ticks_81
            · have f_171 : 0 < r_170.toInt := r_nle rfl (by decide) c_171
              refine lv_aload_n hx hb dX12_ticks_70 rfl (lv_at hl 1 rfl) ?_
              refine lv_iload_n hx hb dX12_ticks_71 rfl (lv_at hl 0 rfl) ?_
              refine th_Vv (As := [.int 1]) (rest := []) E hml hl.1 (y_clocks_v2 l D cI cS τ ρ hW H_169 hT_170 a0 ha0 N hN0 hN1 ⟨p_169_0.1, p_169_0.2.1, p_169_0.2.2.1, p_169_0.2.2.2.1, p_169_0.2.2.2.2.1, p_169_0.2.2.2.2.2⟩) lk_X12_269 yd_X12_clocks hT_170 ha0 rfl (by decide) hS_170 (fun q => (fun h => h.elim (fun h => (Or.inl h)) (fun h => (Or.inr h)))) ⟨by decide, by decide⟩ (Nat.le_of_ble_eq_true rfl) ⟨by decide, by decide⟩ rfl dX12_ticks_72 (fun H_174 locs_174 p_174 hT_174 hk_174 hS_174 => ?_)
              have p_174 : (IM D ρ N H_174 a0) ∧ ((ai H_169 (ρ a0 0) 976).toInt ≤ (ai H_174 (ρ a0 0) 976).toInt) := p_174
              obtain ⟨p_174_0, p_174_1⟩ := p_174
              have mn_174 : (ai H_169 (ρ a0 0) 976).toInt ≤ (ai H_174 (ρ a0 0) 976).toInt := by exact p_174_1
              refine lv_iinc (v := 2) (lv' := [(1, .int 2), (0, .ref a0)]) hx hb dX12_ticks_75 hl (k := 0) rfl (by decide) (by decide) rfl (fun ls hl => ?_)
              refine lv_goto (tgt := 14) hx hb dX12_ticks_78 (by decide) ?_
              refine lv_iload_n hx hb dX12_ticks_14 rfl (lv_at hl 0 rfl) ?_
              refine lv_iconst (v := 2) hx hb dX12_ticks_15 (by decide) ?_
              refine lv_icmp_ge (tgt := 81) hx hb dX12_ticks_16 (by decide) (fun c_176 => ?_) (fun c_176 => absurd (by decide) c_176)
              exact th_vret E hr hlk hs hT_174 hS_174 ⟨p_174_0.1, p_174_0.2.1, p_174_0.2.2.1, p_174_0.2.2.2.1, p_174_0.2.2.2.2.1, p_174_0.2.2.2.2.2⟩ dX12_ticks_81
      · have f_145 : 0 < r_144.toInt := r_nle rfl (by decide) c_145
        refine lv_aload_n hx hb dX12_ticks_70 rfl (lv_at hl 1 rfl) ?_
        refine lv_iload_n hx hb dX12_ticks_71 rfl (lv_at hl 0 rfl) ?_
        refine th_Vv (As := [.int 0]) (rest := []) E hml hl.1 (y_clocks l D cI cS τ ρ hW H_143 hT_144 a0 ha0 N hN0 hN1 ⟨p_143_0.1, p_143_0.2.1, p_143_0.2.2.1, p_143_0.2.2.2.1, p_143_0.2.2.2.2.1, p_143_0.2.2.2.2.2⟩) lk_X12_269 yd_X12_clocks hT_144 ha0 rfl (by decide) hS_144 (fun q => (fun h => h.elim (fun h => (Or.inl h)) (fun h => (Or.inr h)))) ⟨by decide, by decide⟩ (Nat.le_of_ble_eq_true rfl) ⟨by decide, by decide⟩ rfl dX12_ticks_72 (fun H_177 locs_177 p_177 hT_177 hk_177 hS_177 => ?_)
        have p_177 : (IM D ρ N H_177 a0) ∧ ((ai H_143 (ρ a0 0) 976).toInt ≤ (ai H_177 (ρ a0 0) 976).toInt) := p_177
        obtain ⟨p_177_0, p_177_1⟩ := p_177
        have mn_177 : (ai H_143 (ρ a0 0) 976).toInt ≤ (ai H_177 (ρ a0 0) 976).toInt := by exact p_177_1
        refine lv_iinc (v := 1) (lv' := [(1, .int 1), (0, .ref a0)]) hx hb dX12_ticks_75 hl (k := 0) rfl (by decide) (by decide) rfl (fun ls hl => ?_)
        refine lv_goto (tgt := 14) hx hb dX12_ticks_78 (by decide) ?_
        refine lv_iload_n hx hb dX12_ticks_14 rfl (lv_at hl 0 rfl) ?_
        refine lv_iconst (v := 2) hx hb dX12_ticks_15 (by decide) ?_
        refine lv_icmp_ge (tgt := 81) hx hb dX12_ticks_16 (by decide) (fun c_179 => absurd c_179 (by decide)) (fun c_179 => ?_)
        refine lv_aload_n hx hb dX12_ticks_19 rfl (lv_at hl 1 rfl) ?_
        refine lv_iload_n hx hb dX12_ticks_20 rfl (lv_at hl 0 rfl) ?_
        refine lv_bipush (v := 12) hx hb dX12_ticks_21 (by decide) ?_
        refine th_Vi (As := [.int 1, .int 12]) (rest := []) E hml hl.1 (y_get_v42 l D cI cS τ ρ hW H_177 hT_177 a0 ha0) lk_X12_99 yd_X12_get hT_177 ha0 rfl (by decide) hS_177 (fun _ h => h.elim) ⟨by decide, by decide⟩ (Nat.le_of_ble_eq_true rfl) ⟨by decide, by decide⟩ rfl dX12_ticks_23 (fun r_180 H_180 locs_180 p_180 hT_180 hk_180 hS_180 => ?_)
        have p_180 : H_177 = H_180 ∧ (ai H_177 (ρ a0 0) 300 = r_180) := p_180
        obtain ⟨rfl, p_180_0⟩ := p_180
        have c_r_180 := congrArg Int32.toInt p_180_0
        refine lv_if_le (tgt := 60) hx hb dX12_ticks_26 (by decide) (fun c_181 => ?_) (fun c_181 => ?_)
        · have f_181 : r_180.toInt ≤ 0 := r_le rfl (by decide) c_181
          refine lv_aload_n hx hb dX12_ticks_60 rfl (lv_at hl 1 rfl) ?_
          refine lv_iload_n hx hb dX12_ticks_61 rfl (lv_at hl 0 rfl) ?_
          refine lv_bipush (v := 11) hx hb dX12_ticks_62 (by decide) ?_
          refine th_Vi (As := [.int 1, .int 11]) (rest := []) E hml hl.1 (y_get_v39 l D cI cS τ ρ hW H_177 hT_180 a0 ha0) lk_X12_99 yd_X12_get hT_180 ha0 rfl (by decide) hS_180 (fun _ h => h.elim) ⟨by decide, by decide⟩ (Nat.le_of_ble_eq_true rfl) ⟨by decide, by decide⟩ rfl dX12_ticks_64 (fun r_182 H_182 locs_182 p_182 hT_182 hk_182 hS_182 => ?_)
          have p_182 : H_177 = H_182 ∧ (ai H_177 (ρ a0 0) 299 = r_182) := p_182
          obtain ⟨rfl, p_182_0⟩ := p_182
          have c_r_182 := congrArg Int32.toInt p_182_0
          refine lv_if_le (tgt := 75) hx hb dX12_ticks_67 (by decide) (fun c_183 => ?_) (fun c_183 => ?_)
          · have f_183 : r_182.toInt ≤ 0 := r_le rfl (by decide) c_183
            refine lv_iinc (v := 2) (lv' := [(1, .int 2), (0, .ref a0)]) hx hb dX12_ticks_75 hl (k := 0) rfl (by decide) (by decide) rfl (fun ls hl => ?_)
            refine lv_goto (tgt := 14) hx hb dX12_ticks_78 (by decide) ?_
            refine lv_iload_n hx hb dX12_ticks_14 rfl (lv_at hl 0 rfl) ?_
            refine lv_iconst (v := 2) hx hb dX12_ticks_15 (by decide) ?_
            refine lv_icmp_ge (tgt := 81) hx hb dX12_ticks_16 (by decide) (fun c_185 => ?_) (fun c_185 => absurd (by decide) c_185)
            exact th_vret E hr hlk hs hT_182 hS_182 ⟨p_177_0.1, p_177_0.2.1, p_177_0.2.2.1, p_177_0.2.2.2.1, p_177_0.2.2.2.2.1, p_177_0.2.2.2.2.2⟩ dX12_ticks_81
          · have f_183 : 0 < r_182.toInt := r_nle rfl (by decide) c_183
            refine lv_aload_n hx hb dX12_ticks_70 rfl (lv_at hl 1 rfl) ?_
            refine lv_iload_n hx hb dX12_ticks_71 rfl (lv_at hl 0 rfl) ?_
            refine th_Vv (As := [.int 1]) (rest := []) E hml hl.1 (y_clocks_v2 l D cI cS τ ρ hW H_177 hT_182 a0 ha0 N hN0 hN1 ⟨p_177_0.1, p_177_0.2.1, p_177_0.2.2.1, p_177_0.2.2.2.1, p_177_0.2.2.2.2.1, p_177_0.2.2.2.2.2⟩) lk_X12_269 yd_X12_clocks hT_182 ha0 rfl (by decide) hS_182 (fun q => (fun h => h.elim (fun h => (Or.inl h)) (fun h => (Or.inr h)))) ⟨by decide, by decide⟩ (Nat.le_of_ble_eq_true rfl) ⟨by decide, by decide⟩ rfl dX12_ticks_72 (fun H_186 locs_186 p_186 hT_186 hk_186 hS_186 => ?_)
            have p_186 : (IM D ρ N H_186 a0) ∧ ((ai H_177 (ρ a0 0) 976).toInt ≤ (ai H_186 (ρ a0 0) 976).toInt) := p_186
            obtain ⟨p_186_0, p_186_1⟩ := p_186
            have mn_186 : (ai H_177 (ρ a0 0) 976).toInt ≤ (ai H_186 (ρ a0 0) 976).toInt := by exact p_186_1
            refine lv_iinc (v := 2) (lv' := [(1, .int 2), (0, .ref a0)]) hx hb dX12_ticks_75 hl (k := 0) rfl (by decide) (by decide) rfl (fun ls hl => ?_)
            refine lv_goto (tgt := 14) hx hb dX12_ticks_78 (by decide) ?_
            refine lv_iload_n hx hb dX12_ticks_14 rfl (lv_at hl 0 rfl) ?_
            refine lv_iconst (v := 2) hx hb dX12_ticks_15 (by decide) ?_
            refine lv_icmp_ge (tgt := 81) hx hb dX12_ticks_16 (by decide) (fun c_188 => ?_) (fun c_188 => absurd (by decide) c_188)
            exact th_vret E hr hlk hs hT_186 hS_186 ⟨p_186_0.1, p_186_0.2.1, p_186_0.2.2.1, p_186_0.2.2.2.1, p_186_0.2.2.2.2.1, p_186_0.2.2.2.2.2⟩ dX12_ticks_81
        · have f_181 : 0 < r_180.toInt := r_nle rfl (by decide) c_181
          refine lv_aload_n hx hb dX12_ticks_29 rfl (lv_at hl 1 rfl) ?_
          refine lv_iload_n hx hb dX12_ticks_30 rfl (lv_at hl 0 rfl) ?_
          refine lv_bipush (v := 12) hx hb dX12_ticks_31 (by decide) ?_
          refine lv_aload_n hx hb dX12_ticks_33 rfl (lv_at hl 1 rfl) ?_
          refine lv_iload_n hx hb dX12_ticks_34 rfl (lv_at hl 0 rfl) ?_
          refine lv_bipush (v := 12) hx hb dX12_ticks_35 (by decide) ?_
          refine th_Vi (As := [.int 1, .int 12]) (rest := [.int 12, .int 1, .ref a0]) E hml hl.1 (y_get_v42 l D cI cS τ ρ hW H_177 hT_180 a0 ha0) lk_X12_99 yd_X12_get hT_180 ha0 rfl (by decide) hS_180 (fun _ h => h.elim) ⟨by decide, by decide⟩ (Nat.le_of_ble_eq_true rfl) ⟨by decide, by decide⟩ rfl dX12_ticks_37 (fun r_189 H_189 locs_189 p_189 hT_189 hk_189 hS_189 => ?_)
          have p_189 : H_177 = H_189 ∧ (ai H_177 (ρ a0 0) 300 = r_189) := p_189
          obtain ⟨rfl, p_189_0⟩ := p_189
          have s_189 : r_189 = r_180 := p_189_0.symm.trans p_180_0
          refine th_topi s_189 ?_
          refine lv_iconst (v := 1) hx hb dX12_ticks_40 (by decide) ?_
          refine lv_isub hx hb dX12_ticks_41 ?_
          refine lv_topi (fun x_190 ex_190 => ?_)
          refine th_Vv (As := [.int 1, .int 12, .int x_190]) (rest := []) E hml hl.1 (y_set_v60 l D cI cS τ ρ hW H_177 hT_189 a0 x_190 ha0) lk_X12_95 yd_X12_set hT_189 ha0 rfl (by decide) hS_189 (fun q h => (Or.inl h)) ⟨by decide, by decide⟩ (Nat.le_of_ble_eq_true rfl) ⟨by decide, by decide⟩ rfl dX12_ticks_42 (fun H_191 locs_191 p_191 hT_191 hk_191 hS_191 => ?_)
          have p_191 : (AU 985 H_177 H_191 (ρ a0 0) 300 x_190) := p_191
          have hW_191 : PW N H_191 (ρ a0 0) := PW.put p_177_0.1 p_191 (by show (-2147483648 : Int) ≤ _; exact i_min _) (by show _ ≤ (2147483647 : Int); exact i_max _)
          refine lv_aload_n hx hb dX12_ticks_45 rfl (lv_at hl 1 rfl) ?_
          refine lv_iload_n hx hb dX12_ticks_46 rfl (lv_at hl 0 rfl) ?_
          refine lv_bipush (v := 12) hx hb dX12_ticks_47 (by decide) ?_
          refine th_Vi (As := [.int 1, .int 12]) (rest := []) E hml hl.1 (y_get_v42 l D cI cS τ ρ hW H_191 hT_191 a0 ha0) lk_X12_99 yd_X12_get hT_191 ha0 rfl (by decide) hS_191 (fun _ h => h.elim) ⟨by decide, by decide⟩ (Nat.le_of_ble_eq_true rfl) ⟨by decide, by decide⟩ rfl dX12_ticks_49 (fun r_192 H_192 locs_192 p_192 hT_192 hk_192 hS_192 => ?_)
          have p_192 : H_191 = H_192 ∧ (ai H_191 (ρ a0 0) 300 = r_192) := p_192
          obtain ⟨rfl, p_192_0⟩ := p_192
          have s_192 : r_192 = x_190 := p_192_0.symm.trans (AU.s p_191 (by decide))
          refine th_topi s_192 ?_
          refine lv_if_ne (tgt := 60) hx hb dX12_ticks_52 (by decide) (fun c_193 => ?_) (fun c_193 => ?_)
          · have f_193 : ¬ x_190.toInt = 0 := r_ne rfl (by decide) c_193
            have nz_x_190 : ¬ x_190 = 0 := c_193
            refine lv_aload_n hx hb dX12_ticks_60 rfl (lv_at hl 1 rfl) ?_
            refine lv_iload_n hx hb dX12_ticks_61 rfl (lv_at hl 0 rfl) ?_
            refine lv_bipush (v := 11) hx hb dX12_ticks_62 (by decide) ?_
            refine th_Vi (As := [.int 1, .int 11]) (rest := []) E hml hl.1 (y_get_v39 l D cI cS τ ρ hW H_191 hT_192 a0 ha0) lk_X12_99 yd_X12_get hT_192 ha0 rfl (by decide) hS_192 (fun _ h => h.elim) ⟨by decide, by decide⟩ (Nat.le_of_ble_eq_true rfl) ⟨by decide, by decide⟩ rfl dX12_ticks_64 (fun r_194 H_194 locs_194 p_194 hT_194 hk_194 hS_194 => ?_)
            have p_194 : H_191 = H_194 ∧ (ai H_191 (ρ a0 0) 299 = r_194) := p_194
            obtain ⟨rfl, p_194_0⟩ := p_194
            have t_194 : ai H_177 (ρ a0 0) 299 = r_194 := (AU.o p_191 (by decide) (by decide)).symm.trans p_194_0
            have c_r_194 := congrArg Int32.toInt t_194
            refine lv_if_le (tgt := 75) hx hb dX12_ticks_67 (by decide) (fun c_195 => ?_) (fun c_195 => ?_)
            · have f_195 : r_194.toInt ≤ 0 := r_le rfl (by decide) c_195
              refine lv_iinc (v := 2) (lv' := [(1, .int 2), (0, .ref a0)]) hx hb dX12_ticks_75 hl (k := 0) rfl (by decide) (by decide) rfl (fun ls hl => ?_)
              refine lv_goto (tgt := 14) hx hb dX12_ticks_78 (by decide) ?_
              refine lv_iload_n hx hb dX12_ticks_14 rfl (lv_at hl 0 rfl) ?_
              refine lv_iconst (v := 2) hx hb dX12_ticks_15 (by decide) ?_
              refine lv_icmp_ge (tgt := 81) hx hb dX12_ticks_16 (by decide) (fun c_197 => ?_) (fun c_197 => absurd (by decide) c_197)
              exact th_vret E hr hlk hs hT_194 hS_194 ⟨hW_191, (QS.same (AU.o p_191 (by decide) (by decide)) (AU.o p_191 (by decide) (by decide)) p_177_0.2.1), (QS.same (AU.o p_191 (by decide) (by decide)) (AU.o p_191 (by decide) (by decide)) p_177_0.2.2.1), (PL.q (p_191.2 _ (th_ne (hW _ 12 2 ha0 (by decide) (by decide) (by decide)) (hW _ 12 0 ha0 (by decide) (by decide) (by decide)) (by decide))) p_177_0.2.2.2.1), (PL.q (p_191.2 _ (th_ne (hW _ 12 3 ha0 (by decide) (by decide) (by decide)) (hW _ 12 0 ha0 (by decide) (by decide) (by decide)) (by decide))) p_177_0.2.2.2.2.1), (IF.q (p_191.2 _ (th_ne ha0 (hW _ 12 0 ha0 (by decide) (by decide) (by decide)) (by decide))) p_177_0.2.2.2.2.2)⟩ dX12_ticks_81
            · have f_195 : 0 < r_194.toInt := r_nle rfl (by decide) c_195
              refine lv_aload_n hx hb dX12_ticks_70 rfl (lv_at hl 1 rfl) ?_
              refine lv_iload_n hx hb dX12_ticks_71 rfl (lv_at hl 0 rfl) ?_
              refine th_Vv (As := [.int 1]) (rest := []) E hml hl.1 (y_clocks_v2 l D cI cS τ ρ hW H_191 hT_194 a0 ha0 N hN0 hN1 ⟨hW_191, (QS.same (AU.o p_191 (by decide) (by decide)) (AU.o p_191 (by decide) (by decide)) p_177_0.2.1), (QS.same (AU.o p_191 (by decide) (by decide)) (AU.o p_191 (by decide) (by decide)) p_177_0.2.2.1), (PL.q (p_191.2 _ (th_ne (hW _ 12 2 ha0 (by decide) (by decide) (by decide)) (hW _ 12 0 ha0 (by decide) (by decide) (by decide)) (by decide))) p_177_0.2.2.2.1), (PL.q (p_191.2 _ (th_ne (hW _ 12 3 ha0 (by decide) (by decide) (by decide)) (hW _ 12 0 ha0 (by decide) (by decide) (by decide)) (by decide))) p_177_0.2.2.2.2.1), (IF.q (p_191.2 _ (th_ne ha0 (hW _ 12 0 ha0 (by decide) (by decide) (by decide)) (by decide))) p_177_0.2.2.2.2.2)⟩) lk_X12_269 yd_X12_clocks hT_194 ha0 rfl (by decide) hS_194 (fun q => (fun h => h.elim (fun h => (Or.inl h)) (fun h => (Or.inr h)))) ⟨by decide, by decide⟩ (Nat.le_of_ble_eq_true rfl) ⟨by decide, by decide⟩ rfl dX12_ticks_72 (fun H_198 locs_198 p_198 hT_198 hk_198 hS_198 => ?_)
              have p_198 : (IM D ρ N H_198 a0) ∧ ((ai H_191 (ρ a0 0) 976).toInt ≤ (ai H_198 (ρ a0 0) 976).toInt) := p_198
              obtain ⟨p_198_0, p_198_1⟩ := p_198
              have mn_198 : (ai H_177 (ρ a0 0) 976).toInt ≤ (ai H_198 (ρ a0 0) 976).toInt := by have h := p_198_1; rw [(AU.o p_191 (by decide) (by decide))] at h; exact h
              refine lv_iinc (v := 2) (lv' := [(1, .int 2), (0, .ref a0)]) hx hb dX12_ticks_75 hl (k := 0) rfl (by decide) (by decide) rfl (fun ls hl => ?_)
              refine lv_goto (tgt := 14) hx hb dX12_ticks_78 (by decide) ?_
              refine lv_iload_n hx hb dX12_ticks_14 rfl (lv_at hl 0 rfl) ?_
              refine lv_iconst (v := 2) hx hb dX12_ticks_15 (by decide) ?_
              refine lv_icmp_ge (tgt := 81) hx hb dX12_ticks_16 (by decide) (fun c_200 => ?_) (fun c_200 => absurd (by decide) c_200)
              exact th_vret E hr hlk hs hT_198 hS_198 ⟨p_198_0.1, p_198_0.2.1, p_198_0.2.2.1, p_198_0.2.2.2.1, p_198_0.2.2.2.2.1, p_198_0.2.2.2.2.2⟩ dX12_ticks_81
          · have f_193 : x_190.toInt = 0 := r_eq rfl (by decide) c_193
            refine lv_aload_n hx hb dX12_ticks_55 rfl (lv_at hl 1 rfl) ?_
            refine lv_iload_n hx hb dX12_ticks_56 rfl (lv_at hl 0 rfl) ?_
            refine th_Vv (As := [.int 1]) (rest := []) E hml hl.1 (y_shuts_v2 l D cI cS τ ρ hW H_191 hT_192 a0 ha0 N hN0 hN1 ⟨hW_191, (QS.same (AU.o p_191 (by decide) (by decide)) (AU.o p_191 (by decide) (by decide)) p_177_0.2.1), (QS.same (AU.o p_191 (by decide) (by decide)) (AU.o p_191 (by decide) (by decide)) p_177_0.2.2.1), (PL.q (p_191.2 _ (th_ne (hW _ 12 2 ha0 (by decide) (by decide) (by decide)) (hW _ 12 0 ha0 (by decide) (by decide) (by decide)) (by decide))) p_177_0.2.2.2.1), (PL.q (p_191.2 _ (th_ne (hW _ 12 3 ha0 (by decide) (by decide) (by decide)) (hW _ 12 0 ha0 (by decide) (by decide) (by decide)) (by decide))) p_177_0.2.2.2.2.1), (IF.q (p_191.2 _ (th_ne ha0 (hW _ 12 0 ha0 (by decide) (by decide) (by decide)) (by decide))) p_177_0.2.2.2.2.2)⟩) lk_X12_180 yd_X12_shuts hT_192 ha0 rfl (by decide) hS_192 (fun q h => (Or.inl h)) ⟨by decide, by decide⟩ (Nat.le_of_ble_eq_true rfl) ⟨by decide, by decide⟩ rfl dX12_ticks_57 (fun H_201 locs_201 p_201 hT_201 hk_201 hS_201 => ?_)
            have p_201 : (IM D ρ N H_201 a0) ∧ ((ai H_191 (ρ a0 0) 976).toInt ≤ (ai H_201 (ρ a0 0) 976).toInt) := p_201
            obtain ⟨p_201_0, p_201_1⟩ := p_201
            have mn_201 : (ai H_177 (ρ a0 0) 976).toInt ≤ (ai H_201 (ρ a0 0) 976).toInt := by have h := p_201_1; rw [(AU.o p_191 (by decide) (by decide))] at h; exact h
            refine lv_aload_n hx hb dX12_ticks_60 rfl (lv_at hl 1 rfl) ?_
            refine lv_iload_n hx hb dX12_ticks_61 rfl (lv_at hl 0 rfl) ?_
            refine lv_bipush (v := 11) hx hb dX12_ticks_62 (by decide) ?_
            refine th_Vi (As := [.int 1, .int 11]) (rest := []) E hml hl.1 (y_get_v39 l D cI cS τ ρ hW H_201 hT_201 a0 ha0) lk_X12_99 yd_X12_get hT_201 ha0 rfl (by decide) hS_201 (fun _ h => h.elim) ⟨by decide, by decide⟩ (Nat.le_of_ble_eq_true rfl) ⟨by decide, by decide⟩ rfl dX12_ticks_64 (fun r_202 H_202 locs_202 p_202 hT_202 hk_202 hS_202 => ?_)
            have p_202 : H_201 = H_202 ∧ (ai H_201 (ρ a0 0) 299 = r_202) := p_202
            obtain ⟨rfl, p_202_0⟩ := p_202
            have c_r_202 := congrArg Int32.toInt p_202_0
            refine lv_if_le (tgt := 75) hx hb dX12_ticks_67 (by decide) (fun c_203 => ?_) (fun c_203 => ?_)
            · have f_203 : r_202.toInt ≤ 0 := r_le rfl (by decide) c_203
              refine lv_iinc (v := 2) (lv' := [(1, .int 2), (0, .ref a0)]) hx hb dX12_ticks_75 hl (k := 0) rfl (by decide) (by decide) rfl (fun ls hl => ?_)
              refine lv_goto (tgt := 14) hx hb dX12_ticks_78 (by decide) ?_
              refine lv_iload_n hx hb dX12_ticks_14 rfl (lv_at hl 0 rfl) ?_
              refine lv_iconst (v := 2) hx hb dX12_ticks_15 (by decide) ?_
              refine lv_icmp_ge (tgt := 81) hx hb dX12_ticks_16 (by decide) (fun c_205 => ?_) (fun c_205 => absurd (by decide) c_205)
              exact th_vret E hr hlk hs hT_202 hS_202 ⟨p_201_0.1, p_201_0.2.1, p_201_0.2.2.1, p_201_0.2.2.2.1, p_201_0.2.2.2.2.1, p_201_0.2.2.2.2.2⟩ dX12_ticks_81
            · have f_203 : 0 < r_202.toInt := r_nle rfl (by decide) c_203
              refine lv_aload_n hx hb dX12_ticks_70 rfl (lv_at hl 1 rfl) ?_
              refine lv_iload_n hx hb dX12_ticks_71 rfl (lv_at hl 0 rfl) ?_
              refine th_Vv (As := [.int 1]) (rest := []) E hml hl.1 (y_clocks_v2 l D cI cS τ ρ hW H_201 hT_202 a0 ha0 N hN0 hN1 ⟨p_201_0.1, p_201_0.2.1, p_201_0.2.2.1, p_201_0.2.2.2.1, p_201_0.2.2.2.2.1, p_201_0.2.2.2.2.2⟩) lk_X12_269 yd_X12_clocks hT_202 ha0 rfl (by decide) hS_202 (fun q => (fun h => h.elim (fun h => (Or.inl h)) (fun h => (Or.inr h)))) ⟨by decide, by decide⟩ (Nat.le_of_ble_eq_true rfl) ⟨by decide, by decide⟩ rfl dX12_ticks_72 (fun H_206 locs_206 p_206 hT_206 hk_206 hS_206 => ?_)
              have p_206 : (IM D ρ N H_206 a0) ∧ ((ai H_201 (ρ a0 0) 976).toInt ≤ (ai H_206 (ρ a0 0) 976).toInt) := p_206
              obtain ⟨p_206_0, p_206_1⟩ := p_206
              have mn_206 : (ai H_201 (ρ a0 0) 976).toInt ≤ (ai H_206 (ρ a0 0) 976).toInt := by exact p_206_1
              refine lv_iinc (v := 2) (lv' := [(1, .int 2), (0, .ref a0)]) hx hb dX12_ticks_75 hl (k := 0) rfl (by decide) (by decide) rfl (fun ls hl => ?_)
              refine lv_goto (tgt := 14) hx hb dX12_ticks_78 (by decide) ?_
              refine lv_iload_n hx hb dX12_ticks_14 rfl (lv_at hl 0 rfl) ?_
              refine lv_iconst (v := 2) hx hb dX12_ticks_15 (by decide) ?_
              refine lv_icmp_ge (tgt := 81) hx hb dX12_ticks_16 (by decide) (fun c_208 => ?_) (fun c_208 => absurd (by decide) c_208)
              exact th_vret E hr hlk hs hT_206 hS_206 ⟨p_206_0.1, p_206_0.2.1, p_206_0.2.2.1, p_206_0.2.2.2.1, p_206_0.2.2.2.2.1, p_206_0.2.2.2.2.2⟩ dX12_ticks_81
set_option maxHeartbeats 4000000 in
set_option maxRecDepth 100000 in
/-- the reference: in -/
theorem y_in_v4 (l : Launch) (D : va_G) (cI cS : ClassId) (τ : Nat → Option Nat) (ρ : Nat → Nat → Nat) (hW : WF τ ρ) (H : Heap) (hT : TH D cI cS τ ρ H) : MI l D cI cS τ ρ yX12_in cX12_in 6 (some .boolean) 0 0 H [.long 0, .long 0, .long 1] (fun (r : Int32) (u : Heap) => (H = u) ∧ (r = 0 ∨ r = 1) ∧ ((r.toInt = 1 ∧ 0 ≤ 0 ∧ 0 ≤ 1) ∨ (r.toInt = 0 ∧ (0 < 0 ∨ 1 < 0)))) (fun q => False) := by
  refine MI.of (by decide) (Nat.le_of_ble_eq_true rfl) ?_
  intro p e s m args below meth c E hml hr hlk hs ls hl
  have hx := E.1
  have hb := E.2.1
  have hown := E.2.2.1
  have hts := E.2.2.2.1
  have hS : SS (fun q => False) H H [] := SS.rf
  have hl : lv_has ls 6 [(0, .long 0), (2, .long 0), (4, .long 1)] := hl
  refine lv_lload_n hx hb dX12_in_0 rfl (lv_at hl 0 rfl) ?_
  refine lv_lload_n hx hb dX12_in_1 rfl (lv_at hl 1 rfl) ?_
  refine W.lcmp hx hb dX12_in_2 ?_
  refine lv_topi (fun x_1 ex_1 => ?_)
  have q_1 := l_cmp (a := (0 : Int64)) (b := (0 : Int64)) (m := 0) (n := 0) (by decide) (by decide) ex_1
  refine lv_if_lt (tgt := 17) hx hb dX12_in_3 (by decide) (fun c_2 => ?_) (fun c_2 => ?_)
  · have f_2 : x_1.toInt < 0 := r_lt rfl (by decide) c_2
    refine lv_iconst (v := 0) hx hb dX12_in_17 (by decide) ?_
    exact th_zret E hr hlk hs (Or.inl rfl) hT hS ⟨rfl, (Or.inl rfl), (by have : (0 : Int32).toInt = 0 := (by decide); omega)⟩ dX12_in_18
  · have f_2 : 0 ≤ x_1.toInt := r_nlt rfl (by decide) c_2
    refine lv_lload_n hx hb dX12_in_6 rfl (lv_at hl 0 rfl) ?_
    refine lv_lload hx hb dX12_in_7 (lv_at hl 2 rfl) ?_
    refine W.lcmp hx hb dX12_in_9 ?_
    refine lv_topi (fun x_3 ex_3 => ?_)
    have q_3 := l_cmp (a := (0 : Int64)) (b := (1 : Int64)) (m := 0) (n := 1) (by decide) (by decide) ex_3
    refine lv_if_gt (tgt := 17) hx hb dX12_in_10 (by decide) (fun c_4 => ?_) (fun c_4 => ?_)
    · have f_4 : 0 < x_3.toInt := r_lt (by decide) rfl c_4
      refine lv_iconst (v := 0) hx hb dX12_in_17 (by decide) ?_
      exact th_zret E hr hlk hs (Or.inl rfl) hT hS ⟨rfl, (Or.inl rfl), (by have : (0 : Int32).toInt = 0 := (by decide); omega)⟩ dX12_in_18
    · have f_4 : x_3.toInt ≤ 0 := r_nlt (by decide) rfl c_4
      refine lv_iconst (v := 1) hx hb dX12_in_13 (by decide) ?_
      refine lv_goto (tgt := 18) hx hb dX12_in_14 (by decide) ?_
      exact th_zret E hr hlk hs (Or.inr rfl) hT hS ⟨rfl, (Or.inr rfl), (by have : (1 : Int32).toInt = 1 := (by decide); omega)⟩ dX12_in_18
set_option maxHeartbeats 4000000 in
set_option maxRecDepth 100000 in
/-- the reference: isEnd -/
theorem y_isEnd (l : Launch) (D : va_G) (cI cS : ClassId) (τ : Nat → Option Nat) (ρ : Nat → Nat → Nat) (hW : WF τ ρ) (H : Heap) (hT : TH D cI cS τ ρ H) : MI l D cI cS τ ρ yX12_isEnd cX12_isEnd 1 (some .boolean) 1 25 H [.int 0] (fun (r : Int32) (u : Heap) => (H = u) ∧ (r = 0 ∨ r = 1) ∧ ((r.toInt = 1 ∧ 0 ≤ 0 ∧ 0 ≤ 1) ∨ (r.toInt = 0 ∧ (0 < 0 ∨ 1 < 0)))) (fun q => False) := by
  refine MI.of (by decide) (Nat.le_of_ble_eq_true rfl) ?_
  intro p e s m args below meth c E hml hr hlk hs ls hl
  have hx := E.1
  have hb := E.2.1
  have hown := E.2.2.1
  have hts := E.2.2.2.1
  have hS : SS (fun q => False) H H [] := SS.rf
  have hl : lv_has ls 1 [(0, .int 0)] := hl
  refine lv_iload_n hx hb dX12_isEnd_0 rfl (lv_at hl 0 rfl) ?_
  refine lv_i2l (v := 0) hx hb dX12_isEnd_1 (by decide) ?_
  refine lv_lconst (v := 0) hx hb dX12_isEnd_2 (by decide) ?_
  refine lv_lconst (v := 1) hx hb dX12_isEnd_3 (by decide) ?_
  refine th_Si (As := [.long 0, .long 0, .long 1]) (rest := []) E hml hl.1 (y_in_v4 l D cI cS τ ρ hW H hT) lk_X12_54 yd_X12_in hS (fun _ h => h.elim) ⟨by decide, by decide⟩ (Nat.le_of_ble_eq_true rfl) ⟨by decide, by decide⟩ rfl dX12_isEnd_4 (fun r_2 H_2 locs_2 p_2 hT_2 hk_2 hS_2 => ?_)
  have p_2 : H = H_2 ∧ (r_2 = 0 ∨ r_2 = 1) ∧ ((r_2.toInt = 1 ∧ 0 ≤ 0 ∧ 0 ≤ 1) ∨ (r_2.toInt = 0 ∧ (0 < 0 ∨ 1 < 0))) := p_2
  obtain ⟨rfl, p_2_0, p_2_1⟩ := p_2
  have z_2 := b_iv p_2_0
  exact th_zret E hr hlk hs p_2_0 hT_2 hS_2 ⟨rfl, p_2_0, (by omega)⟩ dX12_isEnd_7
set_option maxHeartbeats 4000000 in
set_option maxRecDepth 100000 in
/-- the reference: in -/
theorem y_in_v5 (l : Launch) (D : va_G) (cI cS : ClassId) (τ : Nat → Option Nat) (ρ : Nat → Nat → Nat) (hW : WF τ ρ) (H : Heap) (hT : TH D cI cS τ ρ H) (x0 : Int64) : MI l D cI cS τ ρ yX12_in cX12_in 6 (some .boolean) 0 0 H [.long x0, .long 0, .long 1] (fun (r : Int32) (u : Heap) => (H = u) ∧ (r = 0 ∨ r = 1) ∧ ((r.toInt = 1 ∧ 0 ≤ x0.toInt ∧ x0.toInt ≤ 1) ∨ (r.toInt = 0 ∧ (x0.toInt < 0 ∨ 1 < x0.toInt)))) (fun q => False) := by
  refine MI.of (by decide) (Nat.le_of_ble_eq_true rfl) ?_
  intro p e s m args below meth c E hml hr hlk hs ls hl
  have hx := E.1
  have hb := E.2.1
  have hown := E.2.2.1
  have hts := E.2.2.2.1
  have hS : SS (fun q => False) H H [] := SS.rf
  have hl : lv_has ls 6 [(0, .long x0), (2, .long 0), (4, .long 1)] := hl
  refine lv_lload_n hx hb dX12_in_0 rfl (lv_at hl 0 rfl) ?_
  refine lv_lload_n hx hb dX12_in_1 rfl (lv_at hl 1 rfl) ?_
  refine W.lcmp hx hb dX12_in_2 ?_
  refine lv_topi (fun x_1 ex_1 => ?_)
  have q_1 := l_cmp (a := x0) (b := (0 : Int64)) (m := x0.toInt) (n := 0) rfl (by decide) ex_1
  refine lv_if_lt (tgt := 17) hx hb dX12_in_3 (by decide) (fun c_2 => ?_) (fun c_2 => ?_)
  · have f_2 : x_1.toInt < 0 := r_lt rfl (by decide) c_2
    refine lv_iconst (v := 0) hx hb dX12_in_17 (by decide) ?_
    exact th_zret E hr hlk hs (Or.inl rfl) hT hS ⟨rfl, (Or.inl rfl), (by have : (0 : Int32).toInt = 0 := (by decide); omega)⟩ dX12_in_18
  · have f_2 : 0 ≤ x_1.toInt := r_nlt rfl (by decide) c_2
    refine lv_lload_n hx hb dX12_in_6 rfl (lv_at hl 0 rfl) ?_
    refine lv_lload hx hb dX12_in_7 (lv_at hl 2 rfl) ?_
    refine W.lcmp hx hb dX12_in_9 ?_
    refine lv_topi (fun x_3 ex_3 => ?_)
    have q_3 := l_cmp (a := x0) (b := (1 : Int64)) (m := x0.toInt) (n := 1) rfl (by decide) ex_3
    refine lv_if_gt (tgt := 17) hx hb dX12_in_10 (by decide) (fun c_4 => ?_) (fun c_4 => ?_)
    · have f_4 : 0 < x_3.toInt := r_lt (by decide) rfl c_4
      refine lv_iconst (v := 0) hx hb dX12_in_17 (by decide) ?_
      exact th_zret E hr hlk hs (Or.inl rfl) hT hS ⟨rfl, (Or.inl rfl), (by have : (0 : Int32).toInt = 0 := (by decide); omega)⟩ dX12_in_18
    · have f_4 : x_3.toInt ≤ 0 := r_nlt (by decide) rfl c_4
      refine lv_iconst (v := 1) hx hb dX12_in_13 (by decide) ?_
      refine lv_goto (tgt := 18) hx hb dX12_in_14 (by decide) ?_
      exact th_zret E hr hlk hs (Or.inr rfl) hT hS ⟨rfl, (Or.inr rfl), (by have : (1 : Int32).toInt = 1 := (by decide); omega)⟩ dX12_in_18
set_option maxHeartbeats 4000000 in
set_option maxRecDepth 100000 in
/-- the reference: set -/
theorem y_set_v67 (l : Launch) (D : va_G) (cI cS : ClassId) (τ : Nat → Option Nat) (ρ : Nat → Nat → Nat) (hW : WF τ ρ) (H : Heap) (hT : TH D cI cS τ ρ H) (a0 : Nat) (ha0 : τ a0 = some 12) : MV l D cI cS τ ρ yX12_set cX12_set 4 none 0 0 H [.ref a0, .int 0, .int 3, .int 1] (fun (u : Heap) => (AU 985 H u (ρ a0 0) 3 (1))) (fun q => q = ρ a0 0) := by
  refine MV.of (by decide) (Nat.le_of_ble_eq_true rfl) ?_
  intro p e s m args below meth c E hml hr hlk hs ls hl
  have hx := E.1
  have hb := E.2.1
  have hown := E.2.2.1
  have hts := E.2.2.2.1
  have hS : SS (fun q => q = ρ a0 0) H H [] := SS.rf
  have hl : lv_has ls 4 [(0, .ref a0), (1, .int 0), (2, .int 3), (3, .int 1)] := hl
  refine lv_aload_n hx hb dX12_set_0 rfl (lv_at hl 0 rfl) ?_
  refine gf_X12_7 E hT hW ha0 dX12_set_1 (fun h_1 => ?_)
  refine lv_sipush (v := 288) hx hb dX12_set_4 (by decide) ?_
  refine lv_iload_n hx hb dX12_set_7 rfl (lv_at hl 1 rfl) ?_
  refine lv_imul hx hb dX12_set_8 ?_
  refine th_topi (y := 0) (by decide) ?_
  refine lv_iload_n hx hb dX12_set_9 rfl (lv_at hl 2 rfl) ?_
  refine lv_iadd hx hb dX12_set_10 ?_
  refine th_topi (y := 3) (by decide) ?_
  refine lv_iload_n hx hb dX12_set_11 rfl (lv_at hl 3 rfl) ?_
  refine th_iast E hT hS h_1 rfl (by decide) (vp_in_iff.mpr ⟨by decide, by decide⟩) dX12_set_12 (fun H_2 locs_2 hT_2 hU_2 hS_2 => ?_)
  have hU_2 : AU 985 H H_2 (ρ a0 0) 3 (1) := hU_2
  exact th_vret E hr hlk hs hT_2 hS_2 hU_2 dX12_set_13
set_option maxHeartbeats 4000000 in
set_option maxRecDepth 100000 in
/-- the reference: set -/
theorem y_set_v68 (l : Launch) (D : va_G) (cI cS : ClassId) (τ : Nat → Option Nat) (ρ : Nat → Nat → Nat) (hW : WF τ ρ) (H : Heap) (hT : TH D cI cS τ ρ H) (a0 : Nat) (ha0 : τ a0 = some 12) : MV l D cI cS τ ρ yX12_set cX12_set 4 none 0 0 H [.ref a0, .int 0, .int 6, .int 1] (fun (u : Heap) => (AU 985 H u (ρ a0 0) 6 (1))) (fun q => q = ρ a0 0) := by
  refine MV.of (by decide) (Nat.le_of_ble_eq_true rfl) ?_
  intro p e s m args below meth c E hml hr hlk hs ls hl
  have hx := E.1
  have hb := E.2.1
  have hown := E.2.2.1
  have hts := E.2.2.2.1
  have hS : SS (fun q => q = ρ a0 0) H H [] := SS.rf
  have hl : lv_has ls 4 [(0, .ref a0), (1, .int 0), (2, .int 6), (3, .int 1)] := hl
  refine lv_aload_n hx hb dX12_set_0 rfl (lv_at hl 0 rfl) ?_
  refine gf_X12_7 E hT hW ha0 dX12_set_1 (fun h_1 => ?_)
  refine lv_sipush (v := 288) hx hb dX12_set_4 (by decide) ?_
  refine lv_iload_n hx hb dX12_set_7 rfl (lv_at hl 1 rfl) ?_
  refine lv_imul hx hb dX12_set_8 ?_
  refine th_topi (y := 0) (by decide) ?_
  refine lv_iload_n hx hb dX12_set_9 rfl (lv_at hl 2 rfl) ?_
  refine lv_iadd hx hb dX12_set_10 ?_
  refine th_topi (y := 6) (by decide) ?_
  refine lv_iload_n hx hb dX12_set_11 rfl (lv_at hl 3 rfl) ?_
  refine th_iast E hT hS h_1 rfl (by decide) (vp_in_iff.mpr ⟨by decide, by decide⟩) dX12_set_12 (fun H_2 locs_2 hT_2 hU_2 hS_2 => ?_)
  have hU_2 : AU 985 H H_2 (ρ a0 0) 6 (1) := hU_2
  exact th_vret E hr hlk hs hT_2 hS_2 hU_2 dX12_set_13
set_option maxHeartbeats 4000000 in
set_option maxRecDepth 100000 in
/-- the reference: set -/
theorem y_set_v69 (l : Launch) (D : va_G) (cI cS : ClassId) (τ : Nat → Option Nat) (ρ : Nat → Nat → Nat) (hW : WF τ ρ) (H : Heap) (hT : TH D cI cS τ ρ H) (a0 : Nat) (x2 : Int32) (ha0 : τ a0 = some 12) : MV l D cI cS τ ρ yX12_set cX12_set 4 none 0 0 H [.ref a0, .int 0, .int 7, .int x2] (fun (u : Heap) => (AU 985 H u (ρ a0 0) 7 x2)) (fun q => q = ρ a0 0) := by
  refine MV.of (by decide) (Nat.le_of_ble_eq_true rfl) ?_
  intro p e s m args below meth c E hml hr hlk hs ls hl
  have hx := E.1
  have hb := E.2.1
  have hown := E.2.2.1
  have hts := E.2.2.2.1
  have hS : SS (fun q => q = ρ a0 0) H H [] := SS.rf
  have hl : lv_has ls 4 [(0, .ref a0), (1, .int 0), (2, .int 7), (3, .int x2)] := hl
  refine lv_aload_n hx hb dX12_set_0 rfl (lv_at hl 0 rfl) ?_
  refine gf_X12_7 E hT hW ha0 dX12_set_1 (fun h_1 => ?_)
  refine lv_sipush (v := 288) hx hb dX12_set_4 (by decide) ?_
  refine lv_iload_n hx hb dX12_set_7 rfl (lv_at hl 1 rfl) ?_
  refine lv_imul hx hb dX12_set_8 ?_
  refine th_topi (y := 0) (by decide) ?_
  refine lv_iload_n hx hb dX12_set_9 rfl (lv_at hl 2 rfl) ?_
  refine lv_iadd hx hb dX12_set_10 ?_
  refine th_topi (y := 7) (by decide) ?_
  refine lv_iload_n hx hb dX12_set_11 rfl (lv_at hl 3 rfl) ?_
  refine th_iast E hT hS h_1 rfl (by decide) (vp_in_iff.mpr ⟨by decide, by decide⟩) dX12_set_12 (fun H_2 locs_2 hT_2 hU_2 hS_2 => ?_)
  have hU_2 : AU 985 H H_2 (ρ a0 0) 7 x2 := hU_2
  exact th_vret E hr hlk hs hT_2 hS_2 hU_2 dX12_set_13
set_option maxHeartbeats 4000000 in
set_option maxRecDepth 100000 in
/-- the reference: set -/
theorem y_set_v70 (l : Launch) (D : va_G) (cI cS : ClassId) (τ : Nat → Option Nat) (ρ : Nat → Nat → Nat) (hW : WF τ ρ) (H : Heap) (hT : TH D cI cS τ ρ H) (a0 : Nat) (ha0 : τ a0 = some 12) : MV l D cI cS τ ρ yX12_set cX12_set 4 none 0 0 H [.ref a0, .int 0, .int 8, .int 6] (fun (u : Heap) => (AU 985 H u (ρ a0 0) 8 (6))) (fun q => q = ρ a0 0) := by
  refine MV.of (by decide) (Nat.le_of_ble_eq_true rfl) ?_
  intro p e s m args below meth c E hml hr hlk hs ls hl
  have hx := E.1
  have hb := E.2.1
  have hown := E.2.2.1
  have hts := E.2.2.2.1
  have hS : SS (fun q => q = ρ a0 0) H H [] := SS.rf
  have hl : lv_has ls 4 [(0, .ref a0), (1, .int 0), (2, .int 8), (3, .int 6)] := hl
  refine lv_aload_n hx hb dX12_set_0 rfl (lv_at hl 0 rfl) ?_
  refine gf_X12_7 E hT hW ha0 dX12_set_1 (fun h_1 => ?_)
  refine lv_sipush (v := 288) hx hb dX12_set_4 (by decide) ?_
  refine lv_iload_n hx hb dX12_set_7 rfl (lv_at hl 1 rfl) ?_
  refine lv_imul hx hb dX12_set_8 ?_
  refine th_topi (y := 0) (by decide) ?_
  refine lv_iload_n hx hb dX12_set_9 rfl (lv_at hl 2 rfl) ?_
  refine lv_iadd hx hb dX12_set_10 ?_
  refine th_topi (y := 8) (by decide) ?_
  refine lv_iload_n hx hb dX12_set_11 rfl (lv_at hl 3 rfl) ?_
  refine th_iast E hT hS h_1 rfl (by decide) (vp_in_iff.mpr ⟨by decide, by decide⟩) dX12_set_12 (fun H_2 locs_2 hT_2 hU_2 hS_2 => ?_)
  have hU_2 : AU 985 H H_2 (ρ a0 0) 8 (6) := hU_2
  exact th_vret E hr hlk hs hT_2 hS_2 hU_2 dX12_set_13
set_option maxHeartbeats 4000000 in
set_option maxRecDepth 100000 in
/-- the reference: set -/
theorem y_set_v71 (l : Launch) (D : va_G) (cI cS : ClassId) (τ : Nat → Option Nat) (ρ : Nat → Nat → Nat) (hW : WF τ ρ) (H : Heap) (hT : TH D cI cS τ ρ H) (a0 : Nat) (ha0 : τ a0 = some 12) : MV l D cI cS τ ρ yX12_set cX12_set 4 none 0 0 H [.ref a0, .int 0, .int 17, .int (-4)] (fun (u : Heap) => (AU 985 H u (ρ a0 0) 17 ((-4)))) (fun q => q = ρ a0 0) := by
  refine MV.of (by decide) (Nat.le_of_ble_eq_true rfl) ?_
  intro p e s m args below meth c E hml hr hlk hs ls hl
  have hx := E.1
  have hb := E.2.1
  have hown := E.2.2.1
  have hts := E.2.2.2.1
  have hS : SS (fun q => q = ρ a0 0) H H [] := SS.rf
  have hl : lv_has ls 4 [(0, .ref a0), (1, .int 0), (2, .int 17), (3, .int (-4))] := hl
  refine lv_aload_n hx hb dX12_set_0 rfl (lv_at hl 0 rfl) ?_
  refine gf_X12_7 E hT hW ha0 dX12_set_1 (fun h_1 => ?_)
  refine lv_sipush (v := 288) hx hb dX12_set_4 (by decide) ?_
  refine lv_iload_n hx hb dX12_set_7 rfl (lv_at hl 1 rfl) ?_
  refine lv_imul hx hb dX12_set_8 ?_
  refine th_topi (y := 0) (by decide) ?_
  refine lv_iload_n hx hb dX12_set_9 rfl (lv_at hl 2 rfl) ?_
  refine lv_iadd hx hb dX12_set_10 ?_
  refine th_topi (y := 17) (by decide) ?_
  refine lv_iload_n hx hb dX12_set_11 rfl (lv_at hl 3 rfl) ?_
  refine th_iast E hT hS h_1 rfl (by decide) (vp_in_iff.mpr ⟨by decide, by decide⟩) dX12_set_12 (fun H_2 locs_2 hT_2 hU_2 hS_2 => ?_)
  have hU_2 : AU 985 H H_2 (ρ a0 0) 17 ((-4)) := hU_2
  exact th_vret E hr hlk hs hT_2 hS_2 hU_2 dX12_set_13
set_option maxHeartbeats 4000000 in
set_option maxRecDepth 100000 in
/-- the reference: starts -/
theorem y_starts (l : Launch) (D : va_G) (cI cS : ClassId) (τ : Nat → Option Nat) (ρ : Nat → Nat → Nat) (hW : WF τ ρ) (H : Heap) (hT : TH D cI cS τ ρ H) (a0 : Nat) (ha0 : τ a0 = some 12) (N : Int) (hN0 : 0 ≤ N) (hN1 : N ≤ 600) (hI : IM D ρ N H a0) : MV l D cI cS τ ρ yX12_starts cX12_starts 3 none 1 23 H [.ref a0, .int 0] (fun (u : Heap) => (IM D ρ N u a0) ∧ ((ai u (ρ a0 0) 2).toInt ≤ N + 1)) (fun q => q = ρ a0 0) := by
  refine MV.of (by decide) (Nat.le_of_ble_eq_true rfl) ?_
  intro p e s m args below meth c E hml hr hlk hs ls hl
  have hx := E.1
  have hb := E.2.1
  have hown := E.2.2.1
  have hts := E.2.2.2.1
  have hS : SS (fun q => q = ρ a0 0) H H [] := SS.rf
  have hl : lv_has ls 3 [(0, .ref a0), (1, .int 0)] := hl
  have n01 := hI.2.2.2.2.2.1
  have n23 := hI.2.2.2.2.2.2.1
  have L_2 : ∀ (n : Nat) (H_c2 : Heap) (lc_c2 : List Loc) (ls : Array Slot) (y2_2 : Int32), TH D cI cS τ ρ H_c2 → SS (fun q => q = ρ a0 0) H H_c2 lc_c2 → lv_has ls 3 [(0, .ref a0), (1, .int 0), (2, .int y2_2)] → 0 ≤ y2_2.toInt → IM D ρ N H_c2 a0 → (ai H_c2 (ρ a0 0) 2).toInt ≤ N + 1 ∨ y2_2.toInt ≤ 2 → (288 - y2_2.toInt).toNat < n → W p l e (rmO 1 23) s m args below meth c H_c2 lc_c2 0 0 (MQ below (va_Qv (fun (u : Heap) => (IM D ρ N u a0) ∧ ((ai u (ρ a0 0) 2).toInt ≤ N + 1)) (Bt D cI cS τ ρ H) (fun q => q = ρ a0 0)) args s 0 0 (fun q => q = ρ a0 0)) (F0 m 2 ls []) := by
    intro n
    induction n with
    | zero => intro H_c2 lc_c2 ls y2_2 hT_c2 hS_c2 hl ly2_2 hI_c2 hx2_0 hm; exact absurd hm (Nat.not_lt_zero _)
    | succ n ih_2 =>
      intro H_c2 lc_c2 ls y2_2 hT_c2 hS_c2 hl ly2_2 hI_c2 hx2_0 hm_2
      refine lv_iload_n hx hb dX12_starts_2 rfl (lv_at hl 2 rfl) ?_
      refine lv_sipush (v := 288) hx hb dX12_starts_3 (by decide) ?_
      refine lv_icmp_ge (tgt := 28) hx hb dX12_starts_6 (by decide) (fun c_1 => ?_) (fun c_1 => ?_)
      · have f_1 : 288 ≤ y2_2.toInt := r_le (by decide) rfl c_1
        refine lv_aload_n hx hb dX12_starts_28 rfl (lv_at hl 0 rfl) ?_
        refine lv_iload_n hx hb dX12_starts_29 rfl (lv_at hl 1 rfl) ?_
        refine lv_iconst (v := 3) hx hb dX12_starts_30 (by decide) ?_
        refine lv_iconst (v := 1) hx hb dX12_starts_31 (by decide) ?_
        refine th_Vv (As := [.int 0, .int 3, .int 1]) (rest := []) E hml hl.1 (y_set_v67 l D cI cS τ ρ hW H_c2 hT_c2 a0 ha0) lk_X12_95 yd_X12_set hT_c2 ha0 rfl (by decide) hS_c2 (fun q h => h) ⟨by decide, by decide⟩ (Nat.le_of_ble_eq_true rfl) ⟨by decide, by decide⟩ rfl dX12_starts_32 (fun H_2 locs_2 p_2 hT_2 hk_2 hS_2 => ?_)
        have p_2 : (AU 985 H_c2 H_2 (ρ a0 0) 3 (1)) := p_2
        have hW_2 : PW N H_2 (ρ a0 0) := PW.put hI_c2.1 p_2 (by show (0 : Int) ≤ (1 : Int32).toInt; have : (1 : Int32).toInt = 1 := (by decide); omega) (by show _ ≤ (2147483647 : Int); exact i_max _)
        refine lv_aload_n hx hb dX12_starts_35 rfl (lv_at hl 0 rfl) ?_
        refine lv_iload_n hx hb dX12_starts_36 rfl (lv_at hl 1 rfl) ?_
        refine lv_bipush (v := 6) hx hb dX12_starts_37 (by decide) ?_
        refine lv_iconst (v := 1) hx hb dX12_starts_39 (by decide) ?_
        refine th_Vv (As := [.int 0, .int 6, .int 1]) (rest := []) E hml hl.1 (y_set_v68 l D cI cS τ ρ hW H_2 hT_2 a0 ha0) lk_X12_95 yd_X12_set hT_2 ha0 rfl (by decide) hS_2 (fun q h => h) ⟨by decide, by decide⟩ (Nat.le_of_ble_eq_true rfl) ⟨by decide, by decide⟩ rfl dX12_starts_40 (fun H_3 locs_3 p_3 hT_3 hk_3 hS_3 => ?_)
        have p_3 : (AU 985 H_2 H_3 (ρ a0 0) 6 (1)) := p_3
        have hW_3 : PW N H_3 (ρ a0 0) := PW.put hW_2 p_3 (by show (0 : Int) ≤ (1 : Int32).toInt; have : (1 : Int32).toInt = 1 := (by decide); omega) (by show (1 : Int32).toInt ≤ (N + 1 : Int); have : (1 : Int32).toInt = 1 := (by decide); omega)
        refine lv_aload_n hx hb dX12_starts_43 rfl (lv_at hl 0 rfl) ?_
        refine lv_iload_n hx hb dX12_starts_44 rfl (lv_at hl 1 rfl) ?_
        refine lv_bipush (v := 7) hx hb dX12_starts_45 (by decide) ?_
        refine lv_aload_n hx hb dX12_starts_47 rfl (lv_at hl 0 rfl) ?_
        refine gf_X12_29 E hT_3 ha0 dX12_starts_48 ?_
        refine th_topi (y := fi D 12 7 H_c2 a0) (Eq.trans (fi_q (p_3.2 _ (th_ne ha0 (hW _ 12 0 ha0 (by decide) (by decide) (by decide)) (by decide)))) (fi_q (p_2.2 _ (th_ne ha0 (hW _ 12 0 ha0 (by decide) (by decide) (by decide)) (by decide))))) ?_
        refine lv_topi (fun x_4 ex_4 => ?_)
        have b_4 : 2 ≤ x_4.toInt ∧ x_4.toInt ≤ 32 := by rw [ex_4]; exact IF.f7 hI_c2.2.2.2.2.2
        refine lv_iconst (v := 1) hx hb dX12_starts_51 (by decide) ?_
        refine lv_iadd hx hb dX12_starts_52 ?_
        refine lv_topi (fun x_5 ex_5 => ?_)
        have q_5 : x_5.toInt = x_4.toInt + 1 := i_pl rfl (by decide) ex_5 (by omega) (by omega)
        refine th_Vv (As := [.int 0, .int 7, .int x_5]) (rest := []) E hml hl.1 (y_set_v69 l D cI cS τ ρ hW H_3 hT_3 a0 x_5 ha0) lk_X12_95 yd_X12_set hT_3 ha0 rfl (by decide) hS_3 (fun q h => h) ⟨by decide, by decide⟩ (Nat.le_of_ble_eq_true rfl) ⟨by decide, by decide⟩ rfl dX12_starts_53 (fun H_6 locs_6 p_6 hT_6 hk_6 hS_6 => ?_)
        have p_6 : (AU 985 H_3 H_6 (ρ a0 0) 7 x_5) := p_6
        have hW_6 : PW N H_6 (ρ a0 0) := PW.put hW_3 p_6 (by show (0 : Int) ≤ x_5.toInt; omega) (by show x_5.toInt ≤ (N + 33 : Int); omega)
        refine lv_aload_n hx hb dX12_starts_56 rfl (lv_at hl 0 rfl) ?_
        refine lv_iload_n hx hb dX12_starts_57 rfl (lv_at hl 1 rfl) ?_
        refine lv_bipush (v := 8) hx hb dX12_starts_58 (by decide) ?_
        refine lv_bipush (v := 6) hx hb dX12_starts_60 (by decide) ?_
        refine th_Vv (As := [.int 0, .int 8, .int 6]) (rest := []) E hml hl.1 (y_set_v70 l D cI cS τ ρ hW H_6 hT_6 a0 ha0) lk_X12_95 yd_X12_set hT_6 ha0 rfl (by decide) hS_6 (fun q h => h) ⟨by decide, by decide⟩ (Nat.le_of_ble_eq_true rfl) ⟨by decide, by decide⟩ rfl dX12_starts_62 (fun H_7 locs_7 p_7 hT_7 hk_7 hS_7 => ?_)
        have p_7 : (AU 985 H_6 H_7 (ρ a0 0) 8 (6)) := p_7
        have hW_7 : PW N H_7 (ρ a0 0) := PW.put hW_6 p_7 (by show (-2147483648 : Int) ≤ _; exact i_min _) (by show _ ≤ (2147483647 : Int); exact i_max _)
        refine lv_aload_n hx hb dX12_starts_65 rfl (lv_at hl 0 rfl) ?_
        refine lv_iload_n hx hb dX12_starts_66 rfl (lv_at hl 1 rfl) ?_
        refine lv_bipush (v := 16) hx hb dX12_starts_67 (by decide) ?_
        refine lv_bipush (v := (-4)) hx hb dX12_starts_69 (by decide) ?_
        refine th_Vv (As := [.int 0, .int 16, .int (-4)]) (rest := []) E hml hl.1 (y_set_v11 l D cI cS τ ρ hW H_7 hT_7 a0 ha0) lk_X12_95 yd_X12_set hT_7 ha0 rfl (by decide) hS_7 (fun q h => h) ⟨by decide, by decide⟩ (Nat.le_of_ble_eq_true rfl) ⟨by decide, by decide⟩ rfl dX12_starts_71 (fun H_8 locs_8 p_8 hT_8 hk_8 hS_8 => ?_)
        have p_8 : (AU 985 H_7 H_8 (ρ a0 0) 16 ((-4))) := p_8
        have hW_8 : PW N H_8 (ρ a0 0) := PW.put hW_7 p_8 (by show (-2147483648 : Int) ≤ _; exact i_min _) (by show _ ≤ (2147483647 : Int); exact i_max _)
        refine lv_aload_n hx hb dX12_starts_74 rfl (lv_at hl 0 rfl) ?_
        refine lv_iload_n hx hb dX12_starts_75 rfl (lv_at hl 1 rfl) ?_
        refine lv_bipush (v := 17) hx hb dX12_starts_76 (by decide) ?_
        refine lv_bipush (v := (-4)) hx hb dX12_starts_78 (by decide) ?_
        refine th_Vv (As := [.int 0, .int 17, .int (-4)]) (rest := []) E hml hl.1 (y_set_v71 l D cI cS τ ρ hW H_8 hT_8 a0 ha0) lk_X12_95 yd_X12_set hT_8 ha0 rfl (by decide) hS_8 (fun q h => h) ⟨by decide, by decide⟩ (Nat.le_of_ble_eq_true rfl) ⟨by decide, by decide⟩ rfl dX12_starts_80 (fun H_9 locs_9 p_9 hT_9 hk_9 hS_9 => ?_)
        have p_9 : (AU 985 H_8 H_9 (ρ a0 0) 17 ((-4))) := p_9
        have hW_9 : PW N H_9 (ρ a0 0) := PW.put hW_8 p_9 (by show (-2147483648 : Int) ≤ _; exact i_min _) (by show ((-4) : Int32).toInt ≤ (N + 32 : Int); have : ((-4) : Int32).toInt = -4 := (by decide); omega)
        exact th_vret E hr hlk hs hT_9 hS_9 ⟨⟨hW_9, (QS.same (Eq.trans (AU.o p_9 (by decide) (by decide)) (Eq.trans (AU.o p_8 (by decide) (by decide)) (Eq.trans (AU.o p_7 (by decide) (by decide)) (Eq.trans (AU.o p_6 (by decide) (by decide)) (Eq.trans (AU.o p_3 (by decide) (by decide)) (AU.o p_2 (by decide) (by decide))))))) (Eq.trans (AU.o p_9 (by decide) (by decide)) (Eq.trans (AU.o p_8 (by decide) (by decide)) (Eq.trans (AU.o p_7 (by decide) (by decide)) (Eq.trans (AU.o p_6 (by decide) (by decide)) (Eq.trans (AU.o p_3 (by decide) (by decide)) (AU.o p_2 (by decide) (by decide))))))) hI_c2.2.1), (QS.same (Eq.trans (AU.o p_9 (by decide) (by decide)) (Eq.trans (AU.o p_8 (by decide) (by decide)) (Eq.trans (AU.o p_7 (by decide) (by decide)) (Eq.trans (AU.o p_6 (by decide) (by decide)) (Eq.trans (AU.o p_3 (by decide) (by decide)) (AU.o p_2 (by decide) (by decide))))))) (Eq.trans (AU.o p_9 (by decide) (by decide)) (Eq.trans (AU.o p_8 (by decide) (by decide)) (Eq.trans (AU.o p_7 (by decide) (by decide)) (Eq.trans (AU.o p_6 (by decide) (by decide)) (Eq.trans (AU.o p_3 (by decide) (by decide)) (AU.o p_2 (by decide) (by decide))))))) hI_c2.2.2.1), (PL.q (p_9.2 _ (th_ne (hW _ 12 2 ha0 (by decide) (by decide) (by decide)) (hW _ 12 0 ha0 (by decide) (by decide) (by decide)) (by decide))) (PL.q (p_8.2 _ (th_ne (hW _ 12 2 ha0 (by decide) (by decide) (by decide)) (hW _ 12 0 ha0 (by decide) (by decide) (by decide)) (by decide))) (PL.q (p_7.2 _ (th_ne (hW _ 12 2 ha0 (by decide) (by decide) (by decide)) (hW _ 12 0 ha0 (by decide) (by decide) (by decide)) (by decide))) (PL.q (p_6.2 _ (th_ne (hW _ 12 2 ha0 (by decide) (by decide) (by decide)) (hW _ 12 0 ha0 (by decide) (by decide) (by decide)) (by decide))) (PL.q (p_3.2 _ (th_ne (hW _ 12 2 ha0 (by decide) (by decide) (by decide)) (hW _ 12 0 ha0 (by decide) (by decide) (by decide)) (by decide))) (PL.q (p_2.2 _ (th_ne (hW _ 12 2 ha0 (by decide) (by decide) (by decide)) (hW _ 12 0 ha0 (by decide) (by decide) (by decide)) (by decide))) hI_c2.2.2.2.1)))))), (PL.q (p_9.2 _ (th_ne (hW _ 12 3 ha0 (by decide) (by decide) (by decide)) (hW _ 12 0 ha0 (by decide) (by decide) (by decide)) (by decide))) (PL.q (p_8.2 _ (th_ne (hW _ 12 3 ha0 (by decide) (by decide) (by decide)) (hW _ 12 0 ha0 (by decide) (by decide) (by decide)) (by decide))) (PL.q (p_7.2 _ (th_ne (hW _ 12 3 ha0 (by decide) (by decide) (by decide)) (hW _ 12 0 ha0 (by decide) (by decide) (by decide)) (by decide))) (PL.q (p_6.2 _ (th_ne (hW _ 12 3 ha0 (by decide) (by decide) (by decide)) (hW _ 12 0 ha0 (by decide) (by decide) (by decide)) (by decide))) (PL.q (p_3.2 _ (th_ne (hW _ 12 3 ha0 (by decide) (by decide) (by decide)) (hW _ 12 0 ha0 (by decide) (by decide) (by decide)) (by decide))) (PL.q (p_2.2 _ (th_ne (hW _ 12 3 ha0 (by decide) (by decide) (by decide)) (hW _ 12 0 ha0 (by decide) (by decide) (by decide)) (by decide))) hI_c2.2.2.2.2.1)))))), (IF.q (p_9.2 _ (th_ne ha0 (hW _ 12 0 ha0 (by decide) (by decide) (by decide)) (by decide))) (IF.q (p_8.2 _ (th_ne ha0 (hW _ 12 0 ha0 (by decide) (by decide) (by decide)) (by decide))) (IF.q (p_7.2 _ (th_ne ha0 (hW _ 12 0 ha0 (by decide) (by decide) (by decide)) (by decide))) (IF.q (p_6.2 _ (th_ne ha0 (hW _ 12 0 ha0 (by decide) (by decide) (by decide)) (by decide))) (IF.q (p_3.2 _ (th_ne ha0 (hW _ 12 0 ha0 (by decide) (by decide) (by decide)) (by decide))) (IF.q (p_2.2 _ (th_ne ha0 (hW _ 12 0 ha0 (by decide) (by decide) (by decide)) (by decide))) hI_c2.2.2.2.2.2))))))⟩, (by have : (ai H_9 (ρ a0 0) 2).toInt = (ai H_c2 (ρ a0 0) 2 : Int32).toInt := congrArg Int32.toInt (Eq.trans (AU.o p_9 (by decide) (by decide)) (Eq.trans (AU.o p_8 (by decide) (by decide)) (Eq.trans (AU.o p_7 (by decide) (by decide)) (Eq.trans (AU.o p_6 (by decide) (by decide)) (Eq.trans (AU.o p_3 (by decide) (by decide)) (AU.o p_2 (by decide) (by decide))))))); omega)⟩ dX12_starts_83
      · have f_1 : y2_2.toInt < 288 := r_nle (by decide) rfl c_1
        refine lv_aload_n hx hb dX12_starts_9 rfl (lv_at hl 0 rfl) ?_
        refine gf_X12_7 E hT_c2 hW ha0 dX12_starts_10 (fun h_10 => ?_)
        refine lv_sipush (v := 288) hx hb dX12_starts_13 (by decide) ?_
        refine lv_iload_n hx hb dX12_starts_16 rfl (lv_at hl 1 rfl) ?_
        refine lv_imul hx hb dX12_starts_17 ?_
        refine th_topi (y := 0) (by decide) ?_
        refine lv_iload_n hx hb dX12_starts_18 rfl (lv_at hl 2 rfl) ?_
        refine lv_iadd hx hb dX12_starts_19 ?_
        refine lv_topi (fun x_11 ex_11 => ?_)
        have q_11 : x_11.toInt = 0 + y2_2.toInt := i_pl (by decide) rfl ex_11 (by omega) (by omega)
        refine lv_iconst (v := 0) hx hb dX12_starts_20 (by decide) ?_
        refine th_iast E hT_c2 hS_c2 h_10 rfl (by decide) (vp_in_iff.mpr ⟨by omega, by omega⟩) dX12_starts_21 (fun H_12 locs_12 hT_12 hU_12 hS_12 => ?_)
        have hU_12 : AU 985 H_c2 H_12 (ρ a0 0) x_11.toInt.toNat (0) := hU_12
        have hW_12 : PW N H_12 (ρ a0 0) := PW.zero hI_c2.1 hU_12 (by omega)
        obtain ⟨x_13, ex_13⟩ : ∃ y : Int32, y2_2 + 1 = y := ⟨_, rfl⟩
        have q_x_13 : x_13.toInt = y2_2.toInt + 1 := i_add (k := 1) (by decide) ex_13 (by have := i_min y2_2; omega) (by have := i_max y2_2; omega)
        refine lv_iinc (v := x_13) (lv' := [(2, .int x_13), (0, .ref a0), (1, .int 0)]) hx hb dX12_starts_22 hl (k := 2) rfl (by rw [← ex_13]; rfl) (by decide) rfl (fun ls hl => ?_)
        refine lv_goto (tgt := 2) hx hb dX12_starts_25 (by decide) ?_
        exact ih_2 H_12 locs_12 _ x_13 hT_12 hS_12 (lv_sub hl [1, 2, 0] rfl) (by omega) ⟨hW_12, (QS.zero hI_c2.2.1 hU_12 (by decide) (by decide) hN0), (QS.zero hI_c2.2.2.1 hU_12 (by decide) (by decide) hN0), (PL.q (hU_12.2 _ (th_ne (hW _ 12 2 ha0 (by decide) (by decide) (by decide)) (hW _ 12 0 ha0 (by decide) (by decide) (by decide)) (by decide))) hI_c2.2.2.2.1), (PL.q (hU_12.2 _ (th_ne (hW _ 12 3 ha0 (by decide) (by decide) (by decide)) (hW _ 12 0 ha0 (by decide) (by decide) (by decide)) (by decide))) hI_c2.2.2.2.2.1), (IF.q (hU_12.2 _ (th_ne ha0 (hW _ 12 0 ha0 (by decide) (by decide) (by decide)) (by decide))) hI_c2.2.2.2.2.2)⟩ (by have a := hU_12.1 2 (by decide); have z0 : (0 : Int32).toInt = 0 := (by decide); by_cases q : 2 = x_11.toInt.toNat; rw [if_pos q] at a; have b := congrArg Int32.toInt a; omega; rw [if_neg q] at a; have b := congrArg Int32.toInt a; omega) (by omega)
  refine lv_iconst (v := 0) hx hb dX12_starts_0 (by decide) ?_
  refine lv_istore_n (lv' := [(2, .int 0), (0, .ref a0), (1, .int 0)]) hx hb dX12_starts_1 rfl hl (by decide) rfl (fun ls hl => ?_)
  exact L_2 _ H [] _ 0 hT hS (lv_sub hl [1, 2, 0] rfl) (by decide) ⟨hI.1, hI.2.1, hI.2.2.1, hI.2.2.2.1, hI.2.2.2.2.1, hI.2.2.2.2.2⟩ (Or.inr (by decide)) (Nat.lt_succ_self _)
set_option maxHeartbeats 4000000 in
set_option maxRecDepth 100000 in
/-- the reference: set -/
theorem y_set_v72 (l : Launch) (D : va_G) (cI cS : ClassId) (τ : Nat → Option Nat) (ρ : Nat → Nat → Nat) (hW : WF τ ρ) (H : Heap) (hT : TH D cI cS τ ρ H) (a0 : Nat) (ha0 : τ a0 = some 12) : MV l D cI cS τ ρ yX12_set cX12_set 4 none 0 0 H [.ref a0, .int 0, .int 0, .int 2] (fun (u : Heap) => (AU 985 H u (ρ a0 0) 0 (2))) (fun q => q = ρ a0 0) := by
  refine MV.of (by decide) (Nat.le_of_ble_eq_true rfl) ?_
  intro p e s m args below meth c E hml hr hlk hs ls hl
  have hx := E.1
  have hb := E.2.1
  have hown := E.2.2.1
  have hts := E.2.2.2.1
  have hS : SS (fun q => q = ρ a0 0) H H [] := SS.rf
  have hl : lv_has ls 4 [(0, .ref a0), (1, .int 0), (2, .int 0), (3, .int 2)] := hl
  refine lv_aload_n hx hb dX12_set_0 rfl (lv_at hl 0 rfl) ?_
  refine gf_X12_7 E hT hW ha0 dX12_set_1 (fun h_1 => ?_)
  refine lv_sipush (v := 288) hx hb dX12_set_4 (by decide) ?_
  refine lv_iload_n hx hb dX12_set_7 rfl (lv_at hl 1 rfl) ?_
  refine lv_imul hx hb dX12_set_8 ?_
  refine th_topi (y := 0) (by decide) ?_
  refine lv_iload_n hx hb dX12_set_9 rfl (lv_at hl 2 rfl) ?_
  refine lv_iadd hx hb dX12_set_10 ?_
  refine th_topi (y := 0) (by decide) ?_
  refine lv_iload_n hx hb dX12_set_11 rfl (lv_at hl 3 rfl) ?_
  refine th_iast E hT hS h_1 rfl (by decide) (vp_in_iff.mpr ⟨by decide, by decide⟩) dX12_set_12 (fun H_2 locs_2 hT_2 hU_2 hS_2 => ?_)
  have hU_2 : AU 985 H H_2 (ρ a0 0) 0 (2) := hU_2
  exact th_vret E hr hlk hs hT_2 hS_2 hU_2 dX12_set_13
set_option maxHeartbeats 4000000 in
set_option maxRecDepth 100000 in
/-- the reference: set -/
theorem y_set_v73 (l : Launch) (D : va_G) (cI cS : ClassId) (τ : Nat → Option Nat) (ρ : Nat → Nat → Nat) (hW : WF τ ρ) (H : Heap) (hT : TH D cI cS τ ρ H) (a0 : Nat) (ha0 : τ a0 = some 12) : MV l D cI cS τ ρ yX12_set cX12_set 4 none 0 0 H [.ref a0, .int 0, .int 0, .int 1] (fun (u : Heap) => (AU 985 H u (ρ a0 0) 0 (1))) (fun q => q = ρ a0 0) := by
  refine MV.of (by decide) (Nat.le_of_ble_eq_true rfl) ?_
  intro p e s m args below meth c E hml hr hlk hs ls hl
  have hx := E.1
  have hb := E.2.1
  have hown := E.2.2.1
  have hts := E.2.2.2.1
  have hS : SS (fun q => q = ρ a0 0) H H [] := SS.rf
  have hl : lv_has ls 4 [(0, .ref a0), (1, .int 0), (2, .int 0), (3, .int 1)] := hl
  refine lv_aload_n hx hb dX12_set_0 rfl (lv_at hl 0 rfl) ?_
  refine gf_X12_7 E hT hW ha0 dX12_set_1 (fun h_1 => ?_)
  refine lv_sipush (v := 288) hx hb dX12_set_4 (by decide) ?_
  refine lv_iload_n hx hb dX12_set_7 rfl (lv_at hl 1 rfl) ?_
  refine lv_imul hx hb dX12_set_8 ?_
  refine th_topi (y := 0) (by decide) ?_
  refine lv_iload_n hx hb dX12_set_9 rfl (lv_at hl 2 rfl) ?_
  refine lv_iadd hx hb dX12_set_10 ?_
  refine th_topi (y := 0) (by decide) ?_
  refine lv_iload_n hx hb dX12_set_11 rfl (lv_at hl 3 rfl) ?_
  refine th_iast E hT hS h_1 rfl (by decide) (vp_in_iff.mpr ⟨by decide, by decide⟩) dX12_set_12 (fun H_2 locs_2 hT_2 hU_2 hS_2 => ?_)
  have hU_2 : AU 985 H H_2 (ρ a0 0) 0 (1) := hU_2
  exact th_vret E hr hlk hs hT_2 hS_2 hU_2 dX12_set_13
set_option maxHeartbeats 4000000 in
set_option maxRecDepth 100000 in
/-- the reference: open -/
theorem y_open (l : Launch) (D : va_G) (cI cS : ClassId) (τ : Nat → Option Nat) (ρ : Nat → Nat → Nat) (hW : WF τ ρ) (H : Heap) (hT : TH D cI cS τ ρ H) (a0 : Nat) (x1 : Int32) (ha0 : τ a0 = some 12) (N : Int) (hN0 : 0 ≤ N) (hN1 : N ≤ 600) (hI : IM D ρ N H a0) (hp0 : (ai H (ρ a0 0) 2).toInt ≤ N + 1) : MI l D cI cS τ ρ yX12_open cX12_open 3 (some .int) 7 157 H [.ref a0, .int 0, .int x1] (fun (r : Int32) (u : Heap) => (IM D ρ N u a0)) (fun q => q = ρ a0 0 ∨ q = ρ a0 2) := by
  refine MI.of (by decide) (Nat.le_of_ble_eq_true rfl) ?_
  intro p e s m args below meth c E hml hr hlk hs ls hl
  have hx := E.1
  have hb := E.2.1
  have hown := E.2.2.1
  have hts := E.2.2.2.1
  have hS : SS (fun q => q = ρ a0 0 ∨ q = ρ a0 2) H H [] := SS.rf
  have hl : lv_has ls 3 [(0, .ref a0), (1, .int 0), (2, .int x1)] := hl
  have n01 := hI.2.2.2.2.2.1
  have n23 := hI.2.2.2.2.2.2.1
  refine lv_iload_n hx hb dX12_open_0 rfl (lv_at hl 1 rfl) ?_
  refine th_Si (As := [.int 0]) (rest := []) E hml hl.1 (y_isEnd l D cI cS τ ρ hW H hT) lk_X12_160 yd_X12_isEnd hS (fun _ h => h.elim) ⟨by decide, by decide⟩ (Nat.le_of_ble_eq_true rfl) ⟨by decide, by decide⟩ rfl dX12_open_1 (fun r_1 H_1 locs_1 p_1 hT_1 hk_1 hS_1 => ?_)
  have p_1 : H = H_1 ∧ (r_1 = 0 ∨ r_1 = 1) ∧ ((r_1.toInt = 1 ∧ 0 ≤ 0 ∧ 0 ≤ 1) ∨ (r_1.toInt = 0 ∧ (0 < 0 ∨ 1 < 0))) := p_1
  obtain ⟨rfl, p_1_0, p_1_1⟩ := p_1
  have z_1 := b_iv p_1_0
  refine lv_if_eq (tgt := 17) hx hb dX12_open_4 (by decide) (fun c_2 => False.elim (by have f_2 : r_1.toInt = 0 := r_eq rfl (by decide) c_2; omega)) (fun c_2 => ?_)
  refine lv_iload_n hx hb dX12_open_7 rfl (lv_at hl 2 rfl) ?_
  obtain ⟨x_3, ex_3⟩ : ∃ y : Int64, x1.toInt64 = y := ⟨_, rfl⟩
  refine lv_i2l (v := x_3) hx hb dX12_open_8 ex_3 ?_
  have q_3 : x_3.toInt = x1.toInt := by rw [← ex_3]; exact Int32.toInt_toInt64 _
  refine lv_lconst (v := 0) hx hb dX12_open_9 (by decide) ?_
  refine lv_lconst (v := 1) hx hb dX12_open_10 (by decide) ?_
  refine th_Si (As := [.long x_3, .long 0, .long 1]) (rest := []) E hml hl.1 (y_in_v5 l D cI cS τ ρ hW H hT_1 x_3) lk_X12_54 yd_X12_in hS_1 (fun _ h => h.elim) ⟨by decide, by decide⟩ (Nat.le_of_ble_eq_true rfl) ⟨by decide, by decide⟩ rfl dX12_open_11 (fun r_4 H_4 locs_4 p_4 hT_4 hk_4 hS_4 => ?_)
  have p_4 : H = H_4 ∧ (r_4 = 0 ∨ r_4 = 1) ∧ ((r_4.toInt = 1 ∧ 0 ≤ x_3.toInt ∧ x_3.toInt ≤ 1) ∨ (r_4.toInt = 0 ∧ (x_3.toInt < 0 ∨ 1 < x_3.toInt))) := p_4
  obtain ⟨rfl, p_4_0, p_4_1⟩ := p_4
  have z_4 := b_iv p_4_0
  refine lv_if_ne (tgt := 19) hx hb dX12_open_14 (by decide) (fun c_5 => ?_) (fun c_5 => ?_)
  · have f_5 : ¬ r_4.toInt = 0 := r_ne rfl (by decide) c_5
    have nz_r_4 : ¬ r_4 = 0 := c_5
    refine lv_aload_n hx hb dX12_open_19 rfl (lv_at hl 0 rfl) ?_
    refine lv_iload_n hx hb dX12_open_20 rfl (lv_at hl 1 rfl) ?_
    refine lv_iconst (v := 0) hx hb dX12_open_21 (by decide) ?_
    refine th_Vi (As := [.int 0, .int 0]) (rest := []) E hml hl.1 (y_get_v21 l D cI cS τ ρ hW H hT_4 a0 ha0) lk_X12_99 yd_X12_get hT_4 ha0 rfl (by decide) hS_4 (fun _ h => h.elim) ⟨by decide, by decide⟩ (Nat.le_of_ble_eq_true rfl) ⟨by decide, by decide⟩ rfl dX12_open_22 (fun r_6 H_6 locs_6 p_6 hT_6 hk_6 hS_6 => ?_)
    have p_6 : H = H_6 ∧ (ai H (ρ a0 0) 0 = r_6) := p_6
    obtain ⟨rfl, p_6_0⟩ := p_6
    have c_r_6 := congrArg Int32.toInt p_6_0
    refine lv_if_eq (tgt := 31) hx hb dX12_open_25 (by decide) (fun c_7 => ?_) (fun c_7 => ?_)
    · have f_7 : r_6.toInt = 0 := r_eq rfl (by decide) c_7
      refine lv_aload_n hx hb dX12_open_31 rfl (lv_at hl 0 rfl) ?_
      refine lv_iload_n hx hb dX12_open_32 rfl (lv_at hl 1 rfl) ?_
      refine th_Vv (As := [.int 0]) (rest := []) E hml hl.1 (y_starts l D cI cS τ ρ hW H hT_6 a0 ha0 N hN0 hN1 ⟨hI.1, hI.2.1, hI.2.2.1, hI.2.2.2.1, hI.2.2.2.2.1, hI.2.2.2.2.2⟩) lk_X12_91 yd_X12_starts hT_6 ha0 rfl (by decide) hS_6 (fun q h => (Or.inl h)) ⟨by decide, by decide⟩ (Nat.le_of_ble_eq_true rfl) ⟨by decide, by decide⟩ rfl dX12_open_33 (fun H_8 locs_8 p_8 hT_8 hk_8 hS_8 => ?_)
      have p_8 : (IM D ρ N H_8 a0) ∧ ((ai H_8 (ρ a0 0) 2).toInt ≤ N + 1) := p_8
      obtain ⟨p_8_0, p_8_1⟩ := p_8
      refine lv_aload_n hx hb dX12_open_36 rfl (lv_at hl 0 rfl) ?_
      refine lv_iload_n hx hb dX12_open_37 rfl (lv_at hl 1 rfl) ?_
      refine lv_iconst (v := 0) hx hb dX12_open_38 (by decide) ?_
      refine lv_iload_n hx hb dX12_open_39 rfl (lv_at hl 2 rfl) ?_
      refine lv_if_ne (tgt := 47) hx hb dX12_open_40 (by decide) (fun c_9 => ?_) (fun c_9 => ?_)
      · have f_9 : ¬ x1.toInt = 0 := r_ne rfl (by decide) c_9
        have nz_x1 : ¬ x1 = 0 := c_9
        refine lv_iconst (v := 2) hx hb dX12_open_47 (by decide) ?_
        refine th_Vv (As := [.int 0, .int 0, .int 2]) (rest := []) E hml hl.1 (y_set_v72 l D cI cS τ ρ hW H_8 hT_8 a0 ha0) lk_X12_95 yd_X12_set hT_8 ha0 rfl (by decide) hS_8 (fun q h => (Or.inl h)) ⟨by decide, by decide⟩ (Nat.le_of_ble_eq_true rfl) ⟨by decide, by decide⟩ rfl dX12_open_48 (fun H_10 locs_10 p_10 hT_10 hk_10 hS_10 => ?_)
        have p_10 : (AU 985 H_8 H_10 (ρ a0 0) 0 (2)) := p_10
        have hW_10 : PW N H_10 (ρ a0 0) := PW.put p_8_0.1 p_10 (by show (-2147483648 : Int) ≤ _; exact i_min _) (by show _ ≤ (2147483647 : Int); exact i_max _)
        refine lv_iload_n hx hb dX12_open_51 rfl (lv_at hl 2 rfl) ?_
        refine lv_iconst (v := 1) hx hb dX12_open_52 (by decide) ?_
        refine lv_icmp_ne (tgt := 61) hx hb dX12_open_53 (by decide) (fun c_11 => ?_) (fun c_11 => ?_)
        · have f_11 : ¬ x1.toInt = 1 := r_ne rfl (by decide) c_11
          refine lv_aload_n hx hb dX12_open_61 rfl (lv_at hl 0 rfl) ?_
          refine lv_iload_n hx hb dX12_open_62 rfl (lv_at hl 1 rfl) ?_
          refine th_Vv (As := [.int 0]) (rest := []) E hml hl.1 (y_settles l D cI cS τ ρ hW H_10 hT_10 a0 ha0 N hN0 hN1 ⟨hW_10, (QS.of (s := (2 : Int32)) (t := (ai H_8 (ρ a0 0) 2 : Int32)) (AU.s p_10 (by decide)) (AU.o p_10 (by decide) (by decide)) (by have j := p_8_0.2.1; unfold QS at j; have : (2 : Int32).toInt = 2 := (by decide); omega)), (QS.same (AU.o p_10 (by decide) (by decide)) (AU.o p_10 (by decide) (by decide)) p_8_0.2.2.1), (PL.q (p_10.2 _ (th_ne (hW _ 12 2 ha0 (by decide) (by decide) (by decide)) (hW _ 12 0 ha0 (by decide) (by decide) (by decide)) (by decide))) p_8_0.2.2.2.1), (PL.q (p_10.2 _ (th_ne (hW _ 12 3 ha0 (by decide) (by decide) (by decide)) (hW _ 12 0 ha0 (by decide) (by decide) (by decide)) (by decide))) p_8_0.2.2.2.2.1), (IF.q (p_10.2 _ (th_ne ha0 (hW _ 12 0 ha0 (by decide) (by decide) (by decide)) (by decide))) p_8_0.2.2.2.2.2)⟩) lk_X12_166 yd_X12_settles hT_10 ha0 rfl (by decide) hS_10 (fun q h => (Or.inl h)) ⟨by decide, by decide⟩ (Nat.le_of_ble_eq_true rfl) ⟨by decide, by decide⟩ rfl dX12_open_63 (fun H_12 locs_12 p_12 hT_12 hk_12 hS_12 => ?_)
          have p_12 : (IM D ρ N H_12 a0) ∧ ((ai H_10 (ρ a0 0) 976).toInt ≤ (ai H_12 (ρ a0 0) 976).toInt) := p_12
          obtain ⟨p_12_0, p_12_1⟩ := p_12
          have mn_12 : (ai H_8 (ρ a0 0) 976).toInt ≤ (ai H_12 (ρ a0 0) 976).toInt := by have h := p_12_1; rw [(AU.o p_10 (by decide) (by decide))] at h; exact h
          refine lv_aload_n hx hb dX12_open_66 rfl (lv_at hl 0 rfl) ?_
          refine gf_X12_7 E hT_12 hW ha0 dX12_open_67 (fun h_13 => ?_)
          refine lv_sipush (v := 976) hx hb dX12_open_70 (by decide) ?_
          refine th_iald E hT_12 h_13 (by decide) (vp_in_iff.mpr ⟨by decide, by decide⟩) dX12_open_73 ?_
          refine th_topi (y := ai H_12 (ρ a0 0) 976) rfl ?_
          refine lv_topi (fun x_14 ex_14 => ?_)
          have b_x_14 : 0 ≤ x_14.toInt ∧ x_14.toInt ≤ 20 := by rw [← ex_14.symm]; exact p_12_0.1 976 (by decide)
          have c_x_14 := congrArg Int32.toInt ex_14.symm
          exact th_iret E hr hlk hs hT_12 hS_12 ⟨p_12_0.1, p_12_0.2.1, p_12_0.2.2.1, p_12_0.2.2.2.1, p_12_0.2.2.2.2.1, p_12_0.2.2.2.2.2⟩ dX12_open_74
        · have f_11 : x1.toInt = 1 := r_eq rfl (by decide) c_11
          refine lv_aload_n hx hb dX12_open_56 rfl (lv_at hl 0 rfl) ?_
          refine lv_iload_n hx hb dX12_open_57 rfl (lv_at hl 1 rfl) ?_
          refine th_Vv (As := [.int 0]) (rest := []) E hml hl.1 (y_callsOut l D cI cS τ ρ hW H_10 hT_10 a0 ha0 N hN0 hN1 ⟨hW_10, (QS.of (s := (2 : Int32)) (t := (ai H_8 (ρ a0 0) 2 : Int32)) (AU.s p_10 (by decide)) (AU.o p_10 (by decide) (by decide)) (by have j := p_8_0.2.1; unfold QS at j; have : (2 : Int32).toInt = 2 := (by decide); omega)), (QS.same (AU.o p_10 (by decide) (by decide)) (AU.o p_10 (by decide) (by decide)) p_8_0.2.2.1), (PL.q (p_10.2 _ (th_ne (hW _ 12 2 ha0 (by decide) (by decide) (by decide)) (hW _ 12 0 ha0 (by decide) (by decide) (by decide)) (by decide))) p_8_0.2.2.2.1), (PL.q (p_10.2 _ (th_ne (hW _ 12 3 ha0 (by decide) (by decide) (by decide)) (hW _ 12 0 ha0 (by decide) (by decide) (by decide)) (by decide))) p_8_0.2.2.2.2.1), (IF.q (p_10.2 _ (th_ne ha0 (hW _ 12 0 ha0 (by decide) (by decide) (by decide)) (by decide))) p_8_0.2.2.2.2.2)⟩) lk_X12_163 yd_X12_callsOut hT_10 ha0 rfl (by decide) hS_10 (fun q => (fun h => h.elim (fun h => (Or.inr h)) (fun h => (Or.inl h)))) ⟨by decide, by decide⟩ (Nat.le_of_ble_eq_true rfl) ⟨by decide, by decide⟩ rfl dX12_open_58 (fun H_15 locs_15 p_15 hT_15 hk_15 hS_15 => ?_)
          have p_15 : (IM D ρ N H_15 a0) ∧ ((ai H_10 (ρ a0 0) 976).toInt ≤ (ai H_15 (ρ a0 0) 976).toInt) := p_15
          obtain ⟨p_15_0, p_15_1⟩ := p_15
          have mn_15 : (ai H_8 (ρ a0 0) 976).toInt ≤ (ai H_15 (ρ a0 0) 976).toInt := by have h := p_15_1; rw [(AU.o p_10 (by decide) (by decide))] at h; exact h
          refine lv_aload_n hx hb dX12_open_61 rfl (lv_at hl 0 rfl) ?_
          refine lv_iload_n hx hb dX12_open_62 rfl (lv_at hl 1 rfl) ?_
          refine th_Vv (As := [.int 0]) (rest := []) E hml hl.1 (y_settles l D cI cS τ ρ hW H_15 hT_15 a0 ha0 N hN0 hN1 ⟨p_15_0.1, p_15_0.2.1, p_15_0.2.2.1, p_15_0.2.2.2.1, p_15_0.2.2.2.2.1, p_15_0.2.2.2.2.2⟩) lk_X12_166 yd_X12_settles hT_15 ha0 rfl (by decide) hS_15 (fun q h => (Or.inl h)) ⟨by decide, by decide⟩ (Nat.le_of_ble_eq_true rfl) ⟨by decide, by decide⟩ rfl dX12_open_63 (fun H_16 locs_16 p_16 hT_16 hk_16 hS_16 => ?_)
          have p_16 : (IM D ρ N H_16 a0) ∧ ((ai H_15 (ρ a0 0) 976).toInt ≤ (ai H_16 (ρ a0 0) 976).toInt) := p_16
          obtain ⟨p_16_0, p_16_1⟩ := p_16
          have mn_16 : (ai H_15 (ρ a0 0) 976).toInt ≤ (ai H_16 (ρ a0 0) 976).toInt := by exact p_16_1
          refine lv_aload_n hx hb dX12_open_66 rfl (lv_at hl 0 rfl) ?_
          refine gf_X12_7 E hT_16 hW ha0 dX12_open_67 (fun h_17 => ?_)
          refine lv_sipush (v := 976) hx hb dX12_open_70 (by decide) ?_
          refine th_iald E hT_16 h_17 (by decide) (vp_in_iff.mpr ⟨by decide, by decide⟩) dX12_open_73 ?_
          refine th_topi (y := ai H_16 (ρ a0 0) 976) rfl ?_
          refine lv_topi (fun x_18 ex_18 => ?_)
          have b_x_18 : 0 ≤ x_18.toInt ∧ x_18.toInt ≤ 20 := by rw [← ex_18.symm]; exact p_16_0.1 976 (by decide)
          have c_x_18 := congrArg Int32.toInt ex_18.symm
          exact th_iret E hr hlk hs hT_16 hS_16 ⟨p_16_0.1, p_16_0.2.1, p_16_0.2.2.1, p_16_0.2.2.2.1, p_16_0.2.2.2.2.1, p_16_0.2.2.2.2.2⟩ dX12_open_74
      · have f_9 : x1.toInt = 0 := r_eq rfl (by decide) c_9
        refine lv_iconst (v := 1) hx hb dX12_open_43 (by decide) ?_
        refine lv_goto (tgt := 48) hx hb dX12_open_44 (by decide) ?_
        refine th_Vv (As := [.int 0, .int 0, .int 1]) (rest := []) E hml hl.1 (y_set_v73 l D cI cS τ ρ hW H_8 hT_8 a0 ha0) lk_X12_95 yd_X12_set hT_8 ha0 rfl (by decide) hS_8 (fun q h => (Or.inl h)) ⟨by decide, by decide⟩ (Nat.le_of_ble_eq_true rfl) ⟨by decide, by decide⟩ rfl dX12_open_48 (fun H_19 locs_19 p_19 hT_19 hk_19 hS_19 => ?_)
        have p_19 : (AU 985 H_8 H_19 (ρ a0 0) 0 (1)) := p_19
        have hW_19 : PW N H_19 (ρ a0 0) := PW.put p_8_0.1 p_19 (by show (-2147483648 : Int) ≤ _; exact i_min _) (by show _ ≤ (2147483647 : Int); exact i_max _)
        refine lv_iload_n hx hb dX12_open_51 rfl (lv_at hl 2 rfl) ?_
        refine lv_iconst (v := 1) hx hb dX12_open_52 (by decide) ?_
        refine lv_icmp_ne (tgt := 61) hx hb dX12_open_53 (by decide) (fun c_20 => ?_) (fun c_20 => False.elim (by have f_20 : x1.toInt = 1 := r_eq rfl (by decide) c_20; omega))
        refine lv_aload_n hx hb dX12_open_61 rfl (lv_at hl 0 rfl) ?_
        refine lv_iload_n hx hb dX12_open_62 rfl (lv_at hl 1 rfl) ?_
        refine th_Vv (As := [.int 0]) (rest := []) E hml hl.1 (y_settles l D cI cS τ ρ hW H_19 hT_19 a0 ha0 N hN0 hN1 ⟨hW_19, (QS.of (s := (1 : Int32)) (t := (ai H_8 (ρ a0 0) 2 : Int32)) (AU.s p_19 (by decide)) (AU.o p_19 (by decide) (by decide)) (by have j := p_8_0.2.1; unfold QS at j; have : (1 : Int32).toInt = 1 := (by decide); omega)), (QS.same (AU.o p_19 (by decide) (by decide)) (AU.o p_19 (by decide) (by decide)) p_8_0.2.2.1), (PL.q (p_19.2 _ (th_ne (hW _ 12 2 ha0 (by decide) (by decide) (by decide)) (hW _ 12 0 ha0 (by decide) (by decide) (by decide)) (by decide))) p_8_0.2.2.2.1), (PL.q (p_19.2 _ (th_ne (hW _ 12 3 ha0 (by decide) (by decide) (by decide)) (hW _ 12 0 ha0 (by decide) (by decide) (by decide)) (by decide))) p_8_0.2.2.2.2.1), (IF.q (p_19.2 _ (th_ne ha0 (hW _ 12 0 ha0 (by decide) (by decide) (by decide)) (by decide))) p_8_0.2.2.2.2.2)⟩) lk_X12_166 yd_X12_settles hT_19 ha0 rfl (by decide) hS_19 (fun q h => (Or.inl h)) ⟨by decide, by decide⟩ (Nat.le_of_ble_eq_true rfl) ⟨by decide, by decide⟩ rfl dX12_open_63 (fun H_21 locs_21 p_21 hT_21 hk_21 hS_21 => ?_)
        have p_21 : (IM D ρ N H_21 a0) ∧ ((ai H_19 (ρ a0 0) 976).toInt ≤ (ai H_21 (ρ a0 0) 976).toInt) := p_21
        obtain ⟨p_21_0, p_21_1⟩ := p_21
        have mn_21 : (ai H_8 (ρ a0 0) 976).toInt ≤ (ai H_21 (ρ a0 0) 976).toInt := by have h := p_21_1; rw [(AU.o p_19 (by decide) (by decide))] at h; exact h
        refine lv_aload_n hx hb dX12_open_66 rfl (lv_at hl 0 rfl) ?_
        refine gf_X12_7 E hT_21 hW ha0 dX12_open_67 (fun h_22 => ?_)
        refine lv_sipush (v := 976) hx hb dX12_open_70 (by decide) ?_
        refine th_iald E hT_21 h_22 (by decide) (vp_in_iff.mpr ⟨by decide, by decide⟩) dX12_open_73 ?_
        refine th_topi (y := ai H_21 (ρ a0 0) 976) rfl ?_
        refine lv_topi (fun x_23 ex_23 => ?_)
        have b_x_23 : 0 ≤ x_23.toInt ∧ x_23.toInt ≤ 20 := by rw [← ex_23.symm]; exact p_21_0.1 976 (by decide)
        have c_x_23 := congrArg Int32.toInt ex_23.symm
        exact th_iret E hr hlk hs hT_21 hS_21 ⟨p_21_0.1, p_21_0.2.1, p_21_0.2.2.1, p_21_0.2.2.2.1, p_21_0.2.2.2.2.1, p_21_0.2.2.2.2.2⟩ dX12_open_74
    · have f_7 : ¬ r_6.toInt = 0 := r_ne rfl (by decide) c_7
      have nz_r_6 : ¬ r_6 = 0 := c_7
      refine lv_bipush (v := (-2)) hx hb dX12_open_28 (by decide) ?_
      exact th_iret E hr hlk hs hT_6 hS_6 ⟨hI.1, hI.2.1, hI.2.2.1, hI.2.2.2.1, hI.2.2.2.2.1, hI.2.2.2.2.2⟩ dX12_open_30
  · have f_5 : r_4.toInt = 0 := r_eq rfl (by decide) c_5
    refine lv_iconst (v := (-1)) hx hb dX12_open_17 (by decide) ?_
    exact th_iret E hr hlk hs hT_4 hS_4 ⟨hI.1, hI.2.1, hI.2.2.1, hI.2.2.2.1, hI.2.2.2.2.1, hI.2.2.2.2.2⟩ dX12_open_18
set_option maxHeartbeats 4000000 in
set_option maxRecDepth 100000 in
/-- the reference: in -/
theorem y_in_v6 (l : Launch) (D : va_G) (cI cS : ClassId) (τ : Nat → Option Nat) (ρ : Nat → Nat → Nat) (hW : WF τ ρ) (H : Heap) (hT : TH D cI cS τ ρ H) : MI l D cI cS τ ρ yX12_in cX12_in 6 (some .boolean) 0 0 H [.long 1, .long 0, .long 1] (fun (r : Int32) (u : Heap) => (H = u) ∧ (r = 0 ∨ r = 1) ∧ ((r.toInt = 1 ∧ 0 ≤ 1 ∧ 1 ≤ 1) ∨ (r.toInt = 0 ∧ (1 < 0 ∨ 1 < 1)))) (fun q => False) := by
  refine MI.of (by decide) (Nat.le_of_ble_eq_true rfl) ?_
  intro p e s m args below meth c E hml hr hlk hs ls hl
  have hx := E.1
  have hb := E.2.1
  have hown := E.2.2.1
  have hts := E.2.2.2.1
  have hS : SS (fun q => False) H H [] := SS.rf
  have hl : lv_has ls 6 [(0, .long 1), (2, .long 0), (4, .long 1)] := hl
  refine lv_lload_n hx hb dX12_in_0 rfl (lv_at hl 0 rfl) ?_
  refine lv_lload_n hx hb dX12_in_1 rfl (lv_at hl 1 rfl) ?_
  refine W.lcmp hx hb dX12_in_2 ?_
  refine lv_topi (fun x_1 ex_1 => ?_)
  have q_1 := l_cmp (a := (1 : Int64)) (b := (0 : Int64)) (m := 1) (n := 0) (by decide) (by decide) ex_1
  refine lv_if_lt (tgt := 17) hx hb dX12_in_3 (by decide) (fun c_2 => ?_) (fun c_2 => ?_)
  · have f_2 : x_1.toInt < 0 := r_lt rfl (by decide) c_2
    refine lv_iconst (v := 0) hx hb dX12_in_17 (by decide) ?_
    exact th_zret E hr hlk hs (Or.inl rfl) hT hS ⟨rfl, (Or.inl rfl), (by have : (0 : Int32).toInt = 0 := (by decide); omega)⟩ dX12_in_18
  · have f_2 : 0 ≤ x_1.toInt := r_nlt rfl (by decide) c_2
    refine lv_lload_n hx hb dX12_in_6 rfl (lv_at hl 0 rfl) ?_
    refine lv_lload hx hb dX12_in_7 (lv_at hl 2 rfl) ?_
    refine W.lcmp hx hb dX12_in_9 ?_
    refine lv_topi (fun x_3 ex_3 => ?_)
    have q_3 := l_cmp (a := (1 : Int64)) (b := (1 : Int64)) (m := 1) (n := 1) (by decide) (by decide) ex_3
    refine lv_if_gt (tgt := 17) hx hb dX12_in_10 (by decide) (fun c_4 => ?_) (fun c_4 => ?_)
    · have f_4 : 0 < x_3.toInt := r_lt (by decide) rfl c_4
      refine lv_iconst (v := 0) hx hb dX12_in_17 (by decide) ?_
      exact th_zret E hr hlk hs (Or.inl rfl) hT hS ⟨rfl, (Or.inl rfl), (by have : (0 : Int32).toInt = 0 := (by decide); omega)⟩ dX12_in_18
    · have f_4 : x_3.toInt ≤ 0 := r_nlt (by decide) rfl c_4
      refine lv_iconst (v := 1) hx hb dX12_in_13 (by decide) ?_
      refine lv_goto (tgt := 18) hx hb dX12_in_14 (by decide) ?_
      exact th_zret E hr hlk hs (Or.inr rfl) hT hS ⟨rfl, (Or.inr rfl), (by have : (1 : Int32).toInt = 1 := (by decide); omega)⟩ dX12_in_18
set_option maxHeartbeats 4000000 in
set_option maxRecDepth 100000 in
/-- the reference: isEnd -/
theorem y_isEnd_v2 (l : Launch) (D : va_G) (cI cS : ClassId) (τ : Nat → Option Nat) (ρ : Nat → Nat → Nat) (hW : WF τ ρ) (H : Heap) (hT : TH D cI cS τ ρ H) : MI l D cI cS τ ρ yX12_isEnd cX12_isEnd 1 (some .boolean) 1 25 H [.int 1] (fun (r : Int32) (u : Heap) => (H = u) ∧ (r = 0 ∨ r = 1) ∧ ((r.toInt = 1 ∧ 0 ≤ 1 ∧ 1 ≤ 1) ∨ (r.toInt = 0 ∧ (1 < 0 ∨ 1 < 1)))) (fun q => False) := by
  refine MI.of (by decide) (Nat.le_of_ble_eq_true rfl) ?_
  intro p e s m args below meth c E hml hr hlk hs ls hl
  have hx := E.1
  have hb := E.2.1
  have hown := E.2.2.1
  have hts := E.2.2.2.1
  have hS : SS (fun q => False) H H [] := SS.rf
  have hl : lv_has ls 1 [(0, .int 1)] := hl
  refine lv_iload_n hx hb dX12_isEnd_0 rfl (lv_at hl 0 rfl) ?_
  refine lv_i2l (v := 1) hx hb dX12_isEnd_1 (by decide) ?_
  refine lv_lconst (v := 0) hx hb dX12_isEnd_2 (by decide) ?_
  refine lv_lconst (v := 1) hx hb dX12_isEnd_3 (by decide) ?_
  refine th_Si (As := [.long 1, .long 0, .long 1]) (rest := []) E hml hl.1 (y_in_v6 l D cI cS τ ρ hW H hT) lk_X12_54 yd_X12_in hS (fun _ h => h.elim) ⟨by decide, by decide⟩ (Nat.le_of_ble_eq_true rfl) ⟨by decide, by decide⟩ rfl dX12_isEnd_4 (fun r_2 H_2 locs_2 p_2 hT_2 hk_2 hS_2 => ?_)
  have p_2 : H = H_2 ∧ (r_2 = 0 ∨ r_2 = 1) ∧ ((r_2.toInt = 1 ∧ 0 ≤ 1 ∧ 1 ≤ 1) ∨ (r_2.toInt = 0 ∧ (1 < 0 ∨ 1 < 1))) := p_2
  obtain ⟨rfl, p_2_0, p_2_1⟩ := p_2
  have z_2 := b_iv p_2_0
  exact th_zret E hr hlk hs p_2_0 hT_2 hS_2 ⟨rfl, p_2_0, (by omega)⟩ dX12_isEnd_7
set_option maxHeartbeats 4000000 in
set_option maxRecDepth 100000 in
/-- the reference: set -/
theorem y_set_v74 (l : Launch) (D : va_G) (cI cS : ClassId) (τ : Nat → Option Nat) (ρ : Nat → Nat → Nat) (hW : WF τ ρ) (H : Heap) (hT : TH D cI cS τ ρ H) (a0 : Nat) (ha0 : τ a0 = some 12) : MV l D cI cS τ ρ yX12_set cX12_set 4 none 0 0 H [.ref a0, .int 1, .int 3, .int 1] (fun (u : Heap) => (AU 985 H u (ρ a0 0) 291 (1))) (fun q => q = ρ a0 0) := by
  refine MV.of (by decide) (Nat.le_of_ble_eq_true rfl) ?_
  intro p e s m args below meth c E hml hr hlk hs ls hl
  have hx := E.1
  have hb := E.2.1
  have hown := E.2.2.1
  have hts := E.2.2.2.1
  have hS : SS (fun q => q = ρ a0 0) H H [] := SS.rf
  have hl : lv_has ls 4 [(0, .ref a0), (1, .int 1), (2, .int 3), (3, .int 1)] := hl
  refine lv_aload_n hx hb dX12_set_0 rfl (lv_at hl 0 rfl) ?_
  refine gf_X12_7 E hT hW ha0 dX12_set_1 (fun h_1 => ?_)
  refine lv_sipush (v := 288) hx hb dX12_set_4 (by decide) ?_
  refine lv_iload_n hx hb dX12_set_7 rfl (lv_at hl 1 rfl) ?_
  refine lv_imul hx hb dX12_set_8 ?_
  refine th_topi (y := 288) (by decide) ?_
  refine lv_iload_n hx hb dX12_set_9 rfl (lv_at hl 2 rfl) ?_
  refine lv_iadd hx hb dX12_set_10 ?_
  refine th_topi (y := 291) (by decide) ?_
  refine lv_iload_n hx hb dX12_set_11 rfl (lv_at hl 3 rfl) ?_
  refine th_iast E hT hS h_1 rfl (by decide) (vp_in_iff.mpr ⟨by decide, by decide⟩) dX12_set_12 (fun H_2 locs_2 hT_2 hU_2 hS_2 => ?_)
  have hU_2 : AU 985 H H_2 (ρ a0 0) 291 (1) := hU_2
  exact th_vret E hr hlk hs hT_2 hS_2 hU_2 dX12_set_13
set_option maxHeartbeats 4000000 in
set_option maxRecDepth 100000 in
/-- the reference: set -/
theorem y_set_v75 (l : Launch) (D : va_G) (cI cS : ClassId) (τ : Nat → Option Nat) (ρ : Nat → Nat → Nat) (hW : WF τ ρ) (H : Heap) (hT : TH D cI cS τ ρ H) (a0 : Nat) (ha0 : τ a0 = some 12) : MV l D cI cS τ ρ yX12_set cX12_set 4 none 0 0 H [.ref a0, .int 1, .int 6, .int 1] (fun (u : Heap) => (AU 985 H u (ρ a0 0) 294 (1))) (fun q => q = ρ a0 0) := by
  refine MV.of (by decide) (Nat.le_of_ble_eq_true rfl) ?_
  intro p e s m args below meth c E hml hr hlk hs ls hl
  have hx := E.1
  have hb := E.2.1
  have hown := E.2.2.1
  have hts := E.2.2.2.1
  have hS : SS (fun q => q = ρ a0 0) H H [] := SS.rf
  have hl : lv_has ls 4 [(0, .ref a0), (1, .int 1), (2, .int 6), (3, .int 1)] := hl
  refine lv_aload_n hx hb dX12_set_0 rfl (lv_at hl 0 rfl) ?_
  refine gf_X12_7 E hT hW ha0 dX12_set_1 (fun h_1 => ?_)
  refine lv_sipush (v := 288) hx hb dX12_set_4 (by decide) ?_
  refine lv_iload_n hx hb dX12_set_7 rfl (lv_at hl 1 rfl) ?_
  refine lv_imul hx hb dX12_set_8 ?_
  refine th_topi (y := 288) (by decide) ?_
  refine lv_iload_n hx hb dX12_set_9 rfl (lv_at hl 2 rfl) ?_
  refine lv_iadd hx hb dX12_set_10 ?_
  refine th_topi (y := 294) (by decide) ?_
  refine lv_iload_n hx hb dX12_set_11 rfl (lv_at hl 3 rfl) ?_
  refine th_iast E hT hS h_1 rfl (by decide) (vp_in_iff.mpr ⟨by decide, by decide⟩) dX12_set_12 (fun H_2 locs_2 hT_2 hU_2 hS_2 => ?_)
  have hU_2 : AU 985 H H_2 (ρ a0 0) 294 (1) := hU_2
  exact th_vret E hr hlk hs hT_2 hS_2 hU_2 dX12_set_13
set_option maxHeartbeats 4000000 in
set_option maxRecDepth 100000 in
/-- the reference: set -/
theorem y_set_v76 (l : Launch) (D : va_G) (cI cS : ClassId) (τ : Nat → Option Nat) (ρ : Nat → Nat → Nat) (hW : WF τ ρ) (H : Heap) (hT : TH D cI cS τ ρ H) (a0 : Nat) (x2 : Int32) (ha0 : τ a0 = some 12) : MV l D cI cS τ ρ yX12_set cX12_set 4 none 0 0 H [.ref a0, .int 1, .int 7, .int x2] (fun (u : Heap) => (AU 985 H u (ρ a0 0) 295 x2)) (fun q => q = ρ a0 0) := by
  refine MV.of (by decide) (Nat.le_of_ble_eq_true rfl) ?_
  intro p e s m args below meth c E hml hr hlk hs ls hl
  have hx := E.1
  have hb := E.2.1
  have hown := E.2.2.1
  have hts := E.2.2.2.1
  have hS : SS (fun q => q = ρ a0 0) H H [] := SS.rf
  have hl : lv_has ls 4 [(0, .ref a0), (1, .int 1), (2, .int 7), (3, .int x2)] := hl
  refine lv_aload_n hx hb dX12_set_0 rfl (lv_at hl 0 rfl) ?_
  refine gf_X12_7 E hT hW ha0 dX12_set_1 (fun h_1 => ?_)
  refine lv_sipush (v := 288) hx hb dX12_set_4 (by decide) ?_
  refine lv_iload_n hx hb dX12_set_7 rfl (lv_at hl 1 rfl) ?_
  refine lv_imul hx hb dX12_set_8 ?_
  refine th_topi (y := 288) (by decide) ?_
  refine lv_iload_n hx hb dX12_set_9 rfl (lv_at hl 2 rfl) ?_
  refine lv_iadd hx hb dX12_set_10 ?_
  refine th_topi (y := 295) (by decide) ?_
  refine lv_iload_n hx hb dX12_set_11 rfl (lv_at hl 3 rfl) ?_
  refine th_iast E hT hS h_1 rfl (by decide) (vp_in_iff.mpr ⟨by decide, by decide⟩) dX12_set_12 (fun H_2 locs_2 hT_2 hU_2 hS_2 => ?_)
  have hU_2 : AU 985 H H_2 (ρ a0 0) 295 x2 := hU_2
  exact th_vret E hr hlk hs hT_2 hS_2 hU_2 dX12_set_13
set_option maxHeartbeats 4000000 in
set_option maxRecDepth 100000 in
/-- the reference: set -/
theorem y_set_v77 (l : Launch) (D : va_G) (cI cS : ClassId) (τ : Nat → Option Nat) (ρ : Nat → Nat → Nat) (hW : WF τ ρ) (H : Heap) (hT : TH D cI cS τ ρ H) (a0 : Nat) (ha0 : τ a0 = some 12) : MV l D cI cS τ ρ yX12_set cX12_set 4 none 0 0 H [.ref a0, .int 1, .int 8, .int 6] (fun (u : Heap) => (AU 985 H u (ρ a0 0) 296 (6))) (fun q => q = ρ a0 0) := by
  refine MV.of (by decide) (Nat.le_of_ble_eq_true rfl) ?_
  intro p e s m args below meth c E hml hr hlk hs ls hl
  have hx := E.1
  have hb := E.2.1
  have hown := E.2.2.1
  have hts := E.2.2.2.1
  have hS : SS (fun q => q = ρ a0 0) H H [] := SS.rf
  have hl : lv_has ls 4 [(0, .ref a0), (1, .int 1), (2, .int 8), (3, .int 6)] := hl
  refine lv_aload_n hx hb dX12_set_0 rfl (lv_at hl 0 rfl) ?_
  refine gf_X12_7 E hT hW ha0 dX12_set_1 (fun h_1 => ?_)
  refine lv_sipush (v := 288) hx hb dX12_set_4 (by decide) ?_
  refine lv_iload_n hx hb dX12_set_7 rfl (lv_at hl 1 rfl) ?_
  refine lv_imul hx hb dX12_set_8 ?_
  refine th_topi (y := 288) (by decide) ?_
  refine lv_iload_n hx hb dX12_set_9 rfl (lv_at hl 2 rfl) ?_
  refine lv_iadd hx hb dX12_set_10 ?_
  refine th_topi (y := 296) (by decide) ?_
  refine lv_iload_n hx hb dX12_set_11 rfl (lv_at hl 3 rfl) ?_
  refine th_iast E hT hS h_1 rfl (by decide) (vp_in_iff.mpr ⟨by decide, by decide⟩) dX12_set_12 (fun H_2 locs_2 hT_2 hU_2 hS_2 => ?_)
  have hU_2 : AU 985 H H_2 (ρ a0 0) 296 (6) := hU_2
  exact th_vret E hr hlk hs hT_2 hS_2 hU_2 dX12_set_13
set_option maxHeartbeats 4000000 in
set_option maxRecDepth 100000 in
/-- the reference: set -/
theorem y_set_v78 (l : Launch) (D : va_G) (cI cS : ClassId) (τ : Nat → Option Nat) (ρ : Nat → Nat → Nat) (hW : WF τ ρ) (H : Heap) (hT : TH D cI cS τ ρ H) (a0 : Nat) (ha0 : τ a0 = some 12) : MV l D cI cS τ ρ yX12_set cX12_set 4 none 0 0 H [.ref a0, .int 1, .int 17, .int (-4)] (fun (u : Heap) => (AU 985 H u (ρ a0 0) 305 ((-4)))) (fun q => q = ρ a0 0) := by
  refine MV.of (by decide) (Nat.le_of_ble_eq_true rfl) ?_
  intro p e s m args below meth c E hml hr hlk hs ls hl
  have hx := E.1
  have hb := E.2.1
  have hown := E.2.2.1
  have hts := E.2.2.2.1
  have hS : SS (fun q => q = ρ a0 0) H H [] := SS.rf
  have hl : lv_has ls 4 [(0, .ref a0), (1, .int 1), (2, .int 17), (3, .int (-4))] := hl
  refine lv_aload_n hx hb dX12_set_0 rfl (lv_at hl 0 rfl) ?_
  refine gf_X12_7 E hT hW ha0 dX12_set_1 (fun h_1 => ?_)
  refine lv_sipush (v := 288) hx hb dX12_set_4 (by decide) ?_
  refine lv_iload_n hx hb dX12_set_7 rfl (lv_at hl 1 rfl) ?_
  refine lv_imul hx hb dX12_set_8 ?_
  refine th_topi (y := 288) (by decide) ?_
  refine lv_iload_n hx hb dX12_set_9 rfl (lv_at hl 2 rfl) ?_
  refine lv_iadd hx hb dX12_set_10 ?_
  refine th_topi (y := 305) (by decide) ?_
  refine lv_iload_n hx hb dX12_set_11 rfl (lv_at hl 3 rfl) ?_
  refine th_iast E hT hS h_1 rfl (by decide) (vp_in_iff.mpr ⟨by decide, by decide⟩) dX12_set_12 (fun H_2 locs_2 hT_2 hU_2 hS_2 => ?_)
  have hU_2 : AU 985 H H_2 (ρ a0 0) 305 ((-4)) := hU_2
  exact th_vret E hr hlk hs hT_2 hS_2 hU_2 dX12_set_13
set_option maxHeartbeats 4000000 in
set_option maxRecDepth 100000 in
/-- the reference: starts -/
theorem y_starts_v2 (l : Launch) (D : va_G) (cI cS : ClassId) (τ : Nat → Option Nat) (ρ : Nat → Nat → Nat) (hW : WF τ ρ) (H : Heap) (hT : TH D cI cS τ ρ H) (a0 : Nat) (ha0 : τ a0 = some 12) (N : Int) (hN0 : 0 ≤ N) (hN1 : N ≤ 600) (hI : IM D ρ N H a0) : MV l D cI cS τ ρ yX12_starts cX12_starts 3 none 1 23 H [.ref a0, .int 1] (fun (u : Heap) => (IM D ρ N u a0) ∧ ((ai u (ρ a0 0) 290).toInt ≤ N + 1)) (fun q => q = ρ a0 0) := by
  refine MV.of (by decide) (Nat.le_of_ble_eq_true rfl) ?_
  intro p e s m args below meth c E hml hr hlk hs ls hl
  have hx := E.1
  have hb := E.2.1
  have hown := E.2.2.1
  have hts := E.2.2.2.1
  have hS : SS (fun q => q = ρ a0 0) H H [] := SS.rf
  have hl : lv_has ls 3 [(0, .ref a0), (1, .int 1)] := hl
  have n01 := hI.2.2.2.2.2.1
  have n23 := hI.2.2.2.2.2.2.1
  have L_2 : ∀ (n : Nat) (H_c2 : Heap) (lc_c2 : List Loc) (ls : Array Slot) (y2_2 : Int32), TH D cI cS τ ρ H_c2 → SS (fun q => q = ρ a0 0) H H_c2 lc_c2 → lv_has ls 3 [(0, .ref a0), (1, .int 1), (2, .int y2_2)] → 0 ≤ y2_2.toInt → IM D ρ N H_c2 a0 → (ai H_c2 (ρ a0 0) 290).toInt ≤ N + 1 ∨ y2_2.toInt ≤ 2 → (288 - y2_2.toInt).toNat < n → W p l e (rmO 1 23) s m args below meth c H_c2 lc_c2 0 0 (MQ below (va_Qv (fun (u : Heap) => (IM D ρ N u a0) ∧ ((ai u (ρ a0 0) 290).toInt ≤ N + 1)) (Bt D cI cS τ ρ H) (fun q => q = ρ a0 0)) args s 0 0 (fun q => q = ρ a0 0)) (F0 m 2 ls []) := by
    intro n
    induction n with
    | zero => intro H_c2 lc_c2 ls y2_2 hT_c2 hS_c2 hl ly2_2 hI_c2 hx2_0 hm; exact absurd hm (Nat.not_lt_zero _)
    | succ n ih_2 =>
      intro H_c2 lc_c2 ls y2_2 hT_c2 hS_c2 hl ly2_2 hI_c2 hx2_0 hm_2
      refine lv_iload_n hx hb dX12_starts_2 rfl (lv_at hl 2 rfl) ?_
      refine lv_sipush (v := 288) hx hb dX12_starts_3 (by decide) ?_
      refine lv_icmp_ge (tgt := 28) hx hb dX12_starts_6 (by decide) (fun c_1 => ?_) (fun c_1 => ?_)
      · have f_1 : 288 ≤ y2_2.toInt := r_le (by decide) rfl c_1
        refine lv_aload_n hx hb dX12_starts_28 rfl (lv_at hl 0 rfl) ?_
        refine lv_iload_n hx hb dX12_starts_29 rfl (lv_at hl 1 rfl) ?_
        refine lv_iconst (v := 3) hx hb dX12_starts_30 (by decide) ?_
        refine lv_iconst (v := 1) hx hb dX12_starts_31 (by decide) ?_
        refine th_Vv (As := [.int 1, .int 3, .int 1]) (rest := []) E hml hl.1 (y_set_v74 l D cI cS τ ρ hW H_c2 hT_c2 a0 ha0) lk_X12_95 yd_X12_set hT_c2 ha0 rfl (by decide) hS_c2 (fun q h => h) ⟨by decide, by decide⟩ (Nat.le_of_ble_eq_true rfl) ⟨by decide, by decide⟩ rfl dX12_starts_32 (fun H_2 locs_2 p_2 hT_2 hk_2 hS_2 => ?_)
        have p_2 : (AU 985 H_c2 H_2 (ρ a0 0) 291 (1)) := p_2
        have hW_2 : PW N H_2 (ρ a0 0) := PW.put hI_c2.1 p_2 (by show (0 : Int) ≤ (1 : Int32).toInt; have : (1 : Int32).toInt = 1 := (by decide); omega) (by show _ ≤ (2147483647 : Int); exact i_max _)
        refine lv_aload_n hx hb dX12_starts_35 rfl (lv_at hl 0 rfl) ?_
        refine lv_iload_n hx hb dX12_starts_36 rfl (lv_at hl 1 rfl) ?_
        refine lv_bipush (v := 6) hx hb dX12_starts_37 (by decide) ?_
        refine lv_iconst (v := 1) hx hb dX12_starts_39 (by decide) ?_
        refine th_Vv (As := [.int 1, .int 6, .int 1]) (rest := []) E hml hl.1 (y_set_v75 l D cI cS τ ρ hW H_2 hT_2 a0 ha0) lk_X12_95 yd_X12_set hT_2 ha0 rfl (by decide) hS_2 (fun q h => h) ⟨by decide, by decide⟩ (Nat.le_of_ble_eq_true rfl) ⟨by decide, by decide⟩ rfl dX12_starts_40 (fun H_3 locs_3 p_3 hT_3 hk_3 hS_3 => ?_)
        have p_3 : (AU 985 H_2 H_3 (ρ a0 0) 294 (1)) := p_3
        have hW_3 : PW N H_3 (ρ a0 0) := PW.put hW_2 p_3 (by show (0 : Int) ≤ (1 : Int32).toInt; have : (1 : Int32).toInt = 1 := (by decide); omega) (by show (1 : Int32).toInt ≤ (N + 1 : Int); have : (1 : Int32).toInt = 1 := (by decide); omega)
        refine lv_aload_n hx hb dX12_starts_43 rfl (lv_at hl 0 rfl) ?_
        refine lv_iload_n hx hb dX12_starts_44 rfl (lv_at hl 1 rfl) ?_
        refine lv_bipush (v := 7) hx hb dX12_starts_45 (by decide) ?_
        refine lv_aload_n hx hb dX12_starts_47 rfl (lv_at hl 0 rfl) ?_
        refine gf_X12_29 E hT_3 ha0 dX12_starts_48 ?_
        refine th_topi (y := fi D 12 7 H_c2 a0) (Eq.trans (fi_q (p_3.2 _ (th_ne ha0 (hW _ 12 0 ha0 (by decide) (by decide) (by decide)) (by decide)))) (fi_q (p_2.2 _ (th_ne ha0 (hW _ 12 0 ha0 (by decide) (by decide) (by decide)) (by decide))))) ?_
        refine lv_topi (fun x_4 ex_4 => ?_)
        have b_4 : 2 ≤ x_4.toInt ∧ x_4.toInt ≤ 32 := by rw [ex_4]; exact IF.f7 hI_c2.2.2.2.2.2
        refine lv_iconst (v := 1) hx hb dX12_starts_51 (by decide) ?_
        refine lv_iadd hx hb dX12_starts_52 ?_
        refine lv_topi (fun x_5 ex_5 => ?_)
        have q_5 : x_5.toInt = x_4.toInt + 1 := i_pl rfl (by decide) ex_5 (by omega) (by omega)
        refine th_Vv (As := [.int 1, .int 7, .int x_5]) (rest := []) E hml hl.1 (y_set_v76 l D cI cS τ ρ hW H_3 hT_3 a0 x_5 ha0) lk_X12_95 yd_X12_set hT_3 ha0 rfl (by decide) hS_3 (fun q h => h) ⟨by decide, by decide⟩ (Nat.le_of_ble_eq_true rfl) ⟨by decide, by decide⟩ rfl dX12_starts_53 (fun H_6 locs_6 p_6 hT_6 hk_6 hS_6 => ?_)
        have p_6 : (AU 985 H_3 H_6 (ρ a0 0) 295 x_5) := p_6
        have hW_6 : PW N H_6 (ρ a0 0) := PW.put hW_3 p_6 (by show (0 : Int) ≤ x_5.toInt; omega) (by show x_5.toInt ≤ (N + 33 : Int); omega)
        refine lv_aload_n hx hb dX12_starts_56 rfl (lv_at hl 0 rfl) ?_
        refine lv_iload_n hx hb dX12_starts_57 rfl (lv_at hl 1 rfl) ?_
        refine lv_bipush (v := 8) hx hb dX12_starts_58 (by decide) ?_
        refine lv_bipush (v := 6) hx hb dX12_starts_60 (by decide) ?_
        refine th_Vv (As := [.int 1, .int 8, .int 6]) (rest := []) E hml hl.1 (y_set_v77 l D cI cS τ ρ hW H_6 hT_6 a0 ha0) lk_X12_95 yd_X12_set hT_6 ha0 rfl (by decide) hS_6 (fun q h => h) ⟨by decide, by decide⟩ (Nat.le_of_ble_eq_true rfl) ⟨by decide, by decide⟩ rfl dX12_starts_62 (fun H_7 locs_7 p_7 hT_7 hk_7 hS_7 => ?_)
        have p_7 : (AU 985 H_6 H_7 (ρ a0 0) 296 (6)) := p_7
        have hW_7 : PW N H_7 (ρ a0 0) := PW.put hW_6 p_7 (by show (-2147483648 : Int) ≤ _; exact i_min _) (by show _ ≤ (2147483647 : Int); exact i_max _)
        refine lv_aload_n hx hb dX12_starts_65 rfl (lv_at hl 0 rfl) ?_
        refine lv_iload_n hx hb dX12_starts_66 rfl (lv_at hl 1 rfl) ?_
        refine lv_bipush (v := 16) hx hb dX12_starts_67 (by decide) ?_
        refine lv_bipush (v := (-4)) hx hb dX12_starts_69 (by decide) ?_
        refine th_Vv (As := [.int 1, .int 16, .int (-4)]) (rest := []) E hml hl.1 (y_set l D cI cS τ ρ hW H_7 hT_7 a0 ha0) lk_X12_95 yd_X12_set hT_7 ha0 rfl (by decide) hS_7 (fun q h => h) ⟨by decide, by decide⟩ (Nat.le_of_ble_eq_true rfl) ⟨by decide, by decide⟩ rfl dX12_starts_71 (fun H_8 locs_8 p_8 hT_8 hk_8 hS_8 => ?_)
        have p_8 : (AU 985 H_7 H_8 (ρ a0 0) 304 ((-4))) := p_8
        have hW_8 : PW N H_8 (ρ a0 0) := PW.put hW_7 p_8 (by show (-2147483648 : Int) ≤ _; exact i_min _) (by show _ ≤ (2147483647 : Int); exact i_max _)
        refine lv_aload_n hx hb dX12_starts_74 rfl (lv_at hl 0 rfl) ?_
        refine lv_iload_n hx hb dX12_starts_75 rfl (lv_at hl 1 rfl) ?_
        refine lv_bipush (v := 17) hx hb dX12_starts_76 (by decide) ?_
        refine lv_bipush (v := (-4)) hx hb dX12_starts_78 (by decide) ?_
        refine th_Vv (As := [.int 1, .int 17, .int (-4)]) (rest := []) E hml hl.1 (y_set_v78 l D cI cS τ ρ hW H_8 hT_8 a0 ha0) lk_X12_95 yd_X12_set hT_8 ha0 rfl (by decide) hS_8 (fun q h => h) ⟨by decide, by decide⟩ (Nat.le_of_ble_eq_true rfl) ⟨by decide, by decide⟩ rfl dX12_starts_80 (fun H_9 locs_9 p_9 hT_9 hk_9 hS_9 => ?_)
        have p_9 : (AU 985 H_8 H_9 (ρ a0 0) 305 ((-4))) := p_9
        have hW_9 : PW N H_9 (ρ a0 0) := PW.put hW_8 p_9 (by show (-2147483648 : Int) ≤ _; exact i_min _) (by show ((-4) : Int32).toInt ≤ (N + 32 : Int); have : ((-4) : Int32).toInt = -4 := (by decide); omega)
        exact th_vret E hr hlk hs hT_9 hS_9 ⟨⟨hW_9, (QS.same (Eq.trans (AU.o p_9 (by decide) (by decide)) (Eq.trans (AU.o p_8 (by decide) (by decide)) (Eq.trans (AU.o p_7 (by decide) (by decide)) (Eq.trans (AU.o p_6 (by decide) (by decide)) (Eq.trans (AU.o p_3 (by decide) (by decide)) (AU.o p_2 (by decide) (by decide))))))) (Eq.trans (AU.o p_9 (by decide) (by decide)) (Eq.trans (AU.o p_8 (by decide) (by decide)) (Eq.trans (AU.o p_7 (by decide) (by decide)) (Eq.trans (AU.o p_6 (by decide) (by decide)) (Eq.trans (AU.o p_3 (by decide) (by decide)) (AU.o p_2 (by decide) (by decide))))))) hI_c2.2.1), (QS.same (Eq.trans (AU.o p_9 (by decide) (by decide)) (Eq.trans (AU.o p_8 (by decide) (by decide)) (Eq.trans (AU.o p_7 (by decide) (by decide)) (Eq.trans (AU.o p_6 (by decide) (by decide)) (Eq.trans (AU.o p_3 (by decide) (by decide)) (AU.o p_2 (by decide) (by decide))))))) (Eq.trans (AU.o p_9 (by decide) (by decide)) (Eq.trans (AU.o p_8 (by decide) (by decide)) (Eq.trans (AU.o p_7 (by decide) (by decide)) (Eq.trans (AU.o p_6 (by decide) (by decide)) (Eq.trans (AU.o p_3 (by decide) (by decide)) (AU.o p_2 (by decide) (by decide))))))) hI_c2.2.2.1), (PL.q (p_9.2 _ (th_ne (hW _ 12 2 ha0 (by decide) (by decide) (by decide)) (hW _ 12 0 ha0 (by decide) (by decide) (by decide)) (by decide))) (PL.q (p_8.2 _ (th_ne (hW _ 12 2 ha0 (by decide) (by decide) (by decide)) (hW _ 12 0 ha0 (by decide) (by decide) (by decide)) (by decide))) (PL.q (p_7.2 _ (th_ne (hW _ 12 2 ha0 (by decide) (by decide) (by decide)) (hW _ 12 0 ha0 (by decide) (by decide) (by decide)) (by decide))) (PL.q (p_6.2 _ (th_ne (hW _ 12 2 ha0 (by decide) (by decide) (by decide)) (hW _ 12 0 ha0 (by decide) (by decide) (by decide)) (by decide))) (PL.q (p_3.2 _ (th_ne (hW _ 12 2 ha0 (by decide) (by decide) (by decide)) (hW _ 12 0 ha0 (by decide) (by decide) (by decide)) (by decide))) (PL.q (p_2.2 _ (th_ne (hW _ 12 2 ha0 (by decide) (by decide) (by decide)) (hW _ 12 0 ha0 (by decide) (by decide) (by decide)) (by decide))) hI_c2.2.2.2.1)))))), (PL.q (p_9.2 _ (th_ne (hW _ 12 3 ha0 (by decide) (by decide) (by decide)) (hW _ 12 0 ha0 (by decide) (by decide) (by decide)) (by decide))) (PL.q (p_8.2 _ (th_ne (hW _ 12 3 ha0 (by decide) (by decide) (by decide)) (hW _ 12 0 ha0 (by decide) (by decide) (by decide)) (by decide))) (PL.q (p_7.2 _ (th_ne (hW _ 12 3 ha0 (by decide) (by decide) (by decide)) (hW _ 12 0 ha0 (by decide) (by decide) (by decide)) (by decide))) (PL.q (p_6.2 _ (th_ne (hW _ 12 3 ha0 (by decide) (by decide) (by decide)) (hW _ 12 0 ha0 (by decide) (by decide) (by decide)) (by decide))) (PL.q (p_3.2 _ (th_ne (hW _ 12 3 ha0 (by decide) (by decide) (by decide)) (hW _ 12 0 ha0 (by decide) (by decide) (by decide)) (by decide))) (PL.q (p_2.2 _ (th_ne (hW _ 12 3 ha0 (by decide) (by decide) (by decide)) (hW _ 12 0 ha0 (by decide) (by decide) (by decide)) (by decide))) hI_c2.2.2.2.2.1)))))), (IF.q (p_9.2 _ (th_ne ha0 (hW _ 12 0 ha0 (by decide) (by decide) (by decide)) (by decide))) (IF.q (p_8.2 _ (th_ne ha0 (hW _ 12 0 ha0 (by decide) (by decide) (by decide)) (by decide))) (IF.q (p_7.2 _ (th_ne ha0 (hW _ 12 0 ha0 (by decide) (by decide) (by decide)) (by decide))) (IF.q (p_6.2 _ (th_ne ha0 (hW _ 12 0 ha0 (by decide) (by decide) (by decide)) (by decide))) (IF.q (p_3.2 _ (th_ne ha0 (hW _ 12 0 ha0 (by decide) (by decide) (by decide)) (by decide))) (IF.q (p_2.2 _ (th_ne ha0 (hW _ 12 0 ha0 (by decide) (by decide) (by decide)) (by decide))) hI_c2.2.2.2.2.2))))))⟩, (by have : (ai H_9 (ρ a0 0) 290).toInt = (ai H_c2 (ρ a0 0) 290 : Int32).toInt := congrArg Int32.toInt (Eq.trans (AU.o p_9 (by decide) (by decide)) (Eq.trans (AU.o p_8 (by decide) (by decide)) (Eq.trans (AU.o p_7 (by decide) (by decide)) (Eq.trans (AU.o p_6 (by decide) (by decide)) (Eq.trans (AU.o p_3 (by decide) (by decide)) (AU.o p_2 (by decide) (by decide))))))); omega)⟩ dX12_starts_83
      · have f_1 : y2_2.toInt < 288 := r_nle (by decide) rfl c_1
        refine lv_aload_n hx hb dX12_starts_9 rfl (lv_at hl 0 rfl) ?_
        refine gf_X12_7 E hT_c2 hW ha0 dX12_starts_10 (fun h_10 => ?_)
        refine lv_sipush (v := 288) hx hb dX12_starts_13 (by decide) ?_
        refine lv_iload_n hx hb dX12_starts_16 rfl (lv_at hl 1 rfl) ?_
        refine lv_imul hx hb dX12_starts_17 ?_
        refine th_topi (y := 288) (by decide) ?_
        refine lv_iload_n hx hb dX12_starts_18 rfl (lv_at hl 2 rfl) ?_
        refine lv_iadd hx hb dX12_starts_19 ?_
        refine lv_topi (fun x_11 ex_11 => ?_)
        have q_11 : x_11.toInt = 288 + y2_2.toInt := i_pl (by decide) rfl ex_11 (by omega) (by omega)
        refine lv_iconst (v := 0) hx hb dX12_starts_20 (by decide) ?_
        refine th_iast E hT_c2 hS_c2 h_10 rfl (by decide) (vp_in_iff.mpr ⟨by omega, by omega⟩) dX12_starts_21 (fun H_12 locs_12 hT_12 hU_12 hS_12 => ?_)
        have hU_12 : AU 985 H_c2 H_12 (ρ a0 0) x_11.toInt.toNat (0) := hU_12
        have hW_12 : PW N H_12 (ρ a0 0) := PW.zero hI_c2.1 hU_12 (by omega)
        obtain ⟨x_13, ex_13⟩ : ∃ y : Int32, y2_2 + 1 = y := ⟨_, rfl⟩
        have q_x_13 : x_13.toInt = y2_2.toInt + 1 := i_add (k := 1) (by decide) ex_13 (by have := i_min y2_2; omega) (by have := i_max y2_2; omega)
        refine lv_iinc (v := x_13) (lv' := [(2, .int x_13), (0, .ref a0), (1, .int 1)]) hx hb dX12_starts_22 hl (k := 2) rfl (by rw [← ex_13]; rfl) (by decide) rfl (fun ls hl => ?_)
        refine lv_goto (tgt := 2) hx hb dX12_starts_25 (by decide) ?_
        exact ih_2 H_12 locs_12 _ x_13 hT_12 hS_12 (lv_sub hl [1, 2, 0] rfl) (by omega) ⟨hW_12, (QS.zero hI_c2.2.1 hU_12 (by decide) (by decide) hN0), (QS.zero hI_c2.2.2.1 hU_12 (by decide) (by decide) hN0), (PL.q (hU_12.2 _ (th_ne (hW _ 12 2 ha0 (by decide) (by decide) (by decide)) (hW _ 12 0 ha0 (by decide) (by decide) (by decide)) (by decide))) hI_c2.2.2.2.1), (PL.q (hU_12.2 _ (th_ne (hW _ 12 3 ha0 (by decide) (by decide) (by decide)) (hW _ 12 0 ha0 (by decide) (by decide) (by decide)) (by decide))) hI_c2.2.2.2.2.1), (IF.q (hU_12.2 _ (th_ne ha0 (hW _ 12 0 ha0 (by decide) (by decide) (by decide)) (by decide))) hI_c2.2.2.2.2.2)⟩ (by have a := hU_12.1 290 (by decide); have z0 : (0 : Int32).toInt = 0 := (by decide); by_cases q : 290 = x_11.toInt.toNat; rw [if_pos q] at a; have b := congrArg Int32.toInt a; omega; rw [if_neg q] at a; have b := congrArg Int32.toInt a; omega) (by omega)
  refine lv_iconst (v := 0) hx hb dX12_starts_0 (by decide) ?_
  refine lv_istore_n (lv' := [(2, .int 0), (0, .ref a0), (1, .int 1)]) hx hb dX12_starts_1 rfl hl (by decide) rfl (fun ls hl => ?_)
  exact L_2 _ H [] _ 0 hT hS (lv_sub hl [1, 2, 0] rfl) (by decide) ⟨hI.1, hI.2.1, hI.2.2.1, hI.2.2.2.1, hI.2.2.2.2.1, hI.2.2.2.2.2⟩ (Or.inr (by decide)) (Nat.lt_succ_self _)
set_option maxHeartbeats 4000000 in
set_option maxRecDepth 100000 in
/-- the reference: set -/
theorem y_set_v79 (l : Launch) (D : va_G) (cI cS : ClassId) (τ : Nat → Option Nat) (ρ : Nat → Nat → Nat) (hW : WF τ ρ) (H : Heap) (hT : TH D cI cS τ ρ H) (a0 : Nat) (ha0 : τ a0 = some 12) : MV l D cI cS τ ρ yX12_set cX12_set 4 none 0 0 H [.ref a0, .int 1, .int 0, .int 2] (fun (u : Heap) => (AU 985 H u (ρ a0 0) 288 (2))) (fun q => q = ρ a0 0) := by
  refine MV.of (by decide) (Nat.le_of_ble_eq_true rfl) ?_
  intro p e s m args below meth c E hml hr hlk hs ls hl
  have hx := E.1
  have hb := E.2.1
  have hown := E.2.2.1
  have hts := E.2.2.2.1
  have hS : SS (fun q => q = ρ a0 0) H H [] := SS.rf
  have hl : lv_has ls 4 [(0, .ref a0), (1, .int 1), (2, .int 0), (3, .int 2)] := hl
  refine lv_aload_n hx hb dX12_set_0 rfl (lv_at hl 0 rfl) ?_
  refine gf_X12_7 E hT hW ha0 dX12_set_1 (fun h_1 => ?_)
  refine lv_sipush (v := 288) hx hb dX12_set_4 (by decide) ?_
  refine lv_iload_n hx hb dX12_set_7 rfl (lv_at hl 1 rfl) ?_
  refine lv_imul hx hb dX12_set_8 ?_
  refine th_topi (y := 288) (by decide) ?_
  refine lv_iload_n hx hb dX12_set_9 rfl (lv_at hl 2 rfl) ?_
  refine lv_iadd hx hb dX12_set_10 ?_
  refine th_topi (y := 288) (by decide) ?_
  refine lv_iload_n hx hb dX12_set_11 rfl (lv_at hl 3 rfl) ?_
  refine th_iast E hT hS h_1 rfl (by decide) (vp_in_iff.mpr ⟨by decide, by decide⟩) dX12_set_12 (fun H_2 locs_2 hT_2 hU_2 hS_2 => ?_)
  have hU_2 : AU 985 H H_2 (ρ a0 0) 288 (2) := hU_2
  exact th_vret E hr hlk hs hT_2 hS_2 hU_2 dX12_set_13
set_option maxHeartbeats 4000000 in
set_option maxRecDepth 100000 in
/-- the reference: set -/
theorem y_set_v80 (l : Launch) (D : va_G) (cI cS : ClassId) (τ : Nat → Option Nat) (ρ : Nat → Nat → Nat) (hW : WF τ ρ) (H : Heap) (hT : TH D cI cS τ ρ H) (a0 : Nat) (ha0 : τ a0 = some 12) : MV l D cI cS τ ρ yX12_set cX12_set 4 none 0 0 H [.ref a0, .int 1, .int 0, .int 1] (fun (u : Heap) => (AU 985 H u (ρ a0 0) 288 (1))) (fun q => q = ρ a0 0) := by
  refine MV.of (by decide) (Nat.le_of_ble_eq_true rfl) ?_
  intro p e s m args below meth c E hml hr hlk hs ls hl
  have hx := E.1
  have hb := E.2.1
  have hown := E.2.2.1
  have hts := E.2.2.2.1
  have hS : SS (fun q => q = ρ a0 0) H H [] := SS.rf
  have hl : lv_has ls 4 [(0, .ref a0), (1, .int 1), (2, .int 0), (3, .int 1)] := hl
  refine lv_aload_n hx hb dX12_set_0 rfl (lv_at hl 0 rfl) ?_
  refine gf_X12_7 E hT hW ha0 dX12_set_1 (fun h_1 => ?_)
  refine lv_sipush (v := 288) hx hb dX12_set_4 (by decide) ?_
  refine lv_iload_n hx hb dX12_set_7 rfl (lv_at hl 1 rfl) ?_
  refine lv_imul hx hb dX12_set_8 ?_
  refine th_topi (y := 288) (by decide) ?_
  refine lv_iload_n hx hb dX12_set_9 rfl (lv_at hl 2 rfl) ?_
  refine lv_iadd hx hb dX12_set_10 ?_
  refine th_topi (y := 288) (by decide) ?_
  refine lv_iload_n hx hb dX12_set_11 rfl (lv_at hl 3 rfl) ?_
  refine th_iast E hT hS h_1 rfl (by decide) (vp_in_iff.mpr ⟨by decide, by decide⟩) dX12_set_12 (fun H_2 locs_2 hT_2 hU_2 hS_2 => ?_)
  have hU_2 : AU 985 H H_2 (ρ a0 0) 288 (1) := hU_2
  exact th_vret E hr hlk hs hT_2 hS_2 hU_2 dX12_set_13
set_option maxHeartbeats 4000000 in
set_option maxRecDepth 100000 in
/-- the reference: open -/
theorem y_open_v2 (l : Launch) (D : va_G) (cI cS : ClassId) (τ : Nat → Option Nat) (ρ : Nat → Nat → Nat) (hW : WF τ ρ) (H : Heap) (hT : TH D cI cS τ ρ H) (a0 : Nat) (x1 : Int32) (ha0 : τ a0 = some 12) (N : Int) (hN0 : 0 ≤ N) (hN1 : N ≤ 600) (hI : IM D ρ N H a0) (hp0 : (ai H (ρ a0 0) 290).toInt ≤ N + 1) : MI l D cI cS τ ρ yX12_open cX12_open 3 (some .int) 7 157 H [.ref a0, .int 1, .int x1] (fun (r : Int32) (u : Heap) => (IM D ρ N u a0)) (fun q => q = ρ a0 0 ∨ q = ρ a0 2) := by
  refine MI.of (by decide) (Nat.le_of_ble_eq_true rfl) ?_
  intro p e s m args below meth c E hml hr hlk hs ls hl
  have hx := E.1
  have hb := E.2.1
  have hown := E.2.2.1
  have hts := E.2.2.2.1
  have hS : SS (fun q => q = ρ a0 0 ∨ q = ρ a0 2) H H [] := SS.rf
  have hl : lv_has ls 3 [(0, .ref a0), (1, .int 1), (2, .int x1)] := hl
  have n01 := hI.2.2.2.2.2.1
  have n23 := hI.2.2.2.2.2.2.1
  refine lv_iload_n hx hb dX12_open_0 rfl (lv_at hl 1 rfl) ?_
  refine th_Si (As := [.int 1]) (rest := []) E hml hl.1 (y_isEnd_v2 l D cI cS τ ρ hW H hT) lk_X12_160 yd_X12_isEnd hS (fun _ h => h.elim) ⟨by decide, by decide⟩ (Nat.le_of_ble_eq_true rfl) ⟨by decide, by decide⟩ rfl dX12_open_1 (fun r_1 H_1 locs_1 p_1 hT_1 hk_1 hS_1 => ?_)
  have p_1 : H = H_1 ∧ (r_1 = 0 ∨ r_1 = 1) ∧ ((r_1.toInt = 1 ∧ 0 ≤ 1 ∧ 1 ≤ 1) ∨ (r_1.toInt = 0 ∧ (1 < 0 ∨ 1 < 1))) := p_1
  obtain ⟨rfl, p_1_0, p_1_1⟩ := p_1
  have z_1 := b_iv p_1_0
  refine lv_if_eq (tgt := 17) hx hb dX12_open_4 (by decide) (fun c_2 => False.elim (by have f_2 : r_1.toInt = 0 := r_eq rfl (by decide) c_2; omega)) (fun c_2 => ?_)
  refine lv_iload_n hx hb dX12_open_7 rfl (lv_at hl 2 rfl) ?_
  obtain ⟨x_3, ex_3⟩ : ∃ y : Int64, x1.toInt64 = y := ⟨_, rfl⟩
  refine lv_i2l (v := x_3) hx hb dX12_open_8 ex_3 ?_
  have q_3 : x_3.toInt = x1.toInt := by rw [← ex_3]; exact Int32.toInt_toInt64 _
  refine lv_lconst (v := 0) hx hb dX12_open_9 (by decide) ?_
  refine lv_lconst (v := 1) hx hb dX12_open_10 (by decide) ?_
  refine th_Si (As := [.long x_3, .long 0, .long 1]) (rest := []) E hml hl.1 (y_in_v5 l D cI cS τ ρ hW H hT_1 x_3) lk_X12_54 yd_X12_in hS_1 (fun _ h => h.elim) ⟨by decide, by decide⟩ (Nat.le_of_ble_eq_true rfl) ⟨by decide, by decide⟩ rfl dX12_open_11 (fun r_4 H_4 locs_4 p_4 hT_4 hk_4 hS_4 => ?_)
  have p_4 : H = H_4 ∧ (r_4 = 0 ∨ r_4 = 1) ∧ ((r_4.toInt = 1 ∧ 0 ≤ x_3.toInt ∧ x_3.toInt ≤ 1) ∨ (r_4.toInt = 0 ∧ (x_3.toInt < 0 ∨ 1 < x_3.toInt))) := p_4
  obtain ⟨rfl, p_4_0, p_4_1⟩ := p_4
  have z_4 := b_iv p_4_0
  refine lv_if_ne (tgt := 19) hx hb dX12_open_14 (by decide) (fun c_5 => ?_) (fun c_5 => ?_)
  · have f_5 : ¬ r_4.toInt = 0 := r_ne rfl (by decide) c_5
    have nz_r_4 : ¬ r_4 = 0 := c_5
    refine lv_aload_n hx hb dX12_open_19 rfl (lv_at hl 0 rfl) ?_
    refine lv_iload_n hx hb dX12_open_20 rfl (lv_at hl 1 rfl) ?_
    refine lv_iconst (v := 0) hx hb dX12_open_21 (by decide) ?_
    refine th_Vi (As := [.int 1, .int 0]) (rest := []) E hml hl.1 (y_get_v20 l D cI cS τ ρ hW H hT_4 a0 ha0) lk_X12_99 yd_X12_get hT_4 ha0 rfl (by decide) hS_4 (fun _ h => h.elim) ⟨by decide, by decide⟩ (Nat.le_of_ble_eq_true rfl) ⟨by decide, by decide⟩ rfl dX12_open_22 (fun r_6 H_6 locs_6 p_6 hT_6 hk_6 hS_6 => ?_)
    have p_6 : H = H_6 ∧ (ai H (ρ a0 0) 288 = r_6) := p_6
    obtain ⟨rfl, p_6_0⟩ := p_6
    have c_r_6 := congrArg Int32.toInt p_6_0
    refine lv_if_eq (tgt := 31) hx hb dX12_open_25 (by decide) (fun c_7 => ?_) (fun c_7 => ?_)
    · have f_7 : r_6.toInt = 0 := r_eq rfl (by decide) c_7
      refine lv_aload_n hx hb dX12_open_31 rfl (lv_at hl 0 rfl) ?_
      refine lv_iload_n hx hb dX12_open_32 rfl (lv_at hl 1 rfl) ?_
      refine th_Vv (As := [.int 1]) (rest := []) E hml hl.1 (y_starts_v2 l D cI cS τ ρ hW H hT_6 a0 ha0 N hN0 hN1 ⟨hI.1, hI.2.1, hI.2.2.1, hI.2.2.2.1, hI.2.2.2.2.1, hI.2.2.2.2.2⟩) lk_X12_91 yd_X12_starts hT_6 ha0 rfl (by decide) hS_6 (fun q h => (Or.inl h)) ⟨by decide, by decide⟩ (Nat.le_of_ble_eq_true rfl) ⟨by decide, by decide⟩ rfl dX12_open_33 (fun H_8 locs_8 p_8 hT_8 hk_8 hS_8 => ?_)
      have p_8 : (IM D ρ N H_8 a0) ∧ ((ai H_8 (ρ a0 0) 290).toInt ≤ N + 1) := p_8
      obtain ⟨p_8_0, p_8_1⟩ := p_8
      refine lv_aload_n hx hb dX12_open_36 rfl (lv_at hl 0 rfl) ?_
      refine lv_iload_n hx hb dX12_open_37 rfl (lv_at hl 1 rfl) ?_
      refine lv_iconst (v := 0) hx hb dX12_open_38 (by decide) ?_
      refine lv_iload_n hx hb dX12_open_39 rfl (lv_at hl 2 rfl) ?_
      refine lv_if_ne (tgt := 47) hx hb dX12_open_40 (by decide) (fun c_9 => ?_) (fun c_9 => ?_)
      · have f_9 : ¬ x1.toInt = 0 := r_ne rfl (by decide) c_9
        have nz_x1 : ¬ x1 = 0 := c_9
        refine lv_iconst (v := 2) hx hb dX12_open_47 (by decide) ?_
        refine th_Vv (As := [.int 1, .int 0, .int 2]) (rest := []) E hml hl.1 (y_set_v79 l D cI cS τ ρ hW H_8 hT_8 a0 ha0) lk_X12_95 yd_X12_set hT_8 ha0 rfl (by decide) hS_8 (fun q h => (Or.inl h)) ⟨by decide, by decide⟩ (Nat.le_of_ble_eq_true rfl) ⟨by decide, by decide⟩ rfl dX12_open_48 (fun H_10 locs_10 p_10 hT_10 hk_10 hS_10 => ?_)
        have p_10 : (AU 985 H_8 H_10 (ρ a0 0) 288 (2)) := p_10
        have hW_10 : PW N H_10 (ρ a0 0) := PW.put p_8_0.1 p_10 (by show (-2147483648 : Int) ≤ _; exact i_min _) (by show _ ≤ (2147483647 : Int); exact i_max _)
        refine lv_iload_n hx hb dX12_open_51 rfl (lv_at hl 2 rfl) ?_
        refine lv_iconst (v := 1) hx hb dX12_open_52 (by decide) ?_
        refine lv_icmp_ne (tgt := 61) hx hb dX12_open_53 (by decide) (fun c_11 => ?_) (fun c_11 => ?_)
        · have f_11 : ¬ x1.toInt = 1 := r_ne rfl (by decide) c_11
          refine lv_aload_n hx hb dX12_open_61 rfl (lv_at hl 0 rfl) ?_
          refine lv_iload_n hx hb dX12_open_62 rfl (lv_at hl 1 rfl) ?_
          refine th_Vv (As := [.int 1]) (rest := []) E hml hl.1 (y_settles_v2 l D cI cS τ ρ hW H_10 hT_10 a0 ha0 N hN0 hN1 ⟨hW_10, (QS.same (AU.o p_10 (by decide) (by decide)) (AU.o p_10 (by decide) (by decide)) p_8_0.2.1), (QS.of (s := (2 : Int32)) (t := (ai H_8 (ρ a0 0) 290 : Int32)) (AU.s p_10 (by decide)) (AU.o p_10 (by decide) (by decide)) (by have j := p_8_0.2.2.1; unfold QS at j; have : (2 : Int32).toInt = 2 := (by decide); omega)), (PL.q (p_10.2 _ (th_ne (hW _ 12 2 ha0 (by decide) (by decide) (by decide)) (hW _ 12 0 ha0 (by decide) (by decide) (by decide)) (by decide))) p_8_0.2.2.2.1), (PL.q (p_10.2 _ (th_ne (hW _ 12 3 ha0 (by decide) (by decide) (by decide)) (hW _ 12 0 ha0 (by decide) (by decide) (by decide)) (by decide))) p_8_0.2.2.2.2.1), (IF.q (p_10.2 _ (th_ne ha0 (hW _ 12 0 ha0 (by decide) (by decide) (by decide)) (by decide))) p_8_0.2.2.2.2.2)⟩) lk_X12_166 yd_X12_settles hT_10 ha0 rfl (by decide) hS_10 (fun q h => (Or.inl h)) ⟨by decide, by decide⟩ (Nat.le_of_ble_eq_true rfl) ⟨by decide, by decide⟩ rfl dX12_open_63 (fun H_12 locs_12 p_12 hT_12 hk_12 hS_12 => ?_)
          have p_12 : (IM D ρ N H_12 a0) ∧ ((ai H_10 (ρ a0 0) 976).toInt ≤ (ai H_12 (ρ a0 0) 976).toInt) := p_12
          obtain ⟨p_12_0, p_12_1⟩ := p_12
          have mn_12 : (ai H_8 (ρ a0 0) 976).toInt ≤ (ai H_12 (ρ a0 0) 976).toInt := by have h := p_12_1; rw [(AU.o p_10 (by decide) (by decide))] at h; exact h
          refine lv_aload_n hx hb dX12_open_66 rfl (lv_at hl 0 rfl) ?_
          refine gf_X12_7 E hT_12 hW ha0 dX12_open_67 (fun h_13 => ?_)
          refine lv_sipush (v := 976) hx hb dX12_open_70 (by decide) ?_
          refine th_iald E hT_12 h_13 (by decide) (vp_in_iff.mpr ⟨by decide, by decide⟩) dX12_open_73 ?_
          refine th_topi (y := ai H_12 (ρ a0 0) 976) rfl ?_
          refine lv_topi (fun x_14 ex_14 => ?_)
          have b_x_14 : 0 ≤ x_14.toInt ∧ x_14.toInt ≤ 20 := by rw [← ex_14.symm]; exact p_12_0.1 976 (by decide)
          have c_x_14 := congrArg Int32.toInt ex_14.symm
          exact th_iret E hr hlk hs hT_12 hS_12 ⟨p_12_0.1, p_12_0.2.1, p_12_0.2.2.1, p_12_0.2.2.2.1, p_12_0.2.2.2.2.1, p_12_0.2.2.2.2.2⟩ dX12_open_74
        · have f_11 : x1.toInt = 1 := r_eq rfl (by decide) c_11
          refine lv_aload_n hx hb dX12_open_56 rfl (lv_at hl 0 rfl) ?_
          refine lv_iload_n hx hb dX12_open_57 rfl (lv_at hl 1 rfl) ?_
          refine th_Vv (As := [.int 1]) (rest := []) E hml hl.1 (y_callsOut_v2 l D cI cS τ ρ hW H_10 hT_10 a0 ha0 N hN0 hN1 ⟨hW_10, (QS.same (AU.o p_10 (by decide) (by decide)) (AU.o p_10 (by decide) (by decide)) p_8_0.2.1), (QS.of (s := (2 : Int32)) (t := (ai H_8 (ρ a0 0) 290 : Int32)) (AU.s p_10 (by decide)) (AU.o p_10 (by decide) (by decide)) (by have j := p_8_0.2.2.1; unfold QS at j; have : (2 : Int32).toInt = 2 := (by decide); omega)), (PL.q (p_10.2 _ (th_ne (hW _ 12 2 ha0 (by decide) (by decide) (by decide)) (hW _ 12 0 ha0 (by decide) (by decide) (by decide)) (by decide))) p_8_0.2.2.2.1), (PL.q (p_10.2 _ (th_ne (hW _ 12 3 ha0 (by decide) (by decide) (by decide)) (hW _ 12 0 ha0 (by decide) (by decide) (by decide)) (by decide))) p_8_0.2.2.2.2.1), (IF.q (p_10.2 _ (th_ne ha0 (hW _ 12 0 ha0 (by decide) (by decide) (by decide)) (by decide))) p_8_0.2.2.2.2.2)⟩) lk_X12_163 yd_X12_callsOut hT_10 ha0 rfl (by decide) hS_10 (fun q => (fun h => h.elim (fun h => (Or.inr h)) (fun h => (Or.inl h)))) ⟨by decide, by decide⟩ (Nat.le_of_ble_eq_true rfl) ⟨by decide, by decide⟩ rfl dX12_open_58 (fun H_15 locs_15 p_15 hT_15 hk_15 hS_15 => ?_)
          have p_15 : (IM D ρ N H_15 a0) ∧ ((ai H_10 (ρ a0 0) 976).toInt ≤ (ai H_15 (ρ a0 0) 976).toInt) := p_15
          obtain ⟨p_15_0, p_15_1⟩ := p_15
          have mn_15 : (ai H_8 (ρ a0 0) 976).toInt ≤ (ai H_15 (ρ a0 0) 976).toInt := by have h := p_15_1; rw [(AU.o p_10 (by decide) (by decide))] at h; exact h
          refine lv_aload_n hx hb dX12_open_61 rfl (lv_at hl 0 rfl) ?_
          refine lv_iload_n hx hb dX12_open_62 rfl (lv_at hl 1 rfl) ?_
          refine th_Vv (As := [.int 1]) (rest := []) E hml hl.1 (y_settles_v2 l D cI cS τ ρ hW H_15 hT_15 a0 ha0 N hN0 hN1 ⟨p_15_0.1, p_15_0.2.1, p_15_0.2.2.1, p_15_0.2.2.2.1, p_15_0.2.2.2.2.1, p_15_0.2.2.2.2.2⟩) lk_X12_166 yd_X12_settles hT_15 ha0 rfl (by decide) hS_15 (fun q h => (Or.inl h)) ⟨by decide, by decide⟩ (Nat.le_of_ble_eq_true rfl) ⟨by decide, by decide⟩ rfl dX12_open_63 (fun H_16 locs_16 p_16 hT_16 hk_16 hS_16 => ?_)
          have p_16 : (IM D ρ N H_16 a0) ∧ ((ai H_15 (ρ a0 0) 976).toInt ≤ (ai H_16 (ρ a0 0) 976).toInt) := p_16
          obtain ⟨p_16_0, p_16_1⟩ := p_16
          have mn_16 : (ai H_15 (ρ a0 0) 976).toInt ≤ (ai H_16 (ρ a0 0) 976).toInt := by exact p_16_1
          refine lv_aload_n hx hb dX12_open_66 rfl (lv_at hl 0 rfl) ?_
          refine gf_X12_7 E hT_16 hW ha0 dX12_open_67 (fun h_17 => ?_)
          refine lv_sipush (v := 976) hx hb dX12_open_70 (by decide) ?_
          refine th_iald E hT_16 h_17 (by decide) (vp_in_iff.mpr ⟨by decide, by decide⟩) dX12_open_73 ?_
          refine th_topi (y := ai H_16 (ρ a0 0) 976) rfl ?_
          refine lv_topi (fun x_18 ex_18 => ?_)
          have b_x_18 : 0 ≤ x_18.toInt ∧ x_18.toInt ≤ 20 := by rw [← ex_18.symm]; exact p_16_0.1 976 (by decide)
          have c_x_18 := congrArg Int32.toInt ex_18.symm
          exact th_iret E hr hlk hs hT_16 hS_16 ⟨p_16_0.1, p_16_0.2.1, p_16_0.2.2.1, p_16_0.2.2.2.1, p_16_0.2.2.2.2.1, p_16_0.2.2.2.2.2⟩ dX12_open_74
      · have f_9 : x1.toInt = 0 := r_eq rfl (by decide) c_9
        refine lv_iconst (v := 1) hx hb dX12_open_43 (by decide) ?_
        refine lv_goto (tgt := 48) hx hb dX12_open_44 (by decide) ?_
        refine th_Vv (As := [.int 1, .int 0, .int 1]) (rest := []) E hml hl.1 (y_set_v80 l D cI cS τ ρ hW H_8 hT_8 a0 ha0) lk_X12_95 yd_X12_set hT_8 ha0 rfl (by decide) hS_8 (fun q h => (Or.inl h)) ⟨by decide, by decide⟩ (Nat.le_of_ble_eq_true rfl) ⟨by decide, by decide⟩ rfl dX12_open_48 (fun H_19 locs_19 p_19 hT_19 hk_19 hS_19 => ?_)
        have p_19 : (AU 985 H_8 H_19 (ρ a0 0) 288 (1)) := p_19
        have hW_19 : PW N H_19 (ρ a0 0) := PW.put p_8_0.1 p_19 (by show (-2147483648 : Int) ≤ _; exact i_min _) (by show _ ≤ (2147483647 : Int); exact i_max _)
        refine lv_iload_n hx hb dX12_open_51 rfl (lv_at hl 2 rfl) ?_
        refine lv_iconst (v := 1) hx hb dX12_open_52 (by decide) ?_
        refine lv_icmp_ne (tgt := 61) hx hb dX12_open_53 (by decide) (fun c_20 => ?_) (fun c_20 => False.elim (by have f_20 : x1.toInt = 1 := r_eq rfl (by decide) c_20; omega))
        refine lv_aload_n hx hb dX12_open_61 rfl (lv_at hl 0 rfl) ?_
        refine lv_iload_n hx hb dX12_open_62 rfl (lv_at hl 1 rfl) ?_
        refine th_Vv (As := [.int 1]) (rest := []) E hml hl.1 (y_settles_v2 l D cI cS τ ρ hW H_19 hT_19 a0 ha0 N hN0 hN1 ⟨hW_19, (QS.same (AU.o p_19 (by decide) (by decide)) (AU.o p_19 (by decide) (by decide)) p_8_0.2.1), (QS.of (s := (1 : Int32)) (t := (ai H_8 (ρ a0 0) 290 : Int32)) (AU.s p_19 (by decide)) (AU.o p_19 (by decide) (by decide)) (by have j := p_8_0.2.2.1; unfold QS at j; have : (1 : Int32).toInt = 1 := (by decide); omega)), (PL.q (p_19.2 _ (th_ne (hW _ 12 2 ha0 (by decide) (by decide) (by decide)) (hW _ 12 0 ha0 (by decide) (by decide) (by decide)) (by decide))) p_8_0.2.2.2.1), (PL.q (p_19.2 _ (th_ne (hW _ 12 3 ha0 (by decide) (by decide) (by decide)) (hW _ 12 0 ha0 (by decide) (by decide) (by decide)) (by decide))) p_8_0.2.2.2.2.1), (IF.q (p_19.2 _ (th_ne ha0 (hW _ 12 0 ha0 (by decide) (by decide) (by decide)) (by decide))) p_8_0.2.2.2.2.2)⟩) lk_X12_166 yd_X12_settles hT_19 ha0 rfl (by decide) hS_19 (fun q h => (Or.inl h)) ⟨by decide, by decide⟩ (Nat.le_of_ble_eq_true rfl) ⟨by decide, by decide⟩ rfl dX12_open_63 (fun H_21 locs_21 p_21 hT_21 hk_21 hS_21 => ?_)
        have p_21 : (IM D ρ N H_21 a0) ∧ ((ai H_19 (ρ a0 0) 976).toInt ≤ (ai H_21 (ρ a0 0) 976).toInt) := p_21
        obtain ⟨p_21_0, p_21_1⟩ := p_21
        have mn_21 : (ai H_8 (ρ a0 0) 976).toInt ≤ (ai H_21 (ρ a0 0) 976).toInt := by have h := p_21_1; rw [(AU.o p_19 (by decide) (by decide))] at h; exact h
        refine lv_aload_n hx hb dX12_open_66 rfl (lv_at hl 0 rfl) ?_
        refine gf_X12_7 E hT_21 hW ha0 dX12_open_67 (fun h_22 => ?_)
        refine lv_sipush (v := 976) hx hb dX12_open_70 (by decide) ?_
        refine th_iald E hT_21 h_22 (by decide) (vp_in_iff.mpr ⟨by decide, by decide⟩) dX12_open_73 ?_
        refine th_topi (y := ai H_21 (ρ a0 0) 976) rfl ?_
        refine lv_topi (fun x_23 ex_23 => ?_)
        have b_x_23 : 0 ≤ x_23.toInt ∧ x_23.toInt ≤ 20 := by rw [← ex_23.symm]; exact p_21_0.1 976 (by decide)
        have c_x_23 := congrArg Int32.toInt ex_23.symm
        exact th_iret E hr hlk hs hT_21 hS_21 ⟨p_21_0.1, p_21_0.2.1, p_21_0.2.2.1, p_21_0.2.2.2.1, p_21_0.2.2.2.2.1, p_21_0.2.2.2.2.2⟩ dX12_open_74
    · have f_7 : ¬ r_6.toInt = 0 := r_ne rfl (by decide) c_7
      have nz_r_6 : ¬ r_6 = 0 := c_7
      refine lv_bipush (v := (-2)) hx hb dX12_open_28 (by decide) ?_
      exact th_iret E hr hlk hs hT_6 hS_6 ⟨hI.1, hI.2.1, hI.2.2.1, hI.2.2.2.1, hI.2.2.2.2.1, hI.2.2.2.2.2⟩ dX12_open_30
  · have f_5 : r_4.toInt = 0 := r_eq rfl (by decide) c_5
    refine lv_iconst (v := (-1)) hx hb dX12_open_17 (by decide) ?_
    exact th_iret E hr hlk hs hT_4 hS_4 ⟨hI.1, hI.2.1, hI.2.2.1, hI.2.2.2.1, hI.2.2.2.2.1, hI.2.2.2.2.2⟩ dX12_open_18
set_option maxHeartbeats 4000000 in
set_option maxRecDepth 100000 in
/-- the reference: isEnd -/
theorem y_isEnd_v3 (l : Launch) (D : va_G) (cI cS : ClassId) (τ : Nat → Option Nat) (ρ : Nat → Nat → Nat) (hW : WF τ ρ) (H : Heap) (hT : TH D cI cS τ ρ H) (x0 : Int32) : MI l D cI cS τ ρ yX12_isEnd cX12_isEnd 1 (some .boolean) 1 25 H [.int x0] (fun (r : Int32) (u : Heap) => (H = u) ∧ (r = 0 ∨ r = 1) ∧ ((r.toInt = 1 ∧ 0 ≤ x0.toInt ∧ x0.toInt ≤ 1) ∨ (r.toInt = 0 ∧ (x0.toInt < 0 ∨ 1 < x0.toInt)))) (fun q => False) := by
  refine MI.of (by decide) (Nat.le_of_ble_eq_true rfl) ?_
  intro p e s m args below meth c E hml hr hlk hs ls hl
  have hx := E.1
  have hb := E.2.1
  have hown := E.2.2.1
  have hts := E.2.2.2.1
  have hS : SS (fun q => False) H H [] := SS.rf
  have hl : lv_has ls 1 [(0, .int x0)] := hl
  refine lv_iload_n hx hb dX12_isEnd_0 rfl (lv_at hl 0 rfl) ?_
  obtain ⟨x_1, ex_1⟩ : ∃ y : Int64, x0.toInt64 = y := ⟨_, rfl⟩
  refine lv_i2l (v := x_1) hx hb dX12_isEnd_1 ex_1 ?_
  have q_1 : x_1.toInt = x0.toInt := by rw [← ex_1]; exact Int32.toInt_toInt64 _
  refine lv_lconst (v := 0) hx hb dX12_isEnd_2 (by decide) ?_
  refine lv_lconst (v := 1) hx hb dX12_isEnd_3 (by decide) ?_
  refine th_Si (As := [.long x_1, .long 0, .long 1]) (rest := []) E hml hl.1 (y_in_v5 l D cI cS τ ρ hW H hT x_1) lk_X12_54 yd_X12_in hS (fun _ h => h.elim) ⟨by decide, by decide⟩ (Nat.le_of_ble_eq_true rfl) ⟨by decide, by decide⟩ rfl dX12_isEnd_4 (fun r_2 H_2 locs_2 p_2 hT_2 hk_2 hS_2 => ?_)
  have p_2 : H = H_2 ∧ (r_2 = 0 ∨ r_2 = 1) ∧ ((r_2.toInt = 1 ∧ 0 ≤ x_1.toInt ∧ x_1.toInt ≤ 1) ∨ (r_2.toInt = 0 ∧ (x_1.toInt < 0 ∨ 1 < x_1.toInt))) := p_2
  obtain ⟨rfl, p_2_0, p_2_1⟩ := p_2
  have z_2 := b_iv p_2_0
  exact th_zret E hr hlk hs p_2_0 hT_2 hS_2 ⟨rfl, p_2_0, (by omega)⟩ dX12_isEnd_7
set_option maxHeartbeats 4000000 in
set_option maxRecDepth 100000 in
/-- the reference: open -/
theorem y_open_v3 (l : Launch) (D : va_G) (cI cS : ClassId) (τ : Nat → Option Nat) (ρ : Nat → Nat → Nat) (hW : WF τ ρ) (H : Heap) (hT : TH D cI cS τ ρ H) (a0 : Nat) (x0 : Int32) (x1 : Int32) (ha0 : τ a0 = some 12) (N : Int) (hN0 : 0 ≤ N) (hN1 : N ≤ 600) (hI : IM D ρ N H a0) (hp0 : x0.toInt < 0 ∨ 1 < x0.toInt) : MI l D cI cS τ ρ yX12_open cX12_open 3 (some .int) 2 45 H [.ref a0, .int x0, .int x1] (fun (r : Int32) (u : Heap) => (IM D ρ N u a0)) (fun q => False) := by
  refine MI.of (by decide) (Nat.le_of_ble_eq_true rfl) ?_
  intro p e s m args below meth c E hml hr hlk hs ls hl
  have hx := E.1
  have hb := E.2.1
  have hown := E.2.2.1
  have hts := E.2.2.2.1
  have hS : SS (fun q => False) H H [] := SS.rf
  have hl : lv_has ls 3 [(0, .ref a0), (1, .int x0), (2, .int x1)] := hl
  have n01 := hI.2.2.2.2.2.1
  have n23 := hI.2.2.2.2.2.2.1
  refine lv_iload_n hx hb dX12_open_0 rfl (lv_at hl 1 rfl) ?_
  refine th_Si (As := [.int x0]) (rest := []) E hml hl.1 (y_isEnd_v3 l D cI cS τ ρ hW H hT x0) lk_X12_160 yd_X12_isEnd hS (fun _ h => h.elim) ⟨by decide, by decide⟩ (Nat.le_of_ble_eq_true rfl) ⟨by decide, by decide⟩ rfl dX12_open_1 (fun r_1 H_1 locs_1 p_1 hT_1 hk_1 hS_1 => ?_)
  have p_1 : H = H_1 ∧ (r_1 = 0 ∨ r_1 = 1) ∧ ((r_1.toInt = 1 ∧ 0 ≤ x0.toInt ∧ x0.toInt ≤ 1) ∨ (r_1.toInt = 0 ∧ (x0.toInt < 0 ∨ 1 < x0.toInt))) := p_1
  obtain ⟨rfl, p_1_0, p_1_1⟩ := p_1
  have z_1 := b_iv p_1_0
  refine lv_if_eq (tgt := 17) hx hb dX12_open_4 (by decide) (fun c_2 => ?_) (fun c_2 => False.elim (by have f_2 : ¬ r_1.toInt = 0 := r_ne rfl (by decide) c_2; omega))
  refine lv_iconst (v := (-1)) hx hb dX12_open_17 (by decide) ?_
  exact th_iret E hr hlk hs hT_1 hS_1 ⟨hI.1, hI.2.1, hI.2.2.1, hI.2.2.2.1, hI.2.2.2.2.1, hI.2.2.2.2.2⟩ dX12_open_18
set_option maxHeartbeats 4000000 in
set_option maxRecDepth 100000 in
/-- the reference: in -/
theorem y_in_v7 (l : Launch) (D : va_G) (cI cS : ClassId) (τ : Nat → Option Nat) (ρ : Nat → Nat → Nat) (hW : WF τ ρ) (H : Heap) (hT : TH D cI cS τ ρ H) (x0 : Int64) : MI l D cI cS τ ρ yX12_in cX12_in 6 (some .boolean) 0 0 H [.long x0, .long 0, .long 255] (fun (r : Int32) (u : Heap) => (H = u) ∧ (r = 0 ∨ r = 1) ∧ ((r.toInt = 1 ∧ 0 ≤ x0.toInt ∧ x0.toInt ≤ 255) ∨ (r.toInt = 0 ∧ (x0.toInt < 0 ∨ 255 < x0.toInt)))) (fun q => False) := by
  refine MI.of (by decide) (Nat.le_of_ble_eq_true rfl) ?_
  intro p e s m args below meth c E hml hr hlk hs ls hl
  have hx := E.1
  have hb := E.2.1
  have hown := E.2.2.1
  have hts := E.2.2.2.1
  have hS : SS (fun q => False) H H [] := SS.rf
  have hl : lv_has ls 6 [(0, .long x0), (2, .long 0), (4, .long 255)] := hl
  refine lv_lload_n hx hb dX12_in_0 rfl (lv_at hl 0 rfl) ?_
  refine lv_lload_n hx hb dX12_in_1 rfl (lv_at hl 1 rfl) ?_
  refine W.lcmp hx hb dX12_in_2 ?_
  refine lv_topi (fun x_1 ex_1 => ?_)
  have q_1 := l_cmp (a := x0) (b := (0 : Int64)) (m := x0.toInt) (n := 0) rfl (by decide) ex_1
  refine lv_if_lt (tgt := 17) hx hb dX12_in_3 (by decide) (fun c_2 => ?_) (fun c_2 => ?_)
  · have f_2 : x_1.toInt < 0 := r_lt rfl (by decide) c_2
    refine lv_iconst (v := 0) hx hb dX12_in_17 (by decide) ?_
    exact th_zret E hr hlk hs (Or.inl rfl) hT hS ⟨rfl, (Or.inl rfl), (by have : (0 : Int32).toInt = 0 := (by decide); omega)⟩ dX12_in_18
  · have f_2 : 0 ≤ x_1.toInt := r_nlt rfl (by decide) c_2
    refine lv_lload_n hx hb dX12_in_6 rfl (lv_at hl 0 rfl) ?_
    refine lv_lload hx hb dX12_in_7 (lv_at hl 2 rfl) ?_
    refine W.lcmp hx hb dX12_in_9 ?_
    refine lv_topi (fun x_3 ex_3 => ?_)
    have q_3 := l_cmp (a := x0) (b := (255 : Int64)) (m := x0.toInt) (n := 255) rfl (by decide) ex_3
    refine lv_if_gt (tgt := 17) hx hb dX12_in_10 (by decide) (fun c_4 => ?_) (fun c_4 => ?_)
    · have f_4 : 0 < x_3.toInt := r_lt (by decide) rfl c_4
      refine lv_iconst (v := 0) hx hb dX12_in_17 (by decide) ?_
      exact th_zret E hr hlk hs (Or.inl rfl) hT hS ⟨rfl, (Or.inl rfl), (by have : (0 : Int32).toInt = 0 := (by decide); omega)⟩ dX12_in_18
    · have f_4 : x_3.toInt ≤ 0 := r_nlt (by decide) rfl c_4
      refine lv_iconst (v := 1) hx hb dX12_in_13 (by decide) ?_
      refine lv_goto (tgt := 18) hx hb dX12_in_14 (by decide) ?_
      exact th_zret E hr hlk hs (Or.inr rfl) hT hS ⟨rfl, (Or.inr rfl), (by have : (1 : Int32).toInt = 1 := (by decide); omega)⟩ dX12_in_18
set_option maxHeartbeats 4000000 in
set_option maxRecDepth 100000 in
/-- the reference: isIn -/
theorem y_isIn_v3 (l : Launch) (D : va_G) (cI cS : ClassId) (τ : Nat → Option Nat) (ρ : Nat → Nat → Nat) (hW : WF τ ρ) (H : Heap) (hT : TH D cI cS τ ρ H) (a0 : Nat) (ha0 : τ a0 = some 12) : MI l D cI cS τ ρ yX12_isIn cX12_isIn 4 (some .boolean) 1 22 H [.ref a0, .int 0, .int 2, .int 3] (fun (r : Int32) (u : Heap) => (H = u) ∧ (r = 0 ∨ r = 1) ∧ ((r.toInt = 1 ∧ ((ai H (ρ a0 0) 0).toInt = 2 ∨ (ai H (ρ a0 0) 0).toInt = 3)) ∨ (r.toInt = 0 ∧ ¬ (ai H (ρ a0 0) 0).toInt = 2 ∧ ¬ (ai H (ρ a0 0) 0).toInt = 3))) (fun q => False) := by
  refine MI.of (by decide) (Nat.le_of_ble_eq_true rfl) ?_
  intro p e s m args below meth c E hml hr hlk hs ls hl
  have hx := E.1
  have hb := E.2.1
  have hown := E.2.2.1
  have hts := E.2.2.2.1
  have hS : SS (fun q => False) H H [] := SS.rf
  have hl : lv_has ls 4 [(0, .ref a0), (1, .int 0), (2, .int 2), (3, .int 3)] := hl
  refine lv_aload_n hx hb dX12_isIn_0 rfl (lv_at hl 0 rfl) ?_
  refine lv_iload_n hx hb dX12_isIn_1 rfl (lv_at hl 1 rfl) ?_
  refine lv_iconst (v := 0) hx hb dX12_isIn_2 (by decide) ?_
  refine th_Vi (As := [.int 0, .int 0]) (rest := []) E hml hl.1 (y_get_v21 l D cI cS τ ρ hW H hT a0 ha0) lk_X12_99 yd_X12_get hT ha0 rfl (by decide) hS (fun _ h => h.elim) ⟨by decide, by decide⟩ (Nat.le_of_ble_eq_true rfl) ⟨by decide, by decide⟩ rfl dX12_isIn_3 (fun r_1 H_1 locs_1 p_1 hT_1 hk_1 hS_1 => ?_)
  have p_1 : H = H_1 ∧ (ai H (ρ a0 0) 0 = r_1) := p_1
  obtain ⟨rfl, p_1_0⟩ := p_1
  have c_r_1 := congrArg Int32.toInt p_1_0
  refine lv_iload_n hx hb dX12_isIn_6 rfl (lv_at hl 2 rfl) ?_
  refine lv_icmp_eq (tgt := 20) hx hb dX12_isIn_7 (by decide) (fun c_2 => ?_) (fun c_2 => ?_)
  · have f_2 : r_1.toInt = 2 := r_eq rfl (by decide) c_2
    refine lv_iconst (v := 1) hx hb dX12_isIn_20 (by decide) ?_
    refine lv_goto (tgt := 25) hx hb dX12_isIn_21 (by decide) ?_
    exact th_zret E hr hlk hs (Or.inr rfl) hT_1 hS_1 ⟨rfl, (Or.inr rfl), (by have : (1 : Int32).toInt = 1 := (by decide); have : (ai H (ρ a0 0) 0).toInt = (r_1 : Int32).toInt := congrArg Int32.toInt p_1_0; omega)⟩ dX12_isIn_25
  · have f_2 : ¬ r_1.toInt = 2 := r_ne rfl (by decide) c_2
    refine lv_aload_n hx hb dX12_isIn_10 rfl (lv_at hl 0 rfl) ?_
    refine lv_iload_n hx hb dX12_isIn_11 rfl (lv_at hl 1 rfl) ?_
    refine lv_iconst (v := 0) hx hb dX12_isIn_12 (by decide) ?_
    refine th_Vi (As := [.int 0, .int 0]) (rest := []) E hml hl.1 (y_get_v21 l D cI cS τ ρ hW H hT_1 a0 ha0) lk_X12_99 yd_X12_get hT_1 ha0 rfl (by decide) hS_1 (fun _ h => h.elim) ⟨by decide, by decide⟩ (Nat.le_of_ble_eq_true rfl) ⟨by decide, by decide⟩ rfl dX12_isIn_13 (fun r_3 H_3 locs_3 p_3 hT_3 hk_3 hS_3 => ?_)
    have p_3 : H = H_3 ∧ (ai H (ρ a0 0) 0 = r_3) := p_3
    obtain ⟨rfl, p_3_0⟩ := p_3
    have s_3 : r_3 = r_1 := p_3_0.symm.trans p_1_0
    refine th_topi s_3 ?_
    refine lv_iload_n hx hb dX12_isIn_16 rfl (lv_at hl 3 rfl) ?_
    refine lv_icmp_ne (tgt := 24) hx hb dX12_isIn_17 (by decide) (fun c_4 => ?_) (fun c_4 => ?_)
    · have f_4 : ¬ r_1.toInt = 3 := r_ne rfl (by decide) c_4
      refine lv_iconst (v := 0) hx hb dX12_isIn_24 (by decide) ?_
      exact th_zret E hr hlk hs (Or.inl rfl) hT_3 hS_3 ⟨rfl, (Or.inl rfl), (by have : (0 : Int32).toInt = 0 := (by decide); have : (ai H (ρ a0 0) 0).toInt = (r_1 : Int32).toInt := congrArg Int32.toInt p_1_0; omega)⟩ dX12_isIn_25
    · have f_4 : r_1.toInt = 3 := r_eq rfl (by decide) c_4
      refine lv_iconst (v := 1) hx hb dX12_isIn_20 (by decide) ?_
      refine lv_goto (tgt := 25) hx hb dX12_isIn_21 (by decide) ?_
      exact th_zret E hr hlk hs (Or.inr rfl) hT_3 hS_3 ⟨rfl, (Or.inr rfl), (by have : (1 : Int32).toInt = 1 := (by decide); have : (ai H (ρ a0 0) 0).toInt = (r_1 : Int32).toInt := congrArg Int32.toInt p_1_0; omega)⟩ dX12_isIn_25
set_option maxHeartbeats 4000000 in
set_option maxRecDepth 100000 in
/-- the reference: maySay -/
theorem y_maySay (l : Launch) (D : va_G) (cI cS : ClassId) (τ : Nat → Option Nat) (ρ : Nat → Nat → Nat) (hW : WF τ ρ) (H : Heap) (hT : TH D cI cS τ ρ H) (a0 : Nat) (ha0 : τ a0 = some 12) : MI l D cI cS τ ρ yX12_maySay cX12_maySay 2 (some .boolean) 2 45 H [.ref a0, .int 0] (fun (r : Int32) (u : Heap) => (H = u) ∧ (r = 0 ∨ r = 1)) (fun q => False) := by
  refine MI.of (by decide) (Nat.le_of_ble_eq_true rfl) ?_
  intro p e s m args below meth c E hml hr hlk hs ls hl
  have hx := E.1
  have hb := E.2.1
  have hown := E.2.2.1
  have hts := E.2.2.2.1
  have hS : SS (fun q => False) H H [] := SS.rf
  have hl : lv_has ls 2 [(0, .ref a0), (1, .int 0)] := hl
  have J_21 : ∀ (lc_c21 : List Loc) (ls : Array Slot), SS (fun q => False) H H lc_c21 → lv_has ls 2 [(0, .ref a0), (1, .int 0)] → W p l e (rmO 2 45) s m args below meth c H lc_c21 0 0 (MQ below (va_Qi (fun (r : Int32) (u : Heap) => (H = u) ∧ (r = 0 ∨ r = 1)) (Bt D cI cS τ ρ H) (fun q => False)) args s 0 0 (fun q => False)) (F0 m 21 ls []) := by
    intro lc_c21 ls hS_c21 hl
    refine lv_aload_n hx hb dX12_maySay_21 rfl (lv_at hl 0 rfl) ?_
    refine lv_iload_n hx hb dX12_maySay_22 rfl (lv_at hl 1 rfl) ?_
    refine lv_bipush (v := 13) hx hb dX12_maySay_23 (by decide) ?_
    refine th_Vi (As := [.int 0, .int 13]) (rest := []) E hml hl.1 (y_get_v26 l D cI cS τ ρ hW H hT a0 ha0) lk_X12_99 yd_X12_get hT ha0 rfl (by decide) hS_c21 (fun _ h => h.elim) ⟨by decide, by decide⟩ (Nat.le_of_ble_eq_true rfl) ⟨by decide, by decide⟩ rfl dX12_maySay_25 (fun r_1 H_1 locs_1 p_1 hT_1 hk_1 hS_1 => ?_)
    have p_1 : H = H_1 ∧ (ai H (ρ a0 0) 13 = r_1) := p_1
    obtain ⟨rfl, p_1_0⟩ := p_1
    have c_r_1 := congrArg Int32.toInt p_1_0
    refine lv_if_ne (tgt := 35) hx hb dX12_maySay_28 (by decide) (fun c_2 => ?_) (fun c_2 => ?_)
    · have f_2 : ¬ r_1.toInt = 0 := r_ne rfl (by decide) c_2
      have nz_r_1 : ¬ r_1 = 0 := c_2
      refine lv_iconst (v := 0) hx hb dX12_maySay_35 (by decide) ?_
      exact th_zret E hr hlk hs (Or.inl rfl) hT_1 hS_1 ⟨rfl, (Or.inl rfl)⟩ dX12_maySay_36
    · have f_2 : r_1.toInt = 0 := r_eq rfl (by decide) c_2
      refine lv_iconst (v := 1) hx hb dX12_maySay_31 (by decide) ?_
      refine lv_goto (tgt := 36) hx hb dX12_maySay_32 (by decide) ?_
      exact th_zret E hr hlk hs (Or.inr rfl) hT_1 hS_1 ⟨rfl, (Or.inr rfl)⟩ dX12_maySay_36
  refine lv_aload_n hx hb dX12_maySay_0 rfl (lv_at hl 0 rfl) ?_
  refine lv_iload_n hx hb dX12_maySay_1 rfl (lv_at hl 1 rfl) ?_
  refine lv_iconst (v := 2) hx hb dX12_maySay_2 (by decide) ?_
  refine lv_iconst (v := 3) hx hb dX12_maySay_3 (by decide) ?_
  refine th_Vi (As := [.int 0, .int 2, .int 3]) (rest := []) E hml hl.1 (y_isIn_v3 l D cI cS τ ρ hW H hT a0 ha0) lk_X12_106 yd_X12_isIn hT ha0 rfl (by decide) hS (fun _ h => h.elim) ⟨by decide, by decide⟩ (Nat.le_of_ble_eq_true rfl) ⟨by decide, by decide⟩ rfl dX12_maySay_4 (fun r_3 H_3 locs_3 p_3 hT_3 hk_3 hS_3 => ?_)
  have p_3 : H = H_3 ∧ (r_3 = 0 ∨ r_3 = 1) ∧ ((r_3.toInt = 1 ∧ ((ai H (ρ a0 0) 0).toInt = 2 ∨ (ai H (ρ a0 0) 0).toInt = 3)) ∨ (r_3.toInt = 0 ∧ ¬ (ai H (ρ a0 0) 0).toInt = 2 ∧ ¬ (ai H (ρ a0 0) 0).toInt = 3)) := p_3
  obtain ⟨rfl, p_3_0, p_3_1⟩ := p_3
  have z_3 := b_iv p_3_0
  refine lv_if_ne (tgt := 21) hx hb dX12_maySay_7 (by decide) (fun c_4 => ?_) (fun c_4 => ?_)
  · have f_4 : ¬ r_3.toInt = 0 := r_ne rfl (by decide) c_4
    have nz_r_3 : ¬ r_3 = 0 := c_4
    exact J_21 locs_3 _ hS_3 hl
  · have f_4 : r_3.toInt = 0 := r_eq rfl (by decide) c_4
    refine lv_aload_n hx hb dX12_maySay_10 rfl (lv_at hl 0 rfl) ?_
    refine lv_iload_n hx hb dX12_maySay_11 rfl (lv_at hl 1 rfl) ?_
    refine lv_iconst (v := 4) hx hb dX12_maySay_12 (by decide) ?_
    refine lv_bipush (v := 7) hx hb dX12_maySay_13 (by decide) ?_
    refine th_Vi (As := [.int 0, .int 4, .int 7]) (rest := []) E hml hl.1 (y_isIn l D cI cS τ ρ hW H hT_3 a0 ha0) lk_X12_106 yd_X12_isIn hT_3 ha0 rfl (by decide) hS_3 (fun _ h => h.elim) ⟨by decide, by decide⟩ (Nat.le_of_ble_eq_true rfl) ⟨by decide, by decide⟩ rfl dX12_maySay_15 (fun r_5 H_5 locs_5 p_5 hT_5 hk_5 hS_5 => ?_)
    have p_5 : H = H_5 ∧ (r_5 = 0 ∨ r_5 = 1) ∧ ((r_5.toInt = 1 ∧ ((ai H (ρ a0 0) 0).toInt = 4 ∨ (ai H (ρ a0 0) 0).toInt = 7)) ∨ (r_5.toInt = 0 ∧ ¬ (ai H (ρ a0 0) 0).toInt = 4 ∧ ¬ (ai H (ρ a0 0) 0).toInt = 7)) := p_5
    obtain ⟨rfl, p_5_0, p_5_1⟩ := p_5
    have z_5 := b_iv p_5_0
    refine lv_if_eq (tgt := 35) hx hb dX12_maySay_18 (by decide) (fun c_6 => ?_) (fun c_6 => ?_)
    · have f_6 : r_5.toInt = 0 := r_eq rfl (by decide) c_6
      refine lv_iconst (v := 0) hx hb dX12_maySay_35 (by decide) ?_
      exact th_zret E hr hlk hs (Or.inl rfl) hT_5 hS_5 ⟨rfl, (Or.inl rfl)⟩ dX12_maySay_36
    · have f_6 : ¬ r_5.toInt = 0 := r_ne rfl (by decide) c_6
      have nz_r_5 : ¬ r_5 = 0 := c_6
      exact J_21 locs_5 _ hS_5 hl
set_option maxHeartbeats 4000000 in
set_option maxRecDepth 100000 in
/-- the reference: set -/
theorem y_set_v81 (l : Launch) (D : va_G) (cI cS : ClassId) (τ : Nat → Option Nat) (ρ : Nat → Nat → Nat) (hW : WF τ ρ) (H : Heap) (hT : TH D cI cS τ ρ H) (a0 : Nat) (x2 : Int32) (ha0 : τ a0 = some 12) : MV l D cI cS τ ρ yX12_set cX12_set 4 none 0 0 H [.ref a0, .int 0, .int 4, .int x2] (fun (u : Heap) => (AU 985 H u (ρ a0 0) 4 x2)) (fun q => q = ρ a0 0) := by
  refine MV.of (by decide) (Nat.le_of_ble_eq_true rfl) ?_
  intro p e s m args below meth c E hml hr hlk hs ls hl
  have hx := E.1
  have hb := E.2.1
  have hown := E.2.2.1
  have hts := E.2.2.2.1
  have hS : SS (fun q => q = ρ a0 0) H H [] := SS.rf
  have hl : lv_has ls 4 [(0, .ref a0), (1, .int 0), (2, .int 4), (3, .int x2)] := hl
  refine lv_aload_n hx hb dX12_set_0 rfl (lv_at hl 0 rfl) ?_
  refine gf_X12_7 E hT hW ha0 dX12_set_1 (fun h_1 => ?_)
  refine lv_sipush (v := 288) hx hb dX12_set_4 (by decide) ?_
  refine lv_iload_n hx hb dX12_set_7 rfl (lv_at hl 1 rfl) ?_
  refine lv_imul hx hb dX12_set_8 ?_
  refine th_topi (y := 0) (by decide) ?_
  refine lv_iload_n hx hb dX12_set_9 rfl (lv_at hl 2 rfl) ?_
  refine lv_iadd hx hb dX12_set_10 ?_
  refine th_topi (y := 4) (by decide) ?_
  refine lv_iload_n hx hb dX12_set_11 rfl (lv_at hl 3 rfl) ?_
  refine th_iast E hT hS h_1 rfl (by decide) (vp_in_iff.mpr ⟨by decide, by decide⟩) dX12_set_12 (fun H_2 locs_2 hT_2 hU_2 hS_2 => ?_)
  have hU_2 : AU 985 H H_2 (ρ a0 0) 4 x2 := hU_2
  exact th_vret E hr hlk hs hT_2 hS_2 hU_2 dX12_set_13
set_option maxHeartbeats 4000000 in
set_option maxRecDepth 100000 in
/-- the reference: say -/
theorem y_say (l : Launch) (D : va_G) (cI cS : ClassId) (τ : Nat → Option Nat) (ρ : Nat → Nat → Nat) (hW : WF τ ρ) (H : Heap) (hT : TH D cI cS τ ρ H) (a0 : Nat) (x1 : Int32) (ha0 : τ a0 = some 12) (N : Int) (hN0 : 0 ≤ N) (hN1 : N ≤ 600) (hI : IM D ρ N H a0) (hp0 : (ai H (ρ a0 0) 4).toInt + 1 ≤ N) : MI l D cI cS τ ρ yX12_say cX12_say 3 (some .int) 9 212 H [.ref a0, .int 0, .int x1] (fun (r : Int32) (u : Heap) => (IM D ρ N u a0)) (fun q => q = ρ a0 0 ∨ q = ρ a0 2) := by
  refine MI.of (by decide) (Nat.le_of_ble_eq_true rfl) ?_
  intro p e s m args below meth c E hml hr hlk hs ls hl
  have hx := E.1
  have hb := E.2.1
  have hown := E.2.2.1
  have hts := E.2.2.2.1
  have hS : SS (fun q => q = ρ a0 0 ∨ q = ρ a0 2) H H [] := SS.rf
  have hl : lv_has ls 3 [(0, .ref a0), (1, .int 0), (2, .int x1)] := hl
  have n01 := hI.2.2.2.2.2.1
  have n23 := hI.2.2.2.2.2.2.1
  refine lv_iload_n hx hb dX12_say_0 rfl (lv_at hl 1 rfl) ?_
  refine th_Si (As := [.int 0]) (rest := []) E hml hl.1 (y_isEnd l D cI cS τ ρ hW H hT) lk_X12_160 yd_X12_isEnd hS (fun _ h => h.elim) ⟨by decide, by decide⟩ (Nat.le_of_ble_eq_true rfl) ⟨by decide, by decide⟩ rfl dX12_say_1 (fun r_1 H_1 locs_1 p_1 hT_1 hk_1 hS_1 => ?_)
  have p_1 : H = H_1 ∧ (r_1 = 0 ∨ r_1 = 1) ∧ ((r_1.toInt = 1 ∧ 0 ≤ 0 ∧ 0 ≤ 1) ∨ (r_1.toInt = 0 ∧ (0 < 0 ∨ 1 < 0))) := p_1
  obtain ⟨rfl, p_1_0, p_1_1⟩ := p_1
  have z_1 := b_iv p_1_0
  refine lv_if_eq (tgt := 19) hx hb dX12_say_4 (by decide) (fun c_2 => False.elim (by have f_2 : r_1.toInt = 0 := r_eq rfl (by decide) c_2; omega)) (fun c_2 => ?_)
  refine lv_iload_n hx hb dX12_say_7 rfl (lv_at hl 2 rfl) ?_
  obtain ⟨x_3, ex_3⟩ : ∃ y : Int64, x1.toInt64 = y := ⟨_, rfl⟩
  refine lv_i2l (v := x_3) hx hb dX12_say_8 ex_3 ?_
  have q_3 : x_3.toInt = x1.toInt := by rw [← ex_3]; exact Int32.toInt_toInt64 _
  refine lv_lconst (v := 0) hx hb dX12_say_9 (by decide) ?_
  refine lv_ldc2 (v := 255) hx hb hown (hts _ qw_1209) dX12_say_10 ?_
  refine th_Si (As := [.long x_3, .long 0, .long 255]) (rest := []) E hml hl.1 (y_in_v7 l D cI cS τ ρ hW H hT_1 x_3) lk_X12_54 yd_X12_in hS_1 (fun _ h => h.elim) ⟨by decide, by decide⟩ (Nat.le_of_ble_eq_true rfl) ⟨by decide, by decide⟩ rfl dX12_say_13 (fun r_4 H_4 locs_4 p_4 hT_4 hk_4 hS_4 => ?_)
  have p_4 : H = H_4 ∧ (r_4 = 0 ∨ r_4 = 1) ∧ ((r_4.toInt = 1 ∧ 0 ≤ x_3.toInt ∧ x_3.toInt ≤ 255) ∨ (r_4.toInt = 0 ∧ (x_3.toInt < 0 ∨ 255 < x_3.toInt))) := p_4
  obtain ⟨rfl, p_4_0, p_4_1⟩ := p_4
  have z_4 := b_iv p_4_0
  refine lv_if_ne (tgt := 21) hx hb dX12_say_16 (by decide) (fun c_5 => ?_) (fun c_5 => ?_)
  · have f_5 : ¬ r_4.toInt = 0 := r_ne rfl (by decide) c_5
    have nz_r_4 : ¬ r_4 = 0 := c_5
    refine lv_aload_n hx hb dX12_say_21 rfl (lv_at hl 0 rfl) ?_
    refine lv_iload_n hx hb dX12_say_22 rfl (lv_at hl 1 rfl) ?_
    refine th_Vi (As := [.int 0]) (rest := []) E hml hl.1 (y_maySay l D cI cS τ ρ hW H hT_4 a0 ha0) lk_X12_174 yd_X12_maySay hT_4 ha0 rfl (by decide) hS_4 (fun _ h => h.elim) ⟨by decide, by decide⟩ (Nat.le_of_ble_eq_true rfl) ⟨by decide, by decide⟩ rfl dX12_say_23 (fun r_6 H_6 locs_6 p_6 hT_6 hk_6 hS_6 => ?_)
    have p_6 : H = H_6 ∧ (r_6 = 0 ∨ r_6 = 1) := p_6
    obtain ⟨rfl, p_6_0⟩ := p_6
    have z_6 := b_iv p_6_0
    refine lv_if_ne (tgt := 32) hx hb dX12_say_26 (by decide) (fun c_7 => ?_) (fun c_7 => ?_)
    · have f_7 : ¬ r_6.toInt = 0 := r_ne rfl (by decide) c_7
      have nz_r_6 : ¬ r_6 = 0 := c_7
      refine lv_aload_n hx hb dX12_say_32 rfl (lv_at hl 0 rfl) ?_
      refine lv_iload_n hx hb dX12_say_33 rfl (lv_at hl 1 rfl) ?_
      refine lv_aload_n hx hb dX12_say_34 rfl (lv_at hl 0 rfl) ?_
      refine lv_iload_n hx hb dX12_say_35 rfl (lv_at hl 1 rfl) ?_
      refine lv_iconst (v := 1) hx hb dX12_say_36 (by decide) ?_
      refine th_Vi (As := [.int 0, .int 1]) (rest := [.int 0, .ref a0]) E hml hl.1 (y_get_v7 l D cI cS τ ρ hW H hT_6 a0 ha0) lk_X12_99 yd_X12_get hT_6 ha0 rfl (by decide) hS_6 (fun _ h => h.elim) ⟨by decide, by decide⟩ (Nat.le_of_ble_eq_true rfl) ⟨by decide, by decide⟩ rfl dX12_say_37 (fun r_8 H_8 locs_8 p_8 hT_8 hk_8 hS_8 => ?_)
      have p_8 : H = H_8 ∧ (ai H (ρ a0 0) 1 = r_8) := p_8
      obtain ⟨rfl, p_8_0⟩ := p_8
      have b_r_8 : 0 ≤ r_8.toInt ∧ r_8.toInt ≤ N + 2 := by rw [← p_8_0]; exact hI.1 1 (by decide)
      have c_r_8 := congrArg Int32.toInt p_8_0
      refine th_Vi (As := [.int 0, .int r_8]) (rest := []) E hml hl.1 (y_saidFrom l D cI cS τ ρ hW H hT_8 a0 r_8 ha0 N hN0 hN1 ⟨hI.1, hI.2.1, hI.2.2.1, hI.2.2.2.1, hI.2.2.2.2.1, hI.2.2.2.2.2⟩ (by omega)) lk_X12_109 yd_X12_saidFrom hT_8 ha0 rfl (by decide) hS_8 (fun _ h => h.elim) ⟨by decide, by decide⟩ (Nat.le_of_ble_eq_true rfl) ⟨by decide, by decide⟩ rfl dX12_say_40 (fun r_9 H_9 locs_9 p_9 hT_9 hk_9 hS_9 => ?_)
      have p_9 : H = H_9 ∧ (0 ≤ r_9.toInt ∧ (r_9.toInt = 0 ∨ (1 ≤ r_8.toInt ∧ r_9.toInt = (ai H (ρ a0 0) 4).toInt + 1 - r_8.toInt) ∨ (r_8.toInt < 1 ∧ r_9.toInt = (ai H (ρ a0 0) 4).toInt)) ∧ (ai H (ρ a0 0) 4).toInt ≤ N) := p_9
      obtain ⟨rfl, p_9_0⟩ := p_9
      refine lv_bipush (v := 32) hx hb dX12_say_43 (by decide) ?_
      refine lv_icmp_ne (tgt := 51) hx hb dX12_say_45 (by decide) (fun c_10 => ?_) (fun c_10 => ?_)
      · have f_10 : ¬ r_9.toInt = 32 := r_ne rfl (by decide) c_10
        refine lv_aload_n hx hb dX12_say_51 rfl (lv_at hl 0 rfl) ?_
        refine lv_iload_n hx hb dX12_say_52 rfl (lv_at hl 1 rfl) ?_
        refine lv_iconst (v := 4) hx hb dX12_say_53 (by decide) ?_
        refine lv_aload_n hx hb dX12_say_54 rfl (lv_at hl 0 rfl) ?_
        refine lv_iload_n hx hb dX12_say_55 rfl (lv_at hl 1 rfl) ?_
        refine lv_iconst (v := 4) hx hb dX12_say_56 (by decide) ?_
        refine th_Vi (As := [.int 0, .int 4]) (rest := [.int 4, .int 0, .ref a0]) E hml hl.1 (y_get_v24 l D cI cS τ ρ hW H hT_9 a0 ha0) lk_X12_99 yd_X12_get hT_9 ha0 rfl (by decide) hS_9 (fun _ h => h.elim) ⟨by decide, by decide⟩ (Nat.le_of_ble_eq_true rfl) ⟨by decide, by decide⟩ rfl dX12_say_57 (fun r_11 H_11 locs_11 p_11 hT_11 hk_11 hS_11 => ?_)
        have p_11 : H = H_11 ∧ (ai H (ρ a0 0) 4 = r_11) := p_11
        obtain ⟨rfl, p_11_0⟩ := p_11
        have b_r_11 : 0 ≤ r_11.toInt ∧ r_11.toInt ≤ N := by rw [← p_11_0]; exact hI.1 4 (by decide)
        have c_r_11 := congrArg Int32.toInt p_11_0
        refine lv_iconst (v := 1) hx hb dX12_say_60 (by decide) ?_
        refine lv_iadd hx hb dX12_say_61 ?_
        refine lv_topi (fun x_12 ex_12 => ?_)
        have q_12 : x_12.toInt = r_11.toInt + 1 := i_pl rfl (by decide) ex_12 (by omega) (by omega)
        refine th_Vv (As := [.int 0, .int 4, .int x_12]) (rest := []) E hml hl.1 (y_set_v81 l D cI cS τ ρ hW H hT_11 a0 x_12 ha0) lk_X12_95 yd_X12_set hT_11 ha0 rfl (by decide) hS_11 (fun q h => (Or.inl h)) ⟨by decide, by decide⟩ (Nat.le_of_ble_eq_true rfl) ⟨by decide, by decide⟩ rfl dX12_say_62 (fun H_13 locs_13 p_13 hT_13 hk_13 hS_13 => ?_)
        have p_13 : (AU 985 H H_13 (ρ a0 0) 4 x_12) := p_13
        have hW_13 : PW N H_13 (ρ a0 0) := PW.put hI.1 p_13 (by show (0 : Int) ≤ x_12.toInt; omega) (by show x_12.toInt ≤ (N : Int); omega)
        refine lv_aload_n hx hb dX12_say_65 rfl (lv_at hl 0 rfl) ?_
        refine lv_iload_n hx hb dX12_say_66 rfl (lv_at hl 1 rfl) ?_
        refine lv_bipush (v := 32) hx hb dX12_say_67 (by decide) ?_
        refine lv_aload_n hx hb dX12_say_69 rfl (lv_at hl 0 rfl) ?_
        refine lv_iload_n hx hb dX12_say_70 rfl (lv_at hl 1 rfl) ?_
        refine lv_iconst (v := 4) hx hb dX12_say_71 (by decide) ?_
        refine th_Vi (As := [.int 0, .int 4]) (rest := [.int 32, .int 0, .ref a0]) E hml hl.1 (y_get_v24 l D cI cS τ ρ hW H_13 hT_13 a0 ha0) lk_X12_99 yd_X12_get hT_13 ha0 rfl (by decide) hS_13 (fun _ h => h.elim) ⟨by decide, by decide⟩ (Nat.le_of_ble_eq_true rfl) ⟨by decide, by decide⟩ rfl dX12_say_72 (fun r_14 H_14 locs_14 p_14 hT_14 hk_14 hS_14 => ?_)
        have p_14 : H_13 = H_14 ∧ (ai H_13 (ρ a0 0) 4 = r_14) := p_14
        obtain ⟨rfl, p_14_0⟩ := p_14
        have s_14 : r_14 = x_12 := p_14_0.symm.trans (AU.s p_13 (by decide))
        refine th_topi s_14 ?_
        refine lv_bipush (v := 64) hx hb dX12_say_75 (by decide) ?_
        refine lv_irem hx hb dX12_say_77 (by decide) ?_
        refine lv_topi (fun x_15 ex_15 => ?_)
        have q_15 := i_rem (k := 64) (x := x_12) (by decide) (by decide) ex_15
        have p_15 : 0 ≤ x_15.toInt := q_15.2.2 (by omega)
        refine lv_iadd hx hb dX12_say_78 ?_
        refine lv_topi (fun x_16 ex_16 => ?_)
        have q_16 : x_16.toInt = 32 + x_15.toInt := i_pl (by decide) rfl ex_16 (by omega) (by omega)
        refine lv_iload_n hx hb dX12_say_79 rfl (lv_at hl 2 rfl) ?_
        refine th_Vv (As := [.int 0, .int x_16, .int x1]) (rest := []) E hml hl.1 (y_set_v16 l D cI cS τ ρ hW H_13 hT_14 a0 x_16 x1 ha0 (by omega)) lk_X12_95 yd_X12_set hT_14 ha0 rfl (by decide) hS_14 (fun q h => (Or.inl h)) ⟨by decide, by decide⟩ (Nat.le_of_ble_eq_true rfl) ⟨by decide, by decide⟩ rfl dX12_say_80 (fun H_17 locs_17 p_17 hT_17 hk_17 hS_17 => ?_)
        have p_17 : (AU 985 H_13 H_17 (ρ a0 0) (0 + x_16.toInt).toNat x1) := p_17
        have hW_17 : PW N H_17 (ρ a0 0) := PW.free hW_13 p_17 (by omega)
        refine lv_aload_n hx hb dX12_say_83 rfl (lv_at hl 0 rfl) ?_
        refine lv_iload_n hx hb dX12_say_84 rfl (lv_at hl 1 rfl) ?_
        refine th_Vv (As := [.int 0]) (rest := []) E hml hl.1 (y_goesOn l D cI cS τ ρ hW H_17 hT_17 a0 ha0 N hN0 hN1 ⟨hW_17, (QS.same (Eq.trans (AU.o p_17 (by decide) (by omega)) (AU.o p_13 (by decide) (by decide))) (Eq.trans (AU.o p_17 (by decide) (by omega)) (AU.o p_13 (by decide) (by decide))) hI.2.1), (QS.same (Eq.trans (AU.o p_17 (by decide) (by omega)) (AU.o p_13 (by decide) (by decide))) (Eq.trans (AU.o p_17 (by decide) (by omega)) (AU.o p_13 (by decide) (by decide))) hI.2.2.1), (PL.q (p_17.2 _ (th_ne (hW _ 12 2 ha0 (by decide) (by decide) (by decide)) (hW _ 12 0 ha0 (by decide) (by decide) (by decide)) (by decide))) (PL.q (p_13.2 _ (th_ne (hW _ 12 2 ha0 (by decide) (by decide) (by decide)) (hW _ 12 0 ha0 (by decide) (by decide) (by decide)) (by decide))) hI.2.2.2.1)), (PL.q (p_17.2 _ (th_ne (hW _ 12 3 ha0 (by decide) (by decide) (by decide)) (hW _ 12 0 ha0 (by decide) (by decide) (by decide)) (by decide))) (PL.q (p_13.2 _ (th_ne (hW _ 12 3 ha0 (by decide) (by decide) (by decide)) (hW _ 12 0 ha0 (by decide) (by decide) (by decide)) (by decide))) hI.2.2.2.2.1)), (IF.q (p_17.2 _ (th_ne ha0 (hW _ 12 0 ha0 (by decide) (by decide) (by decide)) (by decide))) (IF.q (p_13.2 _ (th_ne ha0 (hW _ 12 0 ha0 (by decide) (by decide) (by decide)) (by decide))) hI.2.2.2.2.2))⟩) lk_X12_177 yd_X12_goesOn hT_17 ha0 rfl (by decide) hS_17 (fun q => (fun h => h.elim (fun h => (Or.inr h)) (fun h => (Or.inl h)))) ⟨by decide, by decide⟩ (Nat.le_of_ble_eq_true rfl) ⟨by decide, by decide⟩ rfl dX12_say_85 (fun H_18 locs_18 p_18 hT_18 hk_18 hS_18 => ?_)
        have p_18 : (IM D ρ N H_18 a0) ∧ ((ai H_17 (ρ a0 0) 976).toInt ≤ (ai H_18 (ρ a0 0) 976).toInt) := p_18
        obtain ⟨p_18_0, p_18_1⟩ := p_18
        have mn_18 : (ai H (ρ a0 0) 976).toInt ≤ (ai H_18 (ρ a0 0) 976).toInt := by have h := p_18_1; rw [(Eq.trans (AU.o p_17 (by decide) (by omega)) (AU.o p_13 (by decide) (by decide)))] at h; exact h
        refine lv_aload_n hx hb dX12_say_88 rfl (lv_at hl 0 rfl) ?_
        refine lv_iload_n hx hb dX12_say_89 rfl (lv_at hl 1 rfl) ?_
        refine th_Vv (As := [.int 0]) (rest := []) E hml hl.1 (y_settles l D cI cS τ ρ hW H_18 hT_18 a0 ha0 N hN0 hN1 ⟨p_18_0.1, p_18_0.2.1, p_18_0.2.2.1, p_18_0.2.2.2.1, p_18_0.2.2.2.2.1, p_18_0.2.2.2.2.2⟩) lk_X12_166 yd_X12_settles hT_18 ha0 rfl (by decide) hS_18 (fun q h => (Or.inl h)) ⟨by decide, by decide⟩ (Nat.le_of_ble_eq_true rfl) ⟨by decide, by decide⟩ rfl dX12_say_90 (fun H_19 locs_19 p_19 hT_19 hk_19 hS_19 => ?_)
        have p_19 : (IM D ρ N H_19 a0) ∧ ((ai H_18 (ρ a0 0) 976).toInt ≤ (ai H_19 (ρ a0 0) 976).toInt) := p_19
        obtain ⟨p_19_0, p_19_1⟩ := p_19
        have mn_19 : (ai H_18 (ρ a0 0) 976).toInt ≤ (ai H_19 (ρ a0 0) 976).toInt := by exact p_19_1
        refine lv_aload_n hx hb dX12_say_93 rfl (lv_at hl 0 rfl) ?_
        refine lv_iload_n hx hb dX12_say_94 rfl (lv_at hl 1 rfl) ?_
        refine lv_aload_n hx hb dX12_say_95 rfl (lv_at hl 0 rfl) ?_
        refine lv_iload_n hx hb dX12_say_96 rfl (lv_at hl 1 rfl) ?_
        refine lv_iconst (v := 1) hx hb dX12_say_97 (by decide) ?_
        refine th_Vi (As := [.int 0, .int 1]) (rest := [.int 0, .ref a0]) E hml hl.1 (y_get_v7 l D cI cS τ ρ hW H_19 hT_19 a0 ha0) lk_X12_99 yd_X12_get hT_19 ha0 rfl (by decide) hS_19 (fun _ h => h.elim) ⟨by decide, by decide⟩ (Nat.le_of_ble_eq_true rfl) ⟨by decide, by decide⟩ rfl dX12_say_98 (fun r_20 H_20 locs_20 p_20 hT_20 hk_20 hS_20 => ?_)
        have p_20 : H_19 = H_20 ∧ (ai H_19 (ρ a0 0) 1 = r_20) := p_20
        obtain ⟨rfl, p_20_0⟩ := p_20
        have b_r_20 : 0 ≤ r_20.toInt ∧ r_20.toInt ≤ N + 2 := by rw [← p_20_0]; exact p_19_0.1 1 (by decide)
        have c_r_20 := congrArg Int32.toInt p_20_0
        refine th_Vi (As := [.int 0, .int r_20]) (rest := []) E hml hl.1 (y_saidFrom l D cI cS τ ρ hW H_19 hT_20 a0 r_20 ha0 N hN0 hN1 ⟨p_19_0.1, p_19_0.2.1, p_19_0.2.2.1, p_19_0.2.2.2.1, p_19_0.2.2.2.2.1, p_19_0.2.2.2.2.2⟩ (by omega)) lk_X12_109 yd_X12_saidFrom hT_20 ha0 rfl (by decide) hS_20 (fun _ h => h.elim) ⟨by decide, by decide⟩ (Nat.le_of_ble_eq_true rfl) ⟨by decide, by decide⟩ rfl dX12_say_101 (fun r_21 H_21 locs_21 p_21 hT_21 hk_21 hS_21 => ?_)
        have p_21 : H_19 = H_21 ∧ (0 ≤ r_21.toInt ∧ (r_21.toInt = 0 ∨ (1 ≤ r_20.toInt ∧ r_21.toInt = (ai H_19 (ρ a0 0) 4).toInt + 1 - r_20.toInt) ∨ (r_20.toInt < 1 ∧ r_21.toInt = (ai H_19 (ρ a0 0) 4).toInt)) ∧ (ai H_19 (ρ a0 0) 4).toInt ≤ N) := p_21
        obtain ⟨rfl, p_21_0⟩ := p_21
        exact th_iret E hr hlk hs hT_21 hS_21 ⟨p_19_0.1, p_19_0.2.1, p_19_0.2.2.1, p_19_0.2.2.2.1, p_19_0.2.2.2.2.1, p_19_0.2.2.2.2.2⟩ dX12_say_104
      · have f_10 : r_9.toInt = 32 := r_eq rfl (by decide) c_10
        refine lv_bipush (v := (-3)) hx hb dX12_say_48 (by decide) ?_
        exact th_iret E hr hlk hs hT_9 hS_9 ⟨hI.1, hI.2.1, hI.2.2.1, hI.2.2.2.1, hI.2.2.2.2.1, hI.2.2.2.2.2⟩ dX12_say_50
    · have f_7 : r_6.toInt = 0 := r_eq rfl (by decide) c_7
      refine lv_bipush (v := (-2)) hx hb dX12_say_29 (by decide) ?_
      exact th_iret E hr hlk hs hT_6 hS_6 ⟨hI.1, hI.2.1, hI.2.2.1, hI.2.2.2.1, hI.2.2.2.2.1, hI.2.2.2.2.2⟩ dX12_say_31
  · have f_5 : r_4.toInt = 0 := r_eq rfl (by decide) c_5
    refine lv_iconst (v := (-1)) hx hb dX12_say_19 (by decide) ?_
    exact th_iret E hr hlk hs hT_4 hS_4 ⟨hI.1, hI.2.1, hI.2.2.1, hI.2.2.2.1, hI.2.2.2.2.1, hI.2.2.2.2.2⟩ dX12_say_20
