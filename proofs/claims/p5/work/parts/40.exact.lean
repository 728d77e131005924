/-! the class: write and wipe, exactly -/
set_option maxHeartbeats 4000000 in
set_option maxRecDepth 100000 in
/-- StreamEnds$Text.append: it ends, and the heap stays typed -/
theorem zx_X9_append (l : Launch) (D : va_G) (cI cS : ClassId) (τ : Nat → Option Nat) (ρ : Nat → Nat → Nat) (hW : WF τ ρ) (H : Heap) (hT : TH D cI cS τ ρ H) (a0 : Nat) (x0 : Int32) (ha0 : τ a0 = some 9) : MI l D cI cS τ ρ yX9_append cX9_append 2 (some .boolean) 0 0 H [.ref a0, .int x0] (fun (r : Int32) (u : Heap) => (r = 0 ∨ r = 1) ∧ ((r.toInt = 1 ∧ 0 ≤ (fi D 9 1 H a0).toInt ∧ (fi D 9 1 H a0).toInt < 200 ∧ (fi D 9 1 u a0).toInt = (fi D 9 1 H a0).toInt + 1) ∨ (r.toInt = 0 ∧ ((fi D 9 1 H a0).toInt < 0 ∨ 200 ≤ (fi D 9 1 H a0).toInt) ∧ (fi D 9 1 u a0).toInt = (fi D 9 1 H a0).toInt))) (AT τ [9, 300]) := by
  refine MI.of (by decide) (Nat.le_of_ble_eq_true rfl) ?_
  intro p e s m args below meth c E hml hr hlk hs ls hl
  have hx := E.1
  have hb := E.2.1
  have hown := E.2.2.1
  have hts := E.2.2.2.1
  have hS : SS (AT τ [9, 300]) H H [] := SS.rf
  have hl : lv_has ls 2 [(0, .ref a0), (1, .int x0)] := hl
  refine lv_aload_n hx hb dX9_append_0 rfl (lv_at hl 0 rfl) ?_
  refine gf_X9_15 E hT ha0 dX9_append_1 ?_
  refine lv_topi (fun x_1 ex_1 => ?_)
  have e_1 : x_1.toInt = (fi D 9 1 H a0).toInt := congrArg Int32.toInt ex_1
  refine lv_if_lt (tgt := 17) hx hb dX9_append_4 (by decide) (fun c_2 => ?_) (fun c_2 => ?_)
  · have f_2 : x_1.toInt < 0 := r_lt rfl (by decide) c_2
    refine lv_iconst (v := 0) hx hb dX9_append_17 (by decide) ?_
    exact th_zret E hr hlk hs (Or.inl rfl) hT hS ⟨(Or.inl rfl), (by have : (fi D 9 1 H a0).toInt = (x_1 : Int32).toInt := congrArg Int32.toInt ex_1.symm; have : (0 : Int32).toInt = 0 := (by decide); omega)⟩ dX9_append_18
  · have f_2 : 0 ≤ x_1.toInt := r_nlt rfl (by decide) c_2
    refine lv_aload_n hx hb dX9_append_7 rfl (lv_at hl 0 rfl) ?_
    refine gf_X9_15 E hT ha0 dX9_append_8 ?_
    refine th_topi (y := x_1) ex_1.symm ?_
    refine lv_sipush (v := 200) hx hb dX9_append_11 (by decide) ?_
    refine lv_icmp_lt (tgt := 19) hx hb dX9_append_14 (by decide) (fun c_3 => ?_) (fun c_3 => ?_)
    · have f_3 : x_1.toInt < 200 := r_lt rfl (by decide) c_3
      refine lv_aload_n hx hb dX9_append_19 rfl (lv_at hl 0 rfl) ?_
      refine gf_X9_9 E hT hW ha0 dX9_append_20 (fun h_4 => ?_)
      refine lv_aload_n hx hb dX9_append_23 rfl (lv_at hl 0 rfl) ?_
      refine gf_X9_15 E hT ha0 dX9_append_24 ?_
      refine th_topi (y := x_1) ex_1.symm ?_
      refine lv_iload_n hx hb dX9_append_27 rfl (lv_at hl 1 rfl) ?_
      refine th_iast E hT hS h_4 ⟨_, h_4, by decide⟩ (by decide) (vp_in_iff.mpr ⟨by omega, by omega⟩) dX9_append_28 (fun H_5 locs_5 hT_5 hU_5 hS_5 => ?_)
      refine lv_aload_n hx hb dX9_append_29 rfl (lv_at hl 0 rfl) ?_
      refine lv_dup hx hb dX9_append_30 rfl ?_
      refine gf_X9_15 E hT_5 ha0 dX9_append_31 ?_
      refine th_topi (y := x_1) (Eq.trans (fi_q (hU_5.2 _ (th_ne ha0 h_4 (by decide)))) ex_1.symm) ?_
      refine lv_iconst (v := 1) hx hb dX9_append_34 (by decide) ?_
      refine lv_iadd hx hb dX9_append_35 ?_
      refine lv_topi (fun x_6 ex_6 => ?_)
      have q_6 : x_6.toInt = x_1.toInt + 1 := i_pl rfl (by decide) ex_6 (by omega) (by omega)
      refine pf_X9_15 E hT_5 hS_5 ha0 ⟨_, ha0, by decide⟩ dX9_append_36 (fun H_7 locs_7 hT_7 hU_7 hS_7 => ?_)
      refine lv_iconst (v := 1) hx hb dX9_append_39 (by decide) ?_
      exact th_zret E hr hlk hs (Or.inr rfl) hT_7 hS_7 ⟨(Or.inr rfl), (by have : (fi D 9 1 H a0).toInt = (x_1 : Int32).toInt := congrArg Int32.toInt ex_1.symm; have : (fi D 9 1 H_7 a0).toInt = (x_6 : Int32).toInt := congrArg Int32.toInt (PU.i hU_7); have : (1 : Int32).toInt = 1 := (by decide); omega)⟩ dX9_append_40
    · have f_3 : 200 ≤ x_1.toInt := r_nlt rfl (by decide) c_3
      refine lv_iconst (v := 0) hx hb dX9_append_17 (by decide) ?_
      exact th_zret E hr hlk hs (Or.inl rfl) hT hS ⟨(Or.inl rfl), (by have : (fi D 9 1 H a0).toInt = (x_1 : Int32).toInt := congrArg Int32.toInt ex_1.symm; have : (0 : Int32).toInt = 0 := (by decide); omega)⟩ dX9_append_18
set_option maxHeartbeats 4000000 in
set_option maxRecDepth 100000 in
/-- StreamEnds.write: it ends, and the heap stays typed -/
theorem zx_X11_write (l : Launch) (D : va_G) (cI cS : ClassId) (τ : Nat → Option Nat) (ρ : Nat → Nat → Nat) (hW : WF τ ρ) (H : Heap) (hT : TH D cI cS τ ρ H) (a0 : Nat) (x0 : Int32) (ha0 : τ a0 = some 11) : MI l D cI cS τ ρ yX11_write cX11_write 2 (some .int) 1 21 H [.ref a0, .int x0] (fun (r : Int32) (u : Heap) => ((x0.toInt < 32 ∨ 126 < x0.toInt) ∧ r.toInt = -1 ∧ (fi D 9 1 u (ρ a0 0)).toInt = (fi D 9 1 H (ρ a0 0)).toInt) ∨ (32 ≤ x0.toInt ∧ x0.toInt ≤ 126 ∧ ((fi D 9 1 H (ρ a0 0)).toInt < 0 ∨ 200 ≤ (fi D 9 1 H (ρ a0 0)).toInt) ∧ r.toInt = -3 ∧ (fi D 9 1 u (ρ a0 0)).toInt = (fi D 9 1 H (ρ a0 0)).toInt) ∨ (32 ≤ x0.toInt ∧ x0.toInt ≤ 126 ∧ 0 ≤ (fi D 9 1 H (ρ a0 0)).toInt ∧ (fi D 9 1 H (ρ a0 0)).toInt < 200 ∧ r.toInt = (fi D 9 1 H (ρ a0 0)).toInt + 1 ∧ (fi D 9 1 u (ρ a0 0)).toInt = (fi D 9 1 H (ρ a0 0)).toInt + 1)) (AT τ [9, 300]) := by
  refine MI.of (by decide) (Nat.le_of_ble_eq_true rfl) ?_
  intro p e s m args below meth c E hml hr hlk hs ls hl
  have hx := E.1
  have hb := E.2.1
  have hown := E.2.2.1
  have hts := E.2.2.2.1
  have hS : SS (AT τ [9, 300]) H H [] := SS.rf
  have hl : lv_has ls 2 [(0, .ref a0), (1, .int x0)] := hl
  refine lv_iload_n hx hb dX11_write_0 rfl (lv_at hl 1 rfl) ?_
  refine lv_bipush (v := 32) hx hb dX11_write_1 (by decide) ?_
  refine lv_icmp_lt (tgt := 12) hx hb dX11_write_3 (by decide) (fun c_1 => ?_) (fun c_1 => ?_)
  · have f_1 : x0.toInt < 32 := r_lt rfl (by decide) c_1
    refine lv_iconst (v := (-1)) hx hb dX11_write_12 (by decide) ?_
    exact th_iret E hr hlk hs hT hS (by have : ((-1) : Int32).toInt = -1 := (by decide); omega) dX11_write_13
  · have f_1 : 32 ≤ x0.toInt := r_nlt rfl (by decide) c_1
    refine lv_iload_n hx hb dX11_write_6 rfl (lv_at hl 1 rfl) ?_
    refine lv_bipush (v := 126) hx hb dX11_write_7 (by decide) ?_
    refine lv_icmp_le (tgt := 14) hx hb dX11_write_9 (by decide) (fun c_2 => ?_) (fun c_2 => ?_)
    · have f_2 : x0.toInt ≤ 126 := r_le rfl (by decide) c_2
      refine lv_aload_n hx hb dX11_write_14 rfl (lv_at hl 0 rfl) ?_
      refine gf_X11_10 E hT hW ha0 dX11_write_15 (fun h_3 => ?_)
      refine lv_iload_n hx hb dX11_write_18 rfl (lv_at hl 1 rfl) ?_
      refine th_Vi (As := [.int x0]) (rest := []) E hml hl.1 (zx_X9_append l D cI cS τ ρ hW H hT (ρ a0 0) x0 h_3) lk_X11_47 yd_X9_append hT h_3 rfl (by decide) hS (AT.sub (by decide)) ⟨by decide, by decide⟩ (Nat.le_of_ble_eq_true rfl) ⟨by decide, by decide⟩ rfl dX11_write_19 (fun r_4 H_4 locs_4 p_4 hT_4 hk_4 hS_4 => ?_)
      have p_4 : (r_4 = 0 ∨ r_4 = 1) ∧ ((r_4.toInt = 1 ∧ 0 ≤ (fi D 9 1 H (ρ a0 0)).toInt ∧ (fi D 9 1 H (ρ a0 0)).toInt < 200 ∧ (fi D 9 1 H_4 (ρ a0 0)).toInt = (fi D 9 1 H (ρ a0 0)).toInt + 1) ∨ (r_4.toInt = 0 ∧ ((fi D 9 1 H (ρ a0 0)).toInt < 0 ∨ 200 ≤ (fi D 9 1 H (ρ a0 0)).toInt) ∧ (fi D 9 1 H_4 (ρ a0 0)).toInt = (fi D 9 1 H (ρ a0 0)).toInt)) := p_4
      obtain ⟨p_4, px_4⟩ := p_4
      have z_4 := b_iv p_4
      refine lv_if_eq (tgt := 35) hx hb dX11_write_22 (by decide) (fun c_5 => ?_) (fun c_5 => ?_)
      · have f_5 : r_4.toInt = 0 := r_eq rfl (by decide) c_5
        refine lv_bipush (v := (-3)) hx hb dX11_write_35 (by decide) ?_
        exact th_iret E hr hlk hs hT_4 hS_4 (by have : ((-3) : Int32).toInt = -3 := (by decide); omega) dX11_write_37
      · have f_5 : ¬ r_4.toInt = 0 := r_ne rfl (by decide) c_5
        have nz_r_4 : ¬ r_4 = 0 := c_5
        refine lv_aload_n hx hb dX11_write_25 rfl (lv_at hl 0 rfl) ?_
        refine gf_X11_10 E hT_4 hW ha0 dX11_write_26 (fun h_6 => ?_)
        refine gf_X11_51 E hT_4 h_6 dX11_write_29 ?_
        refine lv_topi (fun x_7 ex_7 => ?_)
        have e_7 : x_7.toInt = (fi D 9 1 H_4 (ρ a0 0)).toInt := congrArg Int32.toInt ex_7
        refine lv_goto (tgt := 37) hx hb dX11_write_32 (by decide) ?_
        exact th_iret E hr hlk hs hT_4 hS_4 (by have : (fi D 9 1 H_4 (ρ a0 0)).toInt = (x_7 : Int32).toInt := congrArg Int32.toInt ex_7.symm; omega) dX11_write_37
    · have f_2 : 126 < x0.toInt := r_nle rfl (by decide) c_2
      refine lv_iconst (v := (-1)) hx hb dX11_write_12 (by decide) ?_
      exact th_iret E hr hlk hs hT hS (by have : ((-1) : Int32).toInt = -1 := (by decide); omega) dX11_write_13
set_option maxHeartbeats 4000000 in
set_option maxRecDepth 100000 in
/-- StreamEnds.wipe: it ends, and the heap stays typed -/
theorem zx_X11_wipe (l : Launch) (D : va_G) (cI cS : ClassId) (τ : Nat → Option Nat) (ρ : Nat → Nat → Nat) (hW : WF τ ρ) (H : Heap) (hT : TH D cI cS τ ρ H) (a0 : Nat) (ha0 : τ a0 = some 11) : MI l D cI cS τ ρ yX11_wipe cX11_wipe 2 (some .int) 0 0 H [.ref a0] (fun (r : Int32) (u : Heap) => r.toInt = (fi D 9 1 H (ρ a0 0)).toInt ∧ (fi D 9 1 u (ρ a0 0)).toInt = 0) (AT τ [9]) := by
  refine MI.of (by decide) (Nat.le_of_ble_eq_true rfl) ?_
  intro p e s m args below meth c E hml hr hlk hs ls hl
  have hx := E.1
  have hb := E.2.1
  have hown := E.2.2.1
  have hts := E.2.2.2.1
  have hS : SS (AT τ [9]) H H [] := SS.rf
  have hl : lv_has ls 2 [(0, .ref a0)] := hl
  refine lv_aload_n hx hb dX11_wipe_0 rfl (lv_at hl 0 rfl) ?_
  refine gf_X11_10 E hT hW ha0 dX11_wipe_1 (fun h_1 => ?_)
  refine gf_X11_51 E hT h_1 dX11_wipe_4 ?_
  refine lv_topi (fun x_2 ex_2 => ?_)
  have e_2 : x_2.toInt = (fi D 9 1 H (ρ a0 0)).toInt := congrArg Int32.toInt ex_2
  refine lv_istore_n (lv' := [(1, .int x_2), (0, .ref a0)]) hx hb dX11_wipe_7 rfl hl (by decide) rfl (fun ls hl => ?_)
  refine lv_aload_n hx hb dX11_wipe_8 rfl (lv_at hl 1 rfl) ?_
  refine gf_X11_10 E hT hW ha0 dX11_wipe_9 (fun h_3 => ?_)
  refine lv_iconst (v := 0) hx hb dX11_wipe_12 (by decide) ?_
  refine pf_X11_51 E hT hS h_3 ⟨_, h_3, by decide⟩ dX11_wipe_13 (fun H_4 locs_4 hT_4 hU_4 hS_4 => ?_)
  refine lv_iload_n hx hb dX11_wipe_16 rfl (lv_at hl 0 rfl) ?_
  exact th_iret E hr hlk hs hT_4 hS_4 (by have : (fi D 9 1 H (ρ a0 0)).toInt = (x_2 : Int32).toInt := congrArg Int32.toInt ex_2.symm; have : (fi D 9 1 H_4 (ρ a0 0)).toInt = (0 : Int32).toInt := congrArg Int32.toInt (PU.i hU_4); have : (0 : Int32).toInt = 0 := (by decide); omega) dX11_wipe_17
