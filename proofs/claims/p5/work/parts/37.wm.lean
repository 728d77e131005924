/-! THE REFERENCE: weak contracts (written by wip/gen) -/
set_option maxHeartbeats 4000000 in
set_option maxRecDepth 100000 in
/-- the reference: isIn -/
theorem y_isIn_v4 (l : Launch) (D : va_G) (cI cS : ClassId) (τ : Nat → Option Nat) (ρ : Nat → Nat → Nat) (hW : WF τ ρ) (H : Heap) (hT : TH D cI cS τ ρ H) (a0 : Nat) (ha0 : τ a0 = some 12) : MI l D cI cS τ ρ yX12_isIn cX12_isIn 4 (some .boolean) 1 22 H [.ref a0, .int 1, .int 2, .int 3] (fun (r : Int32) (u : Heap) => (H = u) ∧ (r = 0 ∨ r = 1) ∧ ((r.toInt = 1 ∧ ((ai H (ρ a0 0) 288).toInt = 2 ∨ (ai H (ρ a0 0) 288).toInt = 3)) ∨ (r.toInt = 0 ∧ ¬ (ai H (ρ a0 0) 288).toInt = 2 ∧ ¬ (ai H (ρ a0 0) 288).toInt = 3))) (fun q => False) := by
  refine MI.of (by decide) (Nat.le_of_ble_eq_true rfl) ?_
  intro p e s m args below meth c E hml hr hlk hs ls hl
  have hx := E.1
  have hb := E.2.1
  have hown := E.2.2.1
  have hts := E.2.2.2.1
  have hS : SS (fun q => False) H H [] := SS.rf
  have hl : lv_has ls 4 [(0, .ref a0), (1, .int 1), (2, .int 2), (3, .int 3)] := hl
  refine lv_aload_n hx hb dX12_isIn_0 rfl (lv_at hl 0 rfl) ?_
  refine lv_iload_n hx hb dX12_isIn_1 rfl (lv_at hl 1 rfl) ?_
  refine lv_iconst (v := 0) hx hb dX12_isIn_2 (by decide) ?_
  refine th_Vi (As := [.int 1, .int 0]) (rest := []) E hml hl.1 (y_get_v20 l D cI cS τ ρ hW H hT a0 ha0) lk_X12_99 yd_X12_get hT ha0 rfl (by decide) hS (fun _ h => h.elim) ⟨by decide, by decide⟩ (Nat.le_of_ble_eq_true rfl) ⟨by decide, by decide⟩ rfl dX12_isIn_3 (fun r_1 H_1 locs_1 p_1 hT_1 hk_1 hS_1 => ?_)
  have p_1 : H = H_1 ∧ (ai H (ρ a0 0) 288 = r_1) := p_1
  obtain ⟨rfl, p_1_0⟩ := p_1
  have c_r_1 := congrArg Int32.toInt p_1_0
  refine lv_iload_n hx hb dX12_isIn_6 rfl (lv_at hl 2 rfl) ?_
  refine lv_icmp_eq (tgt := 20) hx hb dX12_isIn_7 (by decide) (fun c_2 => ?_) (fun c_2 => ?_)
  · have f_2 : r_1.toInt = 2 := r_eq rfl (by decide) c_2
    refine lv_iconst (v := 1) hx hb dX12_isIn_20 (by decide) ?_
    refine lv_goto (tgt := 25) hx hb dX12_isIn_21 (by decide) ?_
    exact th_zret E hr hlk hs (Or.inr rfl) hT_1 hS_1 ⟨rfl, (Or.inr rfl), (by have : (1 : Int32).toInt = 1 := (by decide); have : (ai H (ρ a0 0) 288).toInt = (r_1 : Int32).toInt := congrArg Int32.toInt p_1_0; omega)⟩ dX12_isIn_25
  · have f_2 : ¬ r_1.toInt = 2 := r_ne rfl (by decide) c_2
    refine lv_aload_n hx hb dX12_isIn_10 rfl (lv_at hl 0 rfl) ?_
    refine lv_iload_n hx hb dX12_isIn_11 rfl (lv_at hl 1 rfl) ?_
    refine lv_iconst (v := 0) hx hb dX12_isIn_12 (by decide) ?_
    refine th_Vi (As := [.int 1, .int 0]) (rest := []) E hml hl.1 (y_get_v20 l D cI cS τ ρ hW H hT_1 a0 ha0) lk_X12_99 yd_X12_get hT_1 ha0 rfl (by decide) hS_1 (fun _ h => h.elim) ⟨by decide, by decide⟩ (Nat.le_of_ble_eq_true rfl) ⟨by decide, by decide⟩ rfl dX12_isIn_13 (fun r_3 H_3 locs_3 p_3 hT_3 hk_3 hS_3 => ?_)
    have p_3 : H = H_3 ∧ (ai H (ρ a0 0) 288 = r_3) := p_3
    obtain ⟨rfl, p_3_0⟩ := p_3
    have s_3 : r_3 = r_1 := p_3_0.symm.trans p_1_0
    refine th_topi s_3 ?_
    refine lv_iload_n hx hb dX12_isIn_16 rfl (lv_at hl 3 rfl) ?_
    refine lv_icmp_ne (tgt := 24) hx hb dX12_isIn_17 (by decide) (fun c_4 => ?_) (fun c_4 => ?_)
    · have f_4 : ¬ r_1.toInt = 3 := r_ne rfl (by decide) c_4
      refine lv_iconst (v := 0) hx hb dX12_isIn_24 (by decide) ?_
      exact th_zret E hr hlk hs (Or.inl rfl) hT_3 hS_3 ⟨rfl, (Or.inl rfl), (by have : (0 : Int32).toInt = 0 := (by decide); have : (ai H (ρ a0 0) 288).toInt = (r_1 : Int32).toInt := congrArg Int32.toInt p_1_0; omega)⟩ dX12_isIn_25
    · have f_4 : r_1.toInt = 3 := r_eq rfl (by decide) c_4
      refine lv_iconst (v := 1) hx hb dX12_isIn_20 (by decide) ?_
      refine lv_goto (tgt := 25) hx hb dX12_isIn_21 (by decide) ?_
      exact th_zret E hr hlk hs (Or.inr rfl) hT_3 hS_3 ⟨rfl, (Or.inr rfl), (by have : (1 : Int32).toInt = 1 := (by decide); have : (ai H (ρ a0 0) 288).toInt = (r_1 : Int32).toInt := congrArg Int32.toInt p_1_0; omega)⟩ dX12_isIn_25
set_option maxHeartbeats 4000000 in
set_option maxRecDepth 100000 in
/-- the reference: maySay -/
theorem y_maySay_v2 (l : Launch) (D : va_G) (cI cS : ClassId) (τ : Nat → Option Nat) (ρ : Nat → Nat → Nat) (hW : WF τ ρ) (H : Heap) (hT : TH D cI cS τ ρ H) (a0 : Nat) (ha0 : τ a0 = some 12) : MI l D cI cS τ ρ yX12_maySay cX12_maySay 2 (some .boolean) 2 45 H [.ref a0, .int 1] (fun (r : Int32) (u : Heap) => (H = u) ∧ (r = 0 ∨ r = 1)) (fun q => False) := by
  refine MI.of (by decide) (Nat.le_of_ble_eq_true rfl) ?_
  intro p e s m args below meth c E hml hr hlk hs ls hl
  have hx := E.1
  have hb := E.2.1
  have hown := E.2.2.1
  have hts := E.2.2.2.1
  have hS : SS (fun q => False) H H [] := SS.rf
  have hl : lv_has ls 2 [(0, .ref a0), (1, .int 1)] := hl
  have J_21 : ∀ (lc_c21 : List Loc) (ls : Array Slot), SS (fun q => False) H H lc_c21 → lv_has ls 2 [(0, .ref a0), (1, .int 1)] → W p l e (rmO 2 45) s m args below meth c H lc_c21 0 0 (MQ below (va_Qi (fun (r : Int32) (u : Heap) => (H = u) ∧ (r = 0 ∨ r = 1)) (Bt D cI cS τ ρ H) (fun q => False)) args s 0 0 (fun q => False)) (F0 m 21 ls []) := by
    intro lc_c21 ls hS_c21 hl
    refine lv_aload_n hx hb dX12_maySay_21 rfl (lv_at hl 0 rfl) ?_
    refine lv_iload_n hx hb dX12_maySay_22 rfl (lv_at hl 1 rfl) ?_
    refine lv_bipush (v := 13) hx hb dX12_maySay_23 (by decide) ?_
    refine th_Vi (As := [.int 1, .int 13]) (rest := []) E hml hl.1 (y_get_v34 l D cI cS τ ρ hW H hT a0 ha0) lk_X12_99 yd_X12_get hT ha0 rfl (by decide) hS_c21 (fun _ h => h.elim) ⟨by decide, by decide⟩ (Nat.le_of_ble_eq_true rfl) ⟨by decide, by decide⟩ rfl dX12_maySay_25 (fun r_1 H_1 locs_1 p_1 hT_1 hk_1 hS_1 => ?_)
    have p_1 : H = H_1 ∧ (ai H (ρ a0 0) 301 = r_1) := p_1
    obtain ⟨rfl, p_1_0⟩ := p_1
    have c_r_1 := congrArg Int32.toInt p_1_0
    refine lv_if_ne (tgt := 35) hx hb dX12_maySay_28 (by decide) (fun c_2 => ?_) (fun c_2 => ?_)
    · have f_2 : ¬ r_1.toInt = 0 := r_ne rfl (by decide) c_2
      have nz_r_1 : ¬ r_1 = 0 := c_2
      refine lv_iconst (v := 0) hx hb dX12_maySay_35 (by decide) ?_
      exact th_zret E hr hlk hs (Or.inl rfl) hT_1 hS_1 ⟨rfl, (Or.inl rfl)⟩ dX12_maySay_36
    · have f_2 : r_1.toInt = 0 := r_eq rfl (by decide) c_2
      refine lv_iconst (v := 1) hx hb dX12_maySay_31 (by decide) ?_
      refine lv_goto (tgt := 36) hx hb dX12_maySay_32 (by decide) ?_
      exact th_zret E hr hlk hs (Or.inr rfl) hT_1 hS_1 ⟨rfl, (Or.inr rfl)⟩ dX12_maySay_36
  refine lv_aload_n hx hb dX12_maySay_0 rfl (lv_at hl 0 rfl) ?_
  refine lv_iload_n hx hb dX12_maySay_1 rfl (lv_at hl 1 rfl) ?_
  refine lv_iconst (v := 2) hx hb dX12_maySay_2 (by decide) ?_
  refine lv_iconst (v := 3) hx hb dX12_maySay_3 (by decide) ?_
  refine th_Vi (As := [.int 1, .int 2, .int 3]) (rest := []) E hml hl.1 (y_isIn_v4 l D cI cS τ ρ hW H hT a0 ha0) lk_X12_106 yd_X12_isIn hT ha0 rfl (by decide) hS (fun _ h => h.elim) ⟨by decide, by decide⟩ (Nat.le_of_ble_eq_true rfl) ⟨by decide, by decide⟩ rfl dX12_maySay_4 (fun r_3 H_3 locs_3 p_3 hT_3 hk_3 hS_3 => ?_)
  have p_3 : H = H_3 ∧ (r_3 = 0 ∨ r_3 = 1) ∧ ((r_3.toInt = 1 ∧ ((ai H (ρ a0 0) 288).toInt = 2 ∨ (ai H (ρ a0 0) 288).toInt = 3)) ∨ (r_3.toInt = 0 ∧ ¬ (ai H (ρ a0 0) 288).toInt = 2 ∧ ¬ (ai H (ρ a0 0) 288).toInt = 3)) := p_3
  obtain ⟨rfl, p_3_0, p_3_1⟩ := p_3
  have z_3 := b_iv p_3_0
  refine lv_if_ne (tgt := 21) hx hb dX12_maySay_7 (by decide) (fun c_4 => ?_) (fun c_4 => ?_)
  · have f_4 : ¬ r_3.toInt = 0 := r_ne rfl (by decide) c_4
    have nz_r_3 : ¬ r_3 = 0 := c_4
    exact J_21 locs_3 _ hS_3 hl
  · have f_4 : r_3.toInt = 0 := r_eq rfl (by decide) c_4
    refine lv_aload_n hx hb dX12_maySay_10 rfl (lv_at hl 0 rfl) ?_
    refine lv_iload_n hx hb dX12_maySay_11 rfl (lv_at hl 1 rfl) ?_
    refine lv_iconst (v := 4) hx hb dX12_maySay_12 (by decide) ?_
    refine lv_bipush (v := 7) hx hb dX12_maySay_13 (by decide) ?_
    refine th_Vi (As := [.int 1, .int 4, .int 7]) (rest := []) E hml hl.1 (y_isIn_v2 l D cI cS τ ρ hW H hT_3 a0 ha0) lk_X12_106 yd_X12_isIn hT_3 ha0 rfl (by decide) hS_3 (fun _ h => h.elim) ⟨by decide, by decide⟩ (Nat.le_of_ble_eq_true rfl) ⟨by decide, by decide⟩ rfl dX12_maySay_15 (fun r_5 H_5 locs_5 p_5 hT_5 hk_5 hS_5 => ?_)
    have p_5 : H = H_5 ∧ (r_5 = 0 ∨ r_5 = 1) ∧ ((r_5.toInt = 1 ∧ ((ai H (ρ a0 0) 288).toInt = 4 ∨ (ai H (ρ a0 0) 288).toInt = 7)) ∨ (r_5.toInt = 0 ∧ ¬ (ai H (ρ a0 0) 288).toInt = 4 ∧ ¬ (ai H (ρ a0 0) 288).toInt = 7)) := p_5
    obtain ⟨rfl, p_5_0, p_5_1⟩ := p_5
    have z_5 := b_iv p_5_0
    refine lv_if_eq (tgt := 35) hx hb dX12_maySay_18 (by decide) (fun c_6 => ?_) (fun c_6 => ?_)
    · have f_6 : r_5.toInt = 0 := r_eq rfl (by decide) c_6
      refine lv_iconst (v := 0) hx hb dX12_maySay_35 (by decide) ?_
      exact th_zret E hr hlk hs (Or.inl rfl) hT_5 hS_5 ⟨rfl, (Or.inl rfl)⟩ dX12_maySay_36
    · have f_6 : ¬ r_5.toInt = 0 := r_ne rfl (by decide) c_6
      have nz_r_5 : ¬ r_5 = 0 := c_6
      exact J_21 locs_5 _ hS_5 hl
set_option maxHeartbeats 4000000 in
set_option maxRecDepth 100000 in
/-- the reference: set -/
theorem y_set_v82 (l : Launch) (D : va_G) (cI cS : ClassId) (τ : Nat → Option Nat) (ρ : Nat → Nat → Nat) (hW : WF τ ρ) (H : Heap) (hT : TH D cI cS τ ρ H) (a0 : Nat) (x2 : Int32) (ha0 : τ a0 = some 12) : MV l D cI cS τ ρ yX12_set cX12_set 4 none 0 0 H [.ref a0, .int 1, .int 4, .int x2] (fun (u : Heap) => (AU 985 H u (ρ a0 0) 292 x2)) (fun q => q = ρ a0 0) := by
  refine MV.of (by decide) (Nat.le_of_ble_eq_true rfl) ?_
  intro p e s m args below meth c E hml hr hlk hs ls hl
  have hx := E.1
  have hb := E.2.1
  have hown := E.2.2.1
  have hts := E.2.2.2.1
  have hS : SS (fun q => q = ρ a0 0) H H [] := SS.rf
  have hl : lv_has ls 4 [(0, .ref a0), (1, .int 1), (2, .int 4), (3, .int x2)] := hl
  refine lv_aload_n hx hb dX12_set_0 rfl (lv_at hl 0 rfl) ?_
  refine gf_X12_7 E hT hW ha0 dX12_set_1 (fun h_1 => ?_)
  refine lv_sipush (v := 288) hx hb dX12_set_4 (by decide) ?_
  refine lv_iload_n hx hb dX12_set_7 rfl (lv_at hl 1 rfl) ?_
  refine lv_imul hx hb dX12_set_8 ?_
  refine th_topi (y := 288) (by decide) ?_
  refine lv_iload_n hx hb dX12_set_9 rfl (lv_at hl 2 rfl) ?_
  refine lv_iadd hx hb dX12_set_10 ?_
  refine th_topi (y := 292) (by decide) ?_
  refine lv_iload_n hx hb dX12_set_11 rfl (lv_at hl 3 rfl) ?_
  refine th_iast E hT hS h_1 rfl (by decide) (vp_in_iff.mpr ⟨by decide, by decide⟩) dX12_set_12 (fun H_2 locs_2 hT_2 hU_2 hS_2 => ?_)
  have hU_2 : AU 985 H H_2 (ρ a0 0) 292 x2 := hU_2
  exact th_vret E hr hlk hs hT_2 hS_2 hU_2 dX12_set_13
set_option maxHeartbeats 4000000 in
set_option maxRecDepth 100000 in
/-- the reference: say -/
theorem y_say_v2 (l : Launch) (D : va_G) (cI cS : ClassId) (τ : Nat → Option Nat) (ρ : Nat → Nat → Nat) (hW : WF τ ρ) (H : Heap) (hT : TH D cI cS τ ρ H) (a0 : Nat) (x1 : Int32) (ha0 : τ a0 = some 12) (N : Int) (hN0 : 0 ≤ N) (hN1 : N ≤ 600) (hI : IM D ρ N H a0) (hp0 : (ai H (ρ a0 0) 292).toInt + 1 ≤ N) : MI l D cI cS τ ρ yX12_say cX12_say 3 (some .int) 9 212 H [.ref a0, .int 1, .int x1] (fun (r : Int32) (u : Heap) => (IM D ρ N u a0)) (fun q => q = ρ a0 0 ∨ q = ρ a0 2) := by
  refine MI.of (by decide) (Nat.le_of_ble_eq_true rfl) ?_
  intro p e s m args below meth c E hml hr hlk hs ls hl
  have hx := E.1
  have hb := E.2.1
  have hown := E.2.2.1
  have hts := E.2.2.2.1
  have hS : SS (fun q => q = ρ a0 0 ∨ q = ρ a0 2) H H [] := SS.rf
  have hl : lv_has ls 3 [(0, .ref a0), (1, .int 1), (2, .int x1)] := hl
  have n01 := hI.2.2.2.2.2.1
  have n23 := hI.2.2.2.2.2.2.1
  refine lv_iload_n hx hb dX12_say_0 rfl (lv_at hl 1 rfl) ?_
  refine th_Si (As := [.int 1]) (rest := []) E hml hl.1 (y_isEnd_v2 l D cI cS τ ρ hW H hT) lk_X12_160 yd_X12_isEnd hS (fun _ h => h.elim) ⟨by decide, by decide⟩ (Nat.le_of_ble_eq_true rfl) ⟨by decide, by decide⟩ rfl dX12_say_1 (fun r_1 H_1 locs_1 p_1 hT_1 hk_1 hS_1 => ?_)
  have p_1 : H = H_1 ∧ (r_1 = 0 ∨ r_1 = 1) ∧ ((r_1.toInt = 1 ∧ 0 ≤ 1 ∧ 1 ≤ 1) ∨ (r_1.toInt = 0 ∧ (1 < 0 ∨ 1 < 1))) := p_1
  obtain ⟨rfl, p_1_0, p_1_1⟩ := p_1
  have z_1 := b_iv p_1_0
  refine lv_if_eq (tgt := 19) hx hb dX12_say_4 (by decide) (fun c_2 => False.elim (by have f_2 : r_1.toInt = 0 := r_eq rfl (by decide) c_2; omega)) (fun c_2 => ?_)
  refine lv_iload_n hx hb dX12_say_7 rfl (lv_at hl 2 rfl) ?_
  obtain ⟨x_3, ex_3⟩ : ∃ y : Int64, x1.toInt64 = y := ⟨_, rfl⟩
  refine lv_i2l (v := x_3) hx hb dX12_say_8 ex_3 ?_
  have q_3 : x_3.toInt = x1.toInt := by rw [← ex_3]; exact Int32.toInt_toInt64 _
  refine lv_lconst (v := 0) hx hb dX12_say_9 (by decide) ?_
  refine lv_ldc2 (v := 255) hx hb hown (hts _ qw_1209) dX12_say_10 ?_
  refine th_Si (As := [.long x_3, .long 0, .long 255]) (rest := []) E hml hl.1 (y_in_v7 l D cI cS τ ρ hW H hT_1 x_3) lk_X12_54 yd_X12_in hS_1 (fun _ h => h.elim) ⟨by decide, by decide⟩ (Nat.le_of_ble_eq_true rfl) ⟨by decide, by decide⟩ rfl dX12_say_13 (fun r_4 H_4 locs_4 p_4 hT_4 hk_4 hS_4 => ?_)
  have p_4 : H = H_4 ∧ (r_4 = 0 ∨ r_4 = 1) ∧ ((r_4.toInt = 1 ∧ 0 ≤ x_3.toInt ∧ x_3.toInt ≤ 255) ∨ (r_4.toInt = 0 ∧ (x_3.toInt < 0 ∨ 255 < x_3.toInt))) := p_4
  obtain ⟨rfl, p_4_0, p_4_1⟩ := p_4
  have z_4 := b_iv p_4_0
  refine lv_if_ne (tgt := 21) hx hb dX12_say_16 (by decide) (fun c_5 => ?_) (fun c_5 => ?_)
  · have f_5 : ¬ r_4.toInt = 0 := r_ne rfl (by decide) c_5
    have nz_r_4 : ¬ r_4 = 0 := c_5
    refine lv_aload_n hx hb dX12_say_21 rfl (lv_at hl 0 rfl) ?_
    refine lv_iload_n hx hb dX12_say_22 rfl (lv_at hl 1 rfl) ?_
    refine th_Vi (As := [.int 1]) (rest := []) E hml hl.1 (y_maySay_v2 l D cI cS τ ρ hW H hT_4 a0 ha0) lk_X12_174 yd_X12_maySay hT_4 ha0 rfl (by decide) hS_4 (fun _ h => h.elim) ⟨by decide, by decide⟩ (Nat.le_of_ble_eq_true rfl) ⟨by decide, by decide⟩ rfl dX12_say_23 (fun r_6 H_6 locs_6 p_6 hT_6 hk_6 hS_6 => ?_)
    have p_6 : H = H_6 ∧ (r_6 = 0 ∨ r_6 = 1) := p_6
    obtain ⟨rfl, p_6_0⟩ := p_6
    have z_6 := b_iv p_6_0
    refine lv_if_ne (tgt := 32) hx hb dX12_say_26 (by decide) (fun c_7 => ?_) (fun c_7 => ?_)
    · have f_7 : ¬ r_6.toInt = 0 := r_ne rfl (by decide) c_7
      have nz_r_6 : ¬ r_6 = 0 := c_7
      refine lv_aload_n hx hb dX12_say_32 rfl (lv_at hl 0 rfl) ?_
      refine lv_iload_n hx hb dX12_say_33 rfl (lv_at hl 1 rfl) ?_
      refine lv_aload_n hx hb dX12_say_34 rfl (lv_at hl 0 rfl) ?_
      refine lv_iload_n hx hb dX12_say_35 rfl (lv_at hl 1 rfl) ?_
      refine lv_iconst (v := 1) hx hb dX12_say_36 (by decide) ?_
      refine th_Vi (As := [.int 1, .int 1]) (rest := [.int 1, .ref a0]) E hml hl.1 (y_get_v29 l D cI cS τ ρ hW H hT_6 a0 ha0) lk_X12_99 yd_X12_get hT_6 ha0 rfl (by decide) hS_6 (fun _ h => h.elim) ⟨by decide, by decide⟩ (Nat.le_of_ble_eq_true rfl) ⟨by decide, by decide⟩ rfl dX12_say_37 (fun r_8 H_8 locs_8 p_8 hT_8 hk_8 hS_8 => ?_)
      have p_8 : H = H_8 ∧ (ai H (ρ a0 0) 289 = r_8) := p_8
      obtain ⟨rfl, p_8_0⟩ := p_8
      have b_r_8 : 0 ≤ r_8.toInt ∧ r_8.toInt ≤ N + 2 := by rw [← p_8_0]; exact hI.1 289 (by decide)
      have c_r_8 := congrArg Int32.toInt p_8_0
      refine th_Vi (As := [.int 1, .int r_8]) (rest := []) E hml hl.1 (y_saidFrom_v2 l D cI cS τ ρ hW H hT_8 a0 r_8 ha0 N hN0 hN1 ⟨hI.1, hI.2.1, hI.2.2.1, hI.2.2.2.1, hI.2.2.2.2.1, hI.2.2.2.2.2⟩ (by omega)) lk_X12_109 yd_X12_saidFrom hT_8 ha0 rfl (by decide) hS_8 (fun _ h => h.elim) ⟨by decide, by decide⟩ (Nat.le_of_ble_eq_true rfl) ⟨by decide, by decide⟩ rfl dX12_say_40 (fun r_9 H_9 locs_9 p_9 hT_9 hk_9 hS_9 => ?_)
      have p_9 : H = H_9 ∧ (0 ≤ r_9.toInt ∧ (r_9.toInt = 0 ∨ (1 ≤ r_8.toInt ∧ r_9.toInt = (ai H (ρ a0 0) 292).toInt + 1 - r_8.toInt) ∨ (r_8.toInt < 1 ∧ r_9.toInt = (ai H (ρ a0 0) 292).toInt)) ∧ (ai H (ρ a0 0) 292).toInt ≤ N) := p_9
      obtain ⟨rfl, p_9_0⟩ := p_9
      refine lv_bipush (v := 32) hx hb dX12_say_43 (by decide) ?_
      refine lv_icmp_ne (tgt := 51) hx hb dX12_say_45 (by decide) (fun c_10 => ?_) (fun c_10 => ?_)
      · have f_10 : ¬ r_9.toInt = 32 := r_ne rfl (by decide) c_10
        refine lv_aload_n hx hb dX12_say_51 rfl (lv_at hl 0 rfl) ?_
        refine lv_iload_n hx hb dX12_say_52 rfl (lv_at hl 1 rfl) ?_
        refine lv_iconst (v := 4) hx hb dX12_say_53 (by decide) ?_
        refine lv_aload_n hx hb dX12_say_54 rfl (lv_at hl 0 rfl) ?_
        refine lv_iload_n hx hb dX12_say_55 rfl (lv_at hl 1 rfl) ?_
        refine lv_iconst (v := 4) hx hb dX12_say_56 (by decide) ?_
        refine th_Vi (As := [.int 1, .int 4]) (rest := [.int 4, .int 1, .ref a0]) E hml hl.1 (y_get_v33 l D cI cS τ ρ hW H hT_9 a0 ha0) lk_X12_99 yd_X12_get hT_9 ha0 rfl (by decide) hS_9 (fun _ h => h.elim) ⟨by decide, by decide⟩ (Nat.le_of_ble_eq_true rfl) ⟨by decide, by decide⟩ rfl dX12_say_57 (fun r_11 H_11 locs_11 p_11 hT_11 hk_11 hS_11 => ?_)
        have p_11 : H = H_11 ∧ (ai H (ρ a0 0) 292 = r_11) := p_11
        obtain ⟨rfl, p_11_0⟩ := p_11
        have b_r_11 : 0 ≤ r_11.toInt ∧ r_11.toInt ≤ N := by rw [← p_11_0]; exact hI.1 292 (by decide)
        have c_r_11 := congrArg Int32.toInt p_11_0
        refine lv_iconst (v := 1) hx hb dX12_say_60 (by decide) ?_
        refine lv_iadd hx hb dX12_say_61 ?_
        refine lv_topi (fun x_12 ex_12 => ?_)
        have q_12 : x_12.toInt = r_11.toInt + 1 := i_pl rfl (by decide) ex_12 (by omega) (by omega)
        refine th_Vv (As := [.int 1, .int 4, .int x_12]) (rest := []) E hml hl.1 (y_set_v82 l D cI cS τ ρ hW H hT_11 a0 x_12 ha0) lk_X12_95 yd_X12_set hT_11 ha0 rfl (by decide) hS_11 (fun q h => (Or.inl h)) ⟨by decide, by decide⟩ (Nat.le_of_ble_eq_true rfl) ⟨by decide, by decide⟩ rfl dX12_say_62 (fun H_13 locs_13 p_13 hT_13 hk_13 hS_13 => ?_)
        have p_13 : (AU 985 H H_13 (ρ a0 0) 292 x_12) := p_13
        have hW_13 : PW N H_13 (ρ a0 0) := PW.put hI.1 p_13 (by show (0 : Int) ≤ x_12.toInt; omega) (by show x_12.toInt ≤ (N : Int); omega)
        refine lv_aload_n hx hb dX12_say_65 rfl (lv_at hl 0 rfl) ?_
        refine lv_iload_n hx hb dX12_say_66 rfl (lv_at hl 1 rfl) ?_
        refine lv_bipush (v := 32) hx hb dX12_say_67 (by decide) ?_
        refine lv_aload_n hx hb dX12_say_69 rfl (lv_at hl 0 rfl) ?_
        refine lv_iload_n hx hb dX12_say_70 rfl (lv_at hl 1 rfl) ?_
        refine lv_iconst (v := 4) hx hb dX12_say_71 (by decide) ?_
        refine th_Vi (As := [.int 1, .int 4]) (rest := [.int 32, .int 1, .ref a0]) E hml hl.1 (y_get_v33 l D cI cS τ ρ hW H_13 hT_13 a0 ha0) lk_X12_99 yd_X12_get hT_13 ha0 rfl (by decide) hS_13 (fun _ h => h.elim) ⟨by decide, by decide⟩ (Nat.le_of_ble_eq_true rfl) ⟨by decide, by decide⟩ rfl dX12_say_72 (fun r_14 H_14 locs_14 p_14 hT_14 hk_14 hS_14 => ?_)
        have p_14 : H_13 = H_14 ∧ (ai H_13 (ρ a0 0) 292 = r_14) := p_14
        obtain ⟨rfl, p_14_0⟩ := p_14
        have s_14 : r_14 = x_12 := p_14_0.symm.trans (AU.s p_13 (by decide))
        refine th_topi s_14 ?_
        refine lv_bipush (v := 64) hx hb dX12_say_75 (by decide) ?_
        refine lv_irem hx hb dX12_say_77 (by decide) ?_
        refine lv_topi (fun x_15 ex_15 => ?_)
        have q_15 := i_rem (k := 64) (x := x_12) (by decide) (by decide) ex_15
        have p_15 : 0 ≤ x_15.toInt := q_15.2.2 (by omega)
        refine lv_iadd hx hb dX12_say_78 ?_
        refine lv_topi (fun x_16 ex_16 => ?_)
        have q_16 : x_16.toInt = 32 + x_15.toInt := i_pl (by decide) rfl ex_16 (by omega) (by omega)
        refine lv_iload_n hx hb dX12_say_79 rfl (lv_at hl 2 rfl) ?_
        refine th_Vv (As := [.int 1, .int x_16, .int x1]) (rest := []) E hml hl.1 (y_set_v6 l D cI cS τ ρ hW H_13 hT_14 a0 x_16 x1 ha0 (by omega)) lk_X12_95 yd_X12_set hT_14 ha0 rfl (by decide) hS_14 (fun q h => (Or.inl h)) ⟨by decide, by decide⟩ (Nat.le_of_ble_eq_true rfl) ⟨by decide, by decide⟩ rfl dX12_say_80 (fun H_17 locs_17 p_17 hT_17 hk_17 hS_17 => ?_)
        have p_17 : (AU 985 H_13 H_17 (ρ a0 0) (288 + x_16.toInt).toNat x1) := p_17
        have hW_17 : PW N H_17 (ρ a0 0) := PW.free hW_13 p_17 (by omega)
        refine lv_aload_n hx hb dX12_say_83 rfl (lv_at hl 0 rfl) ?_
        refine lv_iload_n hx hb dX12_say_84 rfl (lv_at hl 1 rfl) ?_
        refine th_Vv (As := [.int 1]) (rest := []) E hml hl.1 (y_goesOn_v2 l D cI cS τ ρ hW H_17 hT_17 a0 ha0 N hN0 hN1 ⟨hW_17, (QS.same (Eq.trans (AU.o p_17 (by decide) (by omega)) (AU.o p_13 (by decide) (by decide))) (Eq.trans (AU.o p_17 (by decide) (by omega)) (AU.o p_13 (by decide) (by decide))) hI.2.1), (QS.same (Eq.trans (AU.o p_17 (by decide) (by omega)) (AU.o p_13 (by decide) (by decide))) (Eq.trans (AU.o p_17 (by decide) (by omega)) (AU.o p_13 (by decide) (by decide))) hI.2.2.1), (PL.q (p_17.2 _ (th_ne (hW _ 12 2 ha0 (by decide) (by decide) (by decide)) (hW _ 12 0 ha0 (by decide) (by decide) (by decide)) (by decide))) (PL.q (p_13.2 _ (th_ne (hW _ 12 2 ha0 (by decide) (by decide) (by decide)) (hW _ 12 0 ha0 (by decide) (by decide) (by decide)) (by decide))) hI.2.2.2.1)), (PL.q (p_17.2 _ (th_ne (hW _ 12 3 ha0 (by decide) (by decide) (by decide)) (hW _ 12 0 ha0 (by decide) (by decide) (by decide)) (by decide))) (PL.q (p_13.2 _ (th_ne (hW _ 12 3 ha0 (by decide) (by decide) (by decide)) (hW _ 12 0 ha0 (by decide) (by decide) (by decide)) (by decide))) hI.2.2.2.2.1)), (IF.q (p_17.2 _ (th_ne ha0 (hW _ 12 0 ha0 (by decide) (by decide) (by decide)) (by decide))) (IF.q (p_13.2 _ (th_ne ha0 (hW _ 12 0 ha0 (by decide) (by decide) (by decide)) (by decide))) hI.2.2.2.2.2))⟩) lk_X12_177 yd_X12_goesOn hT_17 ha0 rfl (by decide) hS_17 (fun q => (fun h => h.elim (fun h => (Or.inr h)) (fun h => (Or.inl h)))) ⟨by decide, by decide⟩ (Nat.le_of_ble_eq_true rfl) ⟨by decide, by decide⟩ rfl dX12_say_85 (fun H_18 locs_18 p_18 hT_18 hk_18 hS_18 => ?_)
        have p_18 : (IM D ρ N H_18 a0) ∧ ((ai H_17 (ρ a0 0) 976).toInt ≤ (ai H_18 (ρ a0 0) 976).toInt) := p_18
        obtain ⟨p_18_0, p_18_1⟩ := p_18
        have mn_18 : (ai H (ρ a0 0) 976).toInt ≤ (ai H_18 (ρ a0 0) 976).toInt := by have h := p_18_1; rw [(Eq.trans (AU.o p_17 (by decide) (by omega)) (AU.o p_13 (by decide) (by decide)))] at h; exact h
        refine lv_aload_n hx hb dX12_say_88 rfl (lv_at hl 0 rfl) ?_
        refine lv_iload_n hx hb dX12_say_89 rfl (lv_at hl 1 rfl) ?_
        refine th_Vv (As := [.int 1]) (rest := []) E hml hl.1 (y_settles_v2 l D cI cS τ ρ hW H_18 hT_18 a0 ha0 N hN0 hN1 ⟨p_18_0.1, p_18_0.2.1, p_18_0.2.2.1, p_18_0.2.2.2.1, p_18_0.2.2.2.2.1, p_18_0.2.2.2.2.2⟩) lk_X12_166 yd_X12_settles hT_18 ha0 rfl (by decide) hS_18 (fun q h => (Or.inl h)) ⟨by decide, by decide⟩ (Nat.le_of_ble_eq_true rfl) ⟨by decide, by decide⟩ rfl dX12_say_90 (fun H_19 locs_19 p_19 hT_19 hk_19 hS_19 => ?_)
        have p_19 : (IM D ρ N H_19 a0) ∧ ((ai H_18 (ρ a0 0) 976).toInt ≤ (ai H_19 (ρ a0 0) 976).toInt) := p_19
        obtain ⟨p_19_0, p_19_1⟩ := p_19
        have mn_19 : (ai H_18 (ρ a0 0) 976).toInt ≤ (ai H_19 (ρ a0 0) 976).toInt := by exact p_19_1
        refine lv_aload_n hx hb dX12_say_93 rfl (lv_at hl 0 rfl) ?_
        refine lv_iload_n hx hb dX12_say_94 rfl (lv_at hl 1 rfl) ?_
        refine lv_aload_n hx hb dX12_say_95 rfl (lv_at hl 0 rfl) ?_
        refine lv_iload_n hx hb dX12_say_96 rfl (lv_at hl 1 rfl) ?_
        refine lv_iconst (v := 1) hx hb dX12_say_97 (by decide) ?_
        refine th_Vi (As := [.int 1, .int 1]) (rest := [.int 1, .ref a0]) E hml hl.1 (y_get_v29 l D cI cS τ ρ hW H_19 hT_19 a0 ha0) lk_X12_99 yd_X12_get hT_19 ha0 rfl (by decide) hS_19 (fun _ h => h.elim) ⟨by decide, by decide⟩ (Nat.le_of_ble_eq_true rfl) ⟨by decide, by decide⟩ rfl dX12_say_98 (fun r_20 H_20 locs_20 p_20 hT_20 hk_20 hS_20 => ?_)
        have p_20 : H_19 = H_20 ∧ (ai H_19 (ρ a0 0) 289 = r_20) := p_20
        obtain ⟨rfl, p_20_0⟩ := p_20
        have b_r_20 : 0 ≤ r_20.toInt ∧ r_20.toInt ≤ N + 2 := by rw [← p_20_0]; exact p_19_0.1 289 (by decide)
        have c_r_20 := congrArg Int32.toInt p_20_0
        refine th_Vi (As := [.int 1, .int r_20]) (rest := []) E hml hl.1 (y_saidFrom_v2 l D cI cS τ ρ hW H_19 hT_20 a0 r_20 ha0 N hN0 hN1 ⟨p_19_0.1, p_19_0.2.1, p_19_0.2.2.1, p_19_0.2.2.2.1, p_19_0.2.2.2.2.1, p_19_0.2.2.2.2.2⟩ (by omega)) lk_X12_109 yd_X12_saidFrom hT_20 ha0 rfl (by decide) hS_20 (fun _ h => h.elim) ⟨by decide, by decide⟩ (Nat.le_of_ble_eq_true rfl) ⟨by decide, by decide⟩ rfl dX12_say_101 (fun r_21 H_21 locs_21 p_21 hT_21 hk_21 hS_21 => ?_)
        have p_21 : H_19 = H_21 ∧ (0 ≤ r_21.toInt ∧ (r_21.toInt = 0 ∨ (1 ≤ r_20.toInt ∧ r_21.toInt = (ai H_19 (ρ a0 0) 292).toInt + 1 - r_20.toInt) ∨ (r_20.toInt < 1 ∧ r_21.toInt = (ai H_19 (ρ a0 0) 292).toInt)) ∧ (ai H_19 (ρ a0 0) 292).toInt ≤ N) := p_21
        obtain ⟨rfl, p_21_0⟩ := p_21
        exact th_iret E hr hlk hs hT_21 hS_21 ⟨p_19_0.1, p_19_0.2.1, p_19_0.2.2.1, p_19_0.2.2.2.1, p_19_0.2.2.2.2.1, p_19_0.2.2.2.2.2⟩ dX12_say_104
      · have f_10 : r_9.toInt = 32 := r_eq rfl (by decide) c_10
        refine lv_bipush (v := (-3)) hx hb dX12_say_48 (by decide) ?_
        exact th_iret E hr hlk hs hT_9 hS_9 ⟨hI.1, hI.2.1, hI.2.2.1, hI.2.2.2.1, hI.2.2.2.2.1, hI.2.2.2.2.2⟩ dX12_say_50
    · have f_7 : r_6.toInt = 0 := r_eq rfl (by decide) c_7
      refine lv_bipush (v := (-2)) hx hb dX12_say_29 (by decide) ?_
      exact th_iret E hr hlk hs hT_6 hS_6 ⟨hI.1, hI.2.1, hI.2.2.1, hI.2.2.2.1, hI.2.2.2.2.1, hI.2.2.2.2.2⟩ dX12_say_31
  · have f_5 : r_4.toInt = 0 := r_eq rfl (by decide) c_5
    refine lv_iconst (v := (-1)) hx hb dX12_say_19 (by decide) ?_
    exact th_iret E hr hlk hs hT_4 hS_4 ⟨hI.1, hI.2.1, hI.2.2.1, hI.2.2.2.1, hI.2.2.2.2.1, hI.2.2.2.2.2⟩ dX12_say_20
set_option maxHeartbeats 4000000 in
set_option maxRecDepth 100000 in
/-- the reference: say -/
theorem y_say_v3 (l : Launch) (D : va_G) (cI cS : ClassId) (τ : Nat → Option Nat) (ρ : Nat → Nat → Nat) (hW : WF τ ρ) (H : Heap) (hT : TH D cI cS τ ρ H) (a0 : Nat) (x0 : Int32) (x1 : Int32) (ha0 : τ a0 = some 12) (N : Int) (hN0 : 0 ≤ N) (hN1 : N ≤ 600) (hI : IM D ρ N H a0) (hp0 : x0.toInt < 0 ∨ 1 < x0.toInt) : MI l D cI cS τ ρ yX12_say cX12_say 3 (some .int) 2 45 H [.ref a0, .int x0, .int x1] (fun (r : Int32) (u : Heap) => (IM D ρ N u a0)) (fun q => False) := by
  refine MI.of (by decide) (Nat.le_of_ble_eq_true rfl) ?_
  intro p e s m args below meth c E hml hr hlk hs ls hl
  have hx := E.1
  have hb := E.2.1
  have hown := E.2.2.1
  have hts := E.2.2.2.1
  have hS : SS (fun q => False) H H [] := SS.rf
  have hl : lv_has ls 3 [(0, .ref a0), (1, .int x0), (2, .int x1)] := hl
  have n01 := hI.2.2.2.2.2.1
  have n23 := hI.2.2.2.2.2.2.1
  refine lv_iload_n hx hb dX12_say_0 rfl (lv_at hl 1 rfl) ?_
  refine th_Si (As := [.int x0]) (rest := []) E hml hl.1 (y_isEnd_v3 l D cI cS τ ρ hW H hT x0) lk_X12_160 yd_X12_isEnd hS (fun _ h => h.elim) ⟨by decide, by decide⟩ (Nat.le_of_ble_eq_true rfl) ⟨by decide, by decide⟩ rfl dX12_say_1 (fun r_1 H_1 locs_1 p_1 hT_1 hk_1 hS_1 => ?_)
  have p_1 : H = H_1 ∧ (r_1 = 0 ∨ r_1 = 1) ∧ ((r_1.toInt = 1 ∧ 0 ≤ x0.toInt ∧ x0.toInt ≤ 1) ∨ (r_1.toInt = 0 ∧ (x0.toInt < 0 ∨ 1 < x0.toInt))) := p_1
  obtain ⟨rfl, p_1_0, p_1_1⟩ := p_1
  have z_1 := b_iv p_1_0
  refine lv_if_eq (tgt := 19) hx hb dX12_say_4 (by decide) (fun c_2 => ?_) (fun c_2 => False.elim (by have f_2 : ¬ r_1.toInt = 0 := r_ne rfl (by decide) c_2; omega))
  refine lv_iconst (v := (-1)) hx hb dX12_say_19 (by decide) ?_
  exact th_iret E hr hlk hs hT_1 hS_1 ⟨hI.1, hI.2.1, hI.2.2.1, hI.2.2.2.1, hI.2.2.2.2.1, hI.2.2.2.2.2⟩ dX12_say_20
set_option maxHeartbeats 4000000 in
set_option maxRecDepth 100000 in
/-- the reference: set -/
theorem y_set_v83 (l : Launch) (D : va_G) (cI cS : ClassId) (τ : Nat → Option Nat) (ρ : Nat → Nat → Nat) (hW : WF τ ρ) (H : Heap) (hT : TH D cI cS τ ρ H) (a0 : Nat) (x2 : Int32) (ha0 : τ a0 = some 12) : MV l D cI cS τ ρ yX12_set cX12_set 4 none 0 0 H [.ref a0, .int 0, .int 14, .int x2] (fun (u : Heap) => (AU 985 H u (ρ a0 0) 14 x2)) (fun q => q = ρ a0 0) := by
  refine MV.of (by decide) (Nat.le_of_ble_eq_true rfl) ?_
  intro p e s m args below meth c E hml hr hlk hs ls hl
  have hx := E.1
  have hb := E.2.1
  have hown := E.2.2.1
  have hts := E.2.2.2.1
  have hS : SS (fun q => q = ρ a0 0) H H [] := SS.rf
  have hl : lv_has ls 4 [(0, .ref a0), (1, .int 0), (2, .int 14), (3, .int x2)] := hl
  refine lv_aload_n hx hb dX12_set_0 rfl (lv_at hl 0 rfl) ?_
  refine gf_X12_7 E hT hW ha0 dX12_set_1 (fun h_1 => ?_)
  refine lv_sipush (v := 288) hx hb dX12_set_4 (by decide) ?_
  refine lv_iload_n hx hb dX12_set_7 rfl (lv_at hl 1 rfl) ?_
  refine lv_imul hx hb dX12_set_8 ?_
  refine th_topi (y := 0) (by decide) ?_
  refine lv_iload_n hx hb dX12_set_9 rfl (lv_at hl 2 rfl) ?_
  refine lv_iadd hx hb dX12_set_10 ?_
  refine th_topi (y := 14) (by decide) ?_
  refine lv_iload_n hx hb dX12_set_11 rfl (lv_at hl 3 rfl) ?_
  refine th_iast E hT hS h_1 rfl (by decide) (vp_in_iff.mpr ⟨by decide, by decide⟩) dX12_set_12 (fun H_2 locs_2 hT_2 hU_2 hS_2 => ?_)
  have hU_2 : AU 985 H H_2 (ρ a0 0) 14 x2 := hU_2
  exact th_vret E hr hlk hs hT_2 hS_2 hU_2 dX12_set_13
set_option maxHeartbeats 4000000 in
set_option maxRecDepth 100000 in
/-- the reference: cry -/
theorem y_cry (l : Launch) (D : va_G) (cI cS : ClassId) (τ : Nat → Option Nat) (ρ : Nat → Nat → Nat) (hW : WF τ ρ) (H : Heap) (hT : TH D cI cS τ ρ H) (a0 : Nat) (ha0 : τ a0 = some 12) (N : Int) (hN0 : 0 ≤ N) (hN1 : N ≤ 600) (hI : IM D ρ N H a0) : MI l D cI cS τ ρ yX12_cry cX12_cry 2 (some .int) 4 88 H [.ref a0, .int 0] (fun (r : Int32) (u : Heap) => (IM D ρ N u a0)) (fun q => q = ρ a0 0) := by
  refine MI.of (by decide) (Nat.le_of_ble_eq_true rfl) ?_
  intro p e s m args below meth c E hml hr hlk hs ls hl
  have hx := E.1
  have hb := E.2.1
  have hown := E.2.2.1
  have hts := E.2.2.2.1
  have hS : SS (fun q => q = ρ a0 0) H H [] := SS.rf
  have hl : lv_has ls 2 [(0, .ref a0), (1, .int 0)] := hl
  have n01 := hI.2.2.2.2.2.1
  have n23 := hI.2.2.2.2.2.2.1
  refine lv_iload_n hx hb dX12_cry_0 rfl (lv_at hl 1 rfl) ?_
  refine th_Si (As := [.int 0]) (rest := []) E hml hl.1 (y_isEnd l D cI cS τ ρ hW H hT) lk_X12_160 yd_X12_isEnd hS (fun _ h => h.elim) ⟨by decide, by decide⟩ (Nat.le_of_ble_eq_true rfl) ⟨by decide, by decide⟩ rfl dX12_cry_1 (fun r_1 H_1 locs_1 p_1 hT_1 hk_1 hS_1 => ?_)
  have p_1 : H = H_1 ∧ (r_1 = 0 ∨ r_1 = 1) ∧ ((r_1.toInt = 1 ∧ 0 ≤ 0 ∧ 0 ≤ 1) ∨ (r_1.toInt = 0 ∧ (0 < 0 ∨ 1 < 0))) := p_1
  obtain ⟨rfl, p_1_0, p_1_1⟩ := p_1
  have z_1 := b_iv p_1_0
  refine lv_if_ne (tgt := 9) hx hb dX12_cry_4 (by decide) (fun c_2 => ?_) (fun c_2 => False.elim (by have f_2 : r_1.toInt = 0 := r_eq rfl (by decide) c_2; omega))
  refine lv_aload_n hx hb dX12_cry_9 rfl (lv_at hl 0 rfl) ?_
  refine lv_iload_n hx hb dX12_cry_10 rfl (lv_at hl 1 rfl) ?_
  refine th_Vi (As := [.int 0]) (rest := []) E hml hl.1 (y_maySay l D cI cS τ ρ hW H hT_1 a0 ha0) lk_X12_174 yd_X12_maySay hT_1 ha0 rfl (by decide) hS_1 (fun _ h => h.elim) ⟨by decide, by decide⟩ (Nat.le_of_ble_eq_true rfl) ⟨by decide, by decide⟩ rfl dX12_cry_11 (fun r_3 H_3 locs_3 p_3 hT_3 hk_3 hS_3 => ?_)
  have p_3 : H = H_3 ∧ (r_3 = 0 ∨ r_3 = 1) := p_3
  obtain ⟨rfl, p_3_0⟩ := p_3
  have z_3 := b_iv p_3_0
  refine lv_if_eq (tgt := 26) hx hb dX12_cry_14 (by decide) (fun c_4 => ?_) (fun c_4 => ?_)
  · have f_4 : r_3.toInt = 0 := r_eq rfl (by decide) c_4
    refine lv_bipush (v := (-2)) hx hb dX12_cry_26 (by decide) ?_
    exact th_iret E hr hlk hs hT_3 hS_3 ⟨hI.1, hI.2.1, hI.2.2.1, hI.2.2.2.1, hI.2.2.2.2.1, hI.2.2.2.2.2⟩ dX12_cry_28
  · have f_4 : ¬ r_3.toInt = 0 := r_ne rfl (by decide) c_4
    have nz_r_3 : ¬ r_3 = 0 := c_4
    refine lv_aload_n hx hb dX12_cry_17 rfl (lv_at hl 0 rfl) ?_
    refine lv_iload_n hx hb dX12_cry_18 rfl (lv_at hl 1 rfl) ?_
    refine lv_iconst (v := 4) hx hb dX12_cry_19 (by decide) ?_
    refine th_Vi (As := [.int 0, .int 4]) (rest := []) E hml hl.1 (y_get_v24 l D cI cS τ ρ hW H hT_3 a0 ha0) lk_X12_99 yd_X12_get hT_3 ha0 rfl (by decide) hS_3 (fun _ h => h.elim) ⟨by decide, by decide⟩ (Nat.le_of_ble_eq_true rfl) ⟨by decide, by decide⟩ rfl dX12_cry_20 (fun r_5 H_5 locs_5 p_5 hT_5 hk_5 hS_5 => ?_)
    have p_5 : H = H_5 ∧ (ai H (ρ a0 0) 4 = r_5) := p_5
    obtain ⟨rfl, p_5_0⟩ := p_5
    have b_r_5 : 0 ≤ r_5.toInt ∧ r_5.toInt ≤ N := by rw [← p_5_0]; exact hI.1 4 (by decide)
    have c_r_5 := congrArg Int32.toInt p_5_0
    refine lv_if_ne (tgt := 29) hx hb dX12_cry_23 (by decide) (fun c_6 => ?_) (fun c_6 => ?_)
    · have f_6 : ¬ r_5.toInt = 0 := r_ne rfl (by decide) c_6
      have nz_r_5 : ¬ r_5 = 0 := c_6
      refine lv_aload_n hx hb dX12_cry_29 rfl (lv_at hl 0 rfl) ?_
      refine lv_iload_n hx hb dX12_cry_30 rfl (lv_at hl 1 rfl) ?_
      refine lv_bipush (v := 14) hx hb dX12_cry_31 (by decide) ?_
      refine lv_aload_n hx hb dX12_cry_33 rfl (lv_at hl 0 rfl) ?_
      refine lv_iload_n hx hb dX12_cry_34 rfl (lv_at hl 1 rfl) ?_
      refine lv_iconst (v := 4) hx hb dX12_cry_35 (by decide) ?_
      refine th_Vi (As := [.int 0, .int 4]) (rest := [.int 14, .int 0, .ref a0]) E hml hl.1 (y_get_v24 l D cI cS τ ρ hW H hT_5 a0 ha0) lk_X12_99 yd_X12_get hT_5 ha0 rfl (by decide) hS_5 (fun _ h => h.elim) ⟨by decide, by decide⟩ (Nat.le_of_ble_eq_true rfl) ⟨by decide, by decide⟩ rfl dX12_cry_36 (fun r_7 H_7 locs_7 p_7 hT_7 hk_7 hS_7 => ?_)
      have p_7 : H = H_7 ∧ (ai H (ρ a0 0) 4 = r_7) := p_7
      obtain ⟨rfl, p_7_0⟩ := p_7
      have s_7 : r_7 = r_5 := p_7_0.symm.trans p_5_0
      refine th_topi s_7 ?_
      refine lv_iconst (v := 1) hx hb dX12_cry_39 (by decide) ?_
      refine lv_iadd hx hb dX12_cry_40 ?_
      refine lv_topi (fun x_8 ex_8 => ?_)
      have q_8 : x_8.toInt = r_5.toInt + 1 := i_pl rfl (by decide) ex_8 (by omega) (by omega)
      refine th_Vv (As := [.int 0, .int 14, .int x_8]) (rest := []) E hml hl.1 (y_set_v83 l D cI cS τ ρ hW H hT_7 a0 x_8 ha0) lk_X12_95 yd_X12_set hT_7 ha0 rfl (by decide) hS_7 (fun q h => h) ⟨by decide, by decide⟩ (Nat.le_of_ble_eq_true rfl) ⟨by decide, by decide⟩ rfl dX12_cry_41 (fun H_9 locs_9 p_9 hT_9 hk_9 hS_9 => ?_)
      have p_9 : (AU 985 H H_9 (ρ a0 0) 14 x_8) := p_9
      have hW_9 : PW N H_9 (ρ a0 0) := PW.put hI.1 p_9 (by show (-2147483648 : Int) ≤ _; exact i_min _) (by show _ ≤ (2147483647 : Int); exact i_max _)
      refine lv_aload_n hx hb dX12_cry_44 rfl (lv_at hl 0 rfl) ?_
      refine lv_iload_n hx hb dX12_cry_45 rfl (lv_at hl 1 rfl) ?_
      refine th_Vv (As := [.int 0]) (rest := []) E hml hl.1 (y_settles l D cI cS τ ρ hW H_9 hT_9 a0 ha0 N hN0 hN1 ⟨hW_9, (QS.same (AU.o p_9 (by decide) (by decide)) (AU.o p_9 (by decide) (by decide)) hI.2.1), (QS.same (AU.o p_9 (by decide) (by decide)) (AU.o p_9 (by decide) (by decide)) hI.2.2.1), (PL.q (p_9.2 _ (th_ne (hW _ 12 2 ha0 (by decide) (by decide) (by decide)) (hW _ 12 0 ha0 (by decide) (by decide) (by decide)) (by decide))) hI.2.2.2.1), (PL.q (p_9.2 _ (th_ne (hW _ 12 3 ha0 (by decide) (by decide) (by decide)) (hW _ 12 0 ha0 (by decide) (by decide) (by decide)) (by decide))) hI.2.2.2.2.1), (IF.q (p_9.2 _ (th_ne ha0 (hW _ 12 0 ha0 (by decide) (by decide) (by decide)) (by decide))) hI.2.2.2.2.2)⟩) lk_X12_166 yd_X12_settles hT_9 ha0 rfl (by decide) hS_9 (fun q h => h) ⟨by decide, by decide⟩ (Nat.le_of_ble_eq_true rfl) ⟨by decide, by decide⟩ rfl dX12_cry_46 (fun H_10 locs_10 p_10 hT_10 hk_10 hS_10 => ?_)
      have p_10 : (IM D ρ N H_10 a0) ∧ ((ai H_9 (ρ a0 0) 976).toInt ≤ (ai H_10 (ρ a0 0) 976).toInt) := p_10
      obtain ⟨p_10_0, p_10_1⟩ := p_10
      have mn_10 : (ai H (ρ a0 0) 976).toInt ≤ (ai H_10 (ρ a0 0) 976).toInt := by have h := p_10_1; rw [(AU.o p_9 (by decide) (by decide))] at h; exact h
      refine lv_aload_n hx hb dX12_cry_49 rfl (lv_at hl 0 rfl) ?_
      refine lv_iload_n hx hb dX12_cry_50 rfl (lv_at hl 1 rfl) ?_
      refine lv_bipush (v := 14) hx hb dX12_cry_51 (by decide) ?_
      refine th_Vi (As := [.int 0, .int 14]) (rest := []) E hml hl.1 (y_get_v25 l D cI cS τ ρ hW H_10 hT_10 a0 ha0) lk_X12_99 yd_X12_get hT_10 ha0 rfl (by decide) hS_10 (fun _ h => h.elim) ⟨by decide, by decide⟩ (Nat.le_of_ble_eq_true rfl) ⟨by decide, by decide⟩ rfl dX12_cry_53 (fun r_11 H_11 locs_11 p_11 hT_11 hk_11 hS_11 => ?_)
      have p_11 : H_10 = H_11 ∧ (ai H_10 (ρ a0 0) 14 = r_11) := p_11
      obtain ⟨rfl, p_11_0⟩ := p_11
      have c_r_11 := congrArg Int32.toInt p_11_0
      exact th_iret E hr hlk hs hT_11 hS_11 ⟨p_10_0.1, p_10_0.2.1, p_10_0.2.2.1, p_10_0.2.2.2.1, p_10_0.2.2.2.2.1, p_10_0.2.2.2.2.2⟩ dX12_cry_56
    · have f_6 : r_5.toInt = 0 := r_eq rfl (by decide) c_6
      refine lv_bipush (v := (-2)) hx hb dX12_cry_26 (by decide) ?_
      exact th_iret E hr hlk hs hT_5 hS_5 ⟨hI.1, hI.2.1, hI.2.2.1, hI.2.2.2.1, hI.2.2.2.2.1, hI.2.2.2.2.2⟩ dX12_cry_28
set_option maxHeartbeats 4000000 in
set_option maxRecDepth 100000 in
/-- the reference: set -/
theorem y_set_v84 (l : Launch) (D : va_G) (cI cS : ClassId) (τ : Nat → Option Nat) (ρ : Nat → Nat → Nat) (hW : WF τ ρ) (H : Heap) (hT : TH D cI cS τ ρ H) (a0 : Nat) (x2 : Int32) (ha0 : τ a0 = some 12) : MV l D cI cS τ ρ yX12_set cX12_set 4 none 0 0 H [.ref a0, .int 1, .int 14, .int x2] (fun (u : Heap) => (AU 985 H u (ρ a0 0) 302 x2)) (fun q => q = ρ a0 0) := by
  refine MV.of (by decide) (Nat.le_of_ble_eq_true rfl) ?_
  intro p e s m args below meth c E hml hr hlk hs ls hl
  have hx := E.1
  have hb := E.2.1
  have hown := E.2.2.1
  have hts := E.2.2.2.1
  have hS : SS (fun q => q = ρ a0 0) H H [] := SS.rf
  have hl : lv_has ls 4 [(0, .ref a0), (1, .int 1), (2, .int 14), (3, .int x2)] := hl
  refine lv_aload_n hx hb dX12_set_0 rfl (lv_at hl 0 rfl) ?_
  refine gf_X12_7 E hT hW ha0 dX12_set_1 (fun h_1 => ?_)
  refine lv_sipush (v := 288) hx hb dX12_set_4 (by decide) ?_
  refine lv_iload_n hx hb dX12_set_7 rfl (lv_at hl 1 rfl) ?_
  refine lv_imul hx hb dX12_set_8 ?_
  refine th_topi (y := 288) (by decide) ?_
  refine lv_iload_n hx hb dX12_set_9 rfl (lv_at hl 2 rfl) ?_
  refine lv_iadd hx hb dX12_set_10 ?_
  refine th_topi (y := 302) (by decide) ?_
  refine lv_iload_n hx hb dX12_set_11 rfl (lv_at hl 3 rfl) ?_
  refine th_iast E hT hS h_1 rfl (by decide) (vp_in_iff.mpr ⟨by decide, by decide⟩) dX12_set_12 (fun H_2 locs_2 hT_2 hU_2 hS_2 => ?_)
  have hU_2 : AU 985 H H_2 (ρ a0 0) 302 x2 := hU_2
  exact th_vret E hr hlk hs hT_2 hS_2 hU_2 dX12_set_13
set_option maxHeartbeats 4000000 in
set_option maxRecDepth 100000 in
/-- the reference: cry -/
theorem y_cry_v2 (l : Launch) (D : va_G) (cI cS : ClassId) (τ : Nat → Option Nat) (ρ : Nat → Nat → Nat) (hW : WF τ ρ) (H : Heap) (hT : TH D cI cS τ ρ H) (a0 : Nat) (ha0 : τ a0 = some 12) (N : Int) (hN0 : 0 ≤ N) (hN1 : N ≤ 600) (hI : IM D ρ N H a0) : MI l D cI cS τ ρ yX12_cry cX12_cry 2 (some .int) 4 88 H [.ref a0, .int 1] (fun (r : Int32) (u : Heap) => (IM D ρ N u a0)) (fun q => q = ρ a0 0) := by
  refine MI.of (by decide) (Nat.le_of_ble_eq_true rfl) ?_
  intro p e s m args below meth c E hml hr hlk hs ls hl
  have hx := E.1
  have hb := E.2.1
  have hown := E.2.2.1
  have hts := E.2.2.2.1
  have hS : SS (fun q => q = ρ a0 0) H H [] := SS.rf
  have hl : lv_has ls 2 [(0, .ref a0), (1, .int 1)] := hl
  have n01 := hI.2.2.2.2.2.1
  have n23 := hI.2.2.2.2.2.2.1
  refine lv_iload_n hx hb dX12_cry_0 rfl (lv_at hl 1 rfl) ?_
  refine th_Si (As := [.int 1]) (rest := []) E hml hl.1 (y_isEnd_v2 l D cI cS τ ρ hW H hT) lk_X12_160 yd_X12_isEnd hS (fun _ h => h.elim) ⟨by decide, by decide⟩ (Nat.le_of_ble_eq_true rfl) ⟨by decide, by decide⟩ rfl dX12_cry_1 (fun r_1 H_1 locs_1 p_1 hT_1 hk_1 hS_1 => ?_)
  have p_1 : H = H_1 ∧ (r_1 = 0 ∨ r_1 = 1) ∧ ((r_1.toInt = 1 ∧ 0 ≤ 1 ∧ 1 ≤ 1) ∨ (r_1.toInt = 0 ∧ (1 < 0 ∨ 1 < 1))) := p_1
  obtain ⟨rfl, p_1_0, p_1_1⟩ := p_1
  have z_1 := b_iv p_1_0
  refine lv_if_ne (tgt := 9) hx hb dX12_cry_4 (by decide) (fun c_2 => ?_) (fun c_2 => False.elim (by have f_2 : r_1.toInt = 0 := r_eq rfl (by decide) c_2; omega))
  refine lv_aload_n hx hb dX12_cry_9 rfl (lv_at hl 0 rfl) ?_
  refine lv_iload_n hx hb dX12_cry_10 rfl (lv_at hl 1 rfl) ?_
  refine th_Vi (As := [.int 1]) (rest := []) E hml hl.1 (y_maySay_v2 l D cI cS τ ρ hW H hT_1 a0 ha0) lk_X12_174 yd_X12_maySay hT_1 ha0 rfl (by decide) hS_1 (fun _ h => h.elim) ⟨by decide, by decide⟩ (Nat.le_of_ble_eq_true rfl) ⟨by decide, by decide⟩ rfl dX12_cry_11 (fun r_3 H_3 locs_3 p_3 hT_3 hk_3 hS_3 => ?_)
  have p_3 : H = H_3 ∧ (r_3 = 0 ∨ r_3 = 1) := p_3
  obtain ⟨rfl, p_3_0⟩ := p_3
  have z_3 := b_iv p_3_0
  refine lv_if_eq (tgt := 26) hx hb dX12_cry_14 (by decide) (fun c_4 => ?_) (fun c_4 => ?_)
  · have f_4 : r_3.toInt = 0 := r_eq rfl (by decide) c_4
    refine lv_bipush (v := (-2)) hx hb dX12_cry_26 (by decide) ?_
    exact th_iret E hr hlk hs hT_3 hS_3 ⟨hI.1, hI.2.1, hI.2.2.1, hI.2.2.2.1, hI.2.2.2.2.1, hI.2.2.2.2.2⟩ dX12_cry_28
  · have f_4 : ¬ r_3.toInt = 0 := r_ne rfl (by decide) c_4
    have nz_r_3 : ¬ r_3 = 0 := c_4
    refine lv_aload_n hx hb dX12_cry_17 rfl (lv_at hl 0 rfl) ?_
    refine lv_iload_n hx hb dX12_cry_18 rfl (lv_at hl 1 rfl) ?_
    refine lv_iconst (v := 4) hx hb dX12_cry_19 (by decide) ?_
    refine th_Vi (As := [.int 1, .int 4]) (rest := []) E hml hl.1 (y_get_v33 l D cI cS τ ρ hW H hT_3 a0 ha0) lk_X12_99 yd_X12_get hT_3 ha0 rfl (by decide) hS_3 (fun _ h => h.elim) ⟨by decide, by decide⟩ (Nat.le_of_ble_eq_true rfl) ⟨by decide, by decide⟩ rfl dX12_cry_20 (fun r_5 H_5 locs_5 p_5 hT_5 hk_5 hS_5 => ?_)
    have p_5 : H = H_5 ∧ (ai H (ρ a0 0) 292 = r_5) := p_5
    obtain ⟨rfl, p_5_0⟩ := p_5
    have b_r_5 : 0 ≤ r_5.toInt ∧ r_5.toInt ≤ N := by rw [← p_5_0]; exact hI.1 292 (by decide)
    have c_r_5 := congrArg Int32.toInt p_5_0
    refine lv_if_ne (tgt := 29) hx hb dX12_cry_23 (by decide) (fun c_6 => ?_) (fun c_6 => ?_)
    · have f_6 : ¬ r_5.toInt = 0 := r_ne rfl (by decide) c_6
      have nz_r_5 : ¬ r_5 = 0 := c_6
      refine lv_aload_n hx hb dX12_cry_29 rfl (lv_at hl 0 rfl) ?_
      refine lv_iload_n hx hb dX12_cry_30 rfl (lv_at hl 1 rfl) ?_
      refine lv_bipush (v := 14) hx hb dX12_cry_31 (by decide) ?_
      refine lv_aload_n hx hb dX12_cry_33 rfl (lv_at hl 0 rfl) ?_
      refine lv_iload_n hx hb dX12_cry_34 rfl (lv_at hl 1 rfl) ?_
      refine lv_iconst (v := 4) hx hb dX12_cry_35 (by decide) ?_
      refine th_Vi (As := [.int 1, .int 4]) (rest := [.int 14, .int 1, .ref a0]) E hml hl.1 (y_get_v33 l D cI cS τ ρ hW H hT_5 a0 ha0) lk_X12_99 yd_X12_get hT_5 ha0 rfl (by decide) hS_5 (fun _ h => h.elim) ⟨by decide, by decide⟩ (Nat.le_of_ble_eq_true rfl) ⟨by decide, by decide⟩ rfl dX12_cry_36 (fun r_7 H_7 locs_7 p_7 hT_7 hk_7 hS_7 => ?_)
      have p_7 : H = H_7 ∧ (ai H (ρ a0 0) 292 = r_7) := p_7
      obtain ⟨rfl, p_7_0⟩ := p_7
      have s_7 : r_7 = r_5 := p_7_0.symm.trans p_5_0
      refine th_topi s_7 ?_
      refine lv_iconst (v := 1) hx hb dX12_cry_39 (by decide) ?_
      refine lv_iadd hx hb dX12_cry_40 ?_
      refine lv_topi (fun x_8 ex_8 => ?_)
      have q_8 : x_8.toInt = r_5.toInt + 1 := i_pl rfl (by decide) ex_8 (by omega) (by omega)
      refine th_Vv (As := [.int 1, .int 14, .int x_8]) (rest := []) E hml hl.1 (y_set_v84 l D cI cS τ ρ hW H hT_7 a0 x_8 ha0) lk_X12_95 yd_X12_set hT_7 ha0 rfl (by decide) hS_7 (fun q h => h) ⟨by decide, by decide⟩ (Nat.le_of_ble_eq_true rfl) ⟨by decide, by decide⟩ rfl dX12_cry_41 (fun H_9 locs_9 p_9 hT_9 hk_9 hS_9 => ?_)
      have p_9 : (AU 985 H H_9 (ρ a0 0) 302 x_8) := p_9
      have hW_9 : PW N H_9 (ρ a0 0) := PW.put hI.1 p_9 (by show (-2147483648 : Int) ≤ _; exact i_min _) (by show _ ≤ (2147483647 : Int); exact i_max _)
      refine lv_aload_n hx hb dX12_cry_44 rfl (lv_at hl 0 rfl) ?_
      refine lv_iload_n hx hb dX12_cry_45 rfl (lv_at hl 1 rfl) ?_
      refine th_Vv (As := [.int 1]) (rest := []) E hml hl.1 (y_settles_v2 l D cI cS τ ρ hW H_9 hT_9 a0 ha0 N hN0 hN1 ⟨hW_9, (QS.same (AU.o p_9 (by decide) (by decide)) (AU.o p_9 (by decide) (by decide)) hI.2.1), (QS.same (AU.o p_9 (by decide) (by decide)) (AU.o p_9 (by decide) (by decide)) hI.2.2.1), (PL.q (p_9.2 _ (th_ne (hW _ 12 2 ha0 (by decide) (by decide) (by decide)) (hW _ 12 0 ha0 (by decide) (by decide) (by decide)) (by decide))) hI.2.2.2.1), (PL.q (p_9.2 _ (th_ne (hW _ 12 3 ha0 (by decide) (by decide) (by decide)) (hW _ 12 0 ha0 (by decide) (by decide) (by decide)) (by decide))) hI.2.2.2.2.1), (IF.q (p_9.2 _ (th_ne ha0 (hW _ 12 0 ha0 (by decide) (by decide) (by decide)) (by decide))) hI.2.2.2.2.2)⟩) lk_X12_166 yd_X12_settles hT_9 ha0 rfl (by decide) hS_9 (fun q h => h) ⟨by decide, by decide⟩ (Nat.le_of_ble_eq_true rfl) ⟨by decide, by decide⟩ rfl dX12_cry_46 (fun H_10 locs_10 p_10 hT_10 hk_10 hS_10 => ?_)
      have p_10 : (IM D ρ N H_10 a0) ∧ ((ai H_9 (ρ a0 0) 976).toInt ≤ (ai H_10 (ρ a0 0) 976).toInt) := p_10
      obtain ⟨p_10_0, p_10_1⟩ := p_10
      have mn_10 : (ai H (ρ a0 0) 976).toInt ≤ (ai H_10 (ρ a0 0) 976).toInt := by have h := p_10_1; rw [(AU.o p_9 (by decide) (by decide))] at h; exact h
      refine lv_aload_n hx hb dX12_cry_49 rfl (lv_at hl 0 rfl) ?_
      refine lv_iload_n hx hb dX12_cry_50 rfl (lv_at hl 1 rfl) ?_
      refine lv_bipush (v := 14) hx hb dX12_cry_51 (by decide) ?_
      refine th_Vi (As := [.int 1, .int 14]) (rest := []) E hml hl.1 (y_get_v35 l D cI cS τ ρ hW H_10 hT_10 a0 ha0) lk_X12_99 yd_X12_get hT_10 ha0 rfl (by decide) hS_10 (fun _ h => h.elim) ⟨by decide, by decide⟩ (Nat.le_of_ble_eq_true rfl) ⟨by decide, by decide⟩ rfl dX12_cry_53 (fun r_11 H_11 locs_11 p_11 hT_11 hk_11 hS_11 => ?_)
      have p_11 : H_10 = H_11 ∧ (ai H_10 (ρ a0 0) 302 = r_11) := p_11
      obtain ⟨rfl, p_11_0⟩ := p_11
      have c_r_11 := congrArg Int32.toInt p_11_0
      exact th_iret E hr hlk hs hT_11 hS_11 ⟨p_10_0.1, p_10_0.2.1, p_10_0.2.2.1, p_10_0.2.2.2.1, p_10_0.2.2.2.2.1, p_10_0.2.2.2.2.2⟩ dX12_cry_56
    · have f_6 : r_5.toInt = 0 := r_eq rfl (by decide) c_6
      refine lv_bipush (v := (-2)) hx hb dX12_cry_26 (by decide) ?_
      exact th_iret E hr hlk hs hT_5 hS_5 ⟨hI.1, hI.2.1, hI.2.2.1, hI.2.2.2.1, hI.2.2.2.2.1, hI.2.2.2.2.2⟩ dX12_cry_28
set_option maxHeartbeats 4000000 in
set_option maxRecDepth 100000 in
/-- the reference: cry -/
theorem y_cry_v3 (l : Launch) (D : va_G) (cI cS : ClassId) (τ : Nat → Option Nat) (ρ : Nat → Nat → Nat) (hW : WF τ ρ) (H : Heap) (hT : TH D cI cS τ ρ H) (a0 : Nat) (x0 : Int32) (ha0 : τ a0 = some 12) (N : Int) (hN0 : 0 ≤ N) (hN1 : N ≤ 600) (hI : IM D ρ N H a0) (hp0 : x0.toInt < 0 ∨ 1 < x0.toInt) : MI l D cI cS τ ρ yX12_cry cX12_cry 2 (some .int) 2 45 H [.ref a0, .int x0] (fun (r : Int32) (u : Heap) => (IM D ρ N u a0)) (fun q => False) := by
  refine MI.of (by decide) (Nat.le_of_ble_eq_true rfl) ?_
  intro p e s m args below meth c E hml hr hlk hs ls hl
  have hx := E.1
  have hb := E.2.1
  have hown := E.2.2.1
  have hts := E.2.2.2.1
  have hS : SS (fun q => False) H H [] := SS.rf
  have hl : lv_has ls 2 [(0, .ref a0), (1, .int x0)] := hl
  have n01 := hI.2.2.2.2.2.1
  have n23 := hI.2.2.2.2.2.2.1
  refine lv_iload_n hx hb dX12_cry_0 rfl (lv_at hl 1 rfl) ?_
  refine th_Si (As := [.int x0]) (rest := []) E hml hl.1 (y_isEnd_v3 l D cI cS τ ρ hW H hT x0) lk_X12_160 yd_X12_isEnd hS (fun _ h => h.elim) ⟨by decide, by decide⟩ (Nat.le_of_ble_eq_true rfl) ⟨by decide, by decide⟩ rfl dX12_cry_1 (fun r_1 H_1 locs_1 p_1 hT_1 hk_1 hS_1 => ?_)
  have p_1 : H = H_1 ∧ (r_1 = 0 ∨ r_1 = 1) ∧ ((r_1.toInt = 1 ∧ 0 ≤ x0.toInt ∧ x0.toInt ≤ 1) ∨ (r_1.toInt = 0 ∧ (x0.toInt < 0 ∨ 1 < x0.toInt))) := p_1
  obtain ⟨rfl, p_1_0, p_1_1⟩ := p_1
  have z_1 := b_iv p_1_0
  refine lv_if_ne (tgt := 9) hx hb dX12_cry_4 (by decide) (fun c_2 => False.elim (by have f_2 : ¬ r_1.toInt = 0 := r_ne rfl (by decide) c_2; omega)) (fun c_2 => ?_)
  refine lv_iconst (v := (-1)) hx hb dX12_cry_7 (by decide) ?_
  exact th_iret E hr hlk hs hT_1 hS_1 ⟨hI.1, hI.2.1, hI.2.2.1, hI.2.2.2.1, hI.2.2.2.2.1, hI.2.2.2.2.2⟩ dX12_cry_8
set_option maxHeartbeats 4000000 in
set_option maxRecDepth 100000 in
/-- the reference: isIn -/
theorem y_isIn_v5 (l : Launch) (D : va_G) (cI cS : ClassId) (τ : Nat → Option Nat) (ρ : Nat → Nat → Nat) (hW : WF τ ρ) (H : Heap) (hT : TH D cI cS τ ρ H) (a0 : Nat) (ha0 : τ a0 = some 12) : MI l D cI cS τ ρ yX12_isIn cX12_isIn 4 (some .boolean) 1 22 H [.ref a0, .int 0, .int 1, .int 2] (fun (r : Int32) (u : Heap) => (H = u) ∧ (r = 0 ∨ r = 1) ∧ ((r.toInt = 1 ∧ ((ai H (ρ a0 0) 0).toInt = 1 ∨ (ai H (ρ a0 0) 0).toInt = 2)) ∨ (r.toInt = 0 ∧ ¬ (ai H (ρ a0 0) 0).toInt = 1 ∧ ¬ (ai H (ρ a0 0) 0).toInt = 2))) (fun q => False) := by
  refine MI.of (by decide) (Nat.le_of_ble_eq_true rfl) ?_
  intro p e s m args below meth c E hml hr hlk hs ls hl
  have hx := E.1
  have hb := E.2.1
  have hown := E.2.2.1
  have hts := E.2.2.2.1
  have hS : SS (fun q => False) H H [] := SS.rf
  have hl : lv_has ls 4 [(0, .ref a0), (1, .int 0), (2, .int 1), (3, .int 2)] := hl
  refine lv_aload_n hx hb dX12_isIn_0 rfl (lv_at hl 0 rfl) ?_
  refine lv_iload_n hx hb dX12_isIn_1 rfl (lv_at hl 1 rfl) ?_
  refine lv_iconst (v := 0) hx hb dX12_isIn_2 (by decide) ?_
  refine th_Vi (As := [.int 0, .int 0]) (rest := []) E hml hl.1 (y_get_v21 l D cI cS τ ρ hW H hT a0 ha0) lk_X12_99 yd_X12_get hT ha0 rfl (by decide) hS (fun _ h => h.elim) ⟨by decide, by decide⟩ (Nat.le_of_ble_eq_true rfl) ⟨by decide, by decide⟩ rfl dX12_isIn_3 (fun r_1 H_1 locs_1 p_1 hT_1 hk_1 hS_1 => ?_)
  have p_1 : H = H_1 ∧ (ai H (ρ a0 0) 0 = r_1) := p_1
  obtain ⟨rfl, p_1_0⟩ := p_1
  have c_r_1 := congrArg Int32.toInt p_1_0
  refine lv_iload_n hx hb dX12_isIn_6 rfl (lv_at hl 2 rfl) ?_
  refine lv_icmp_eq (tgt := 20) hx hb dX12_isIn_7 (by decide) (fun c_2 => ?_) (fun c_2 => ?_)
  · have f_2 : r_1.toInt = 1 := r_eq rfl (by decide) c_2
    refine lv_iconst (v := 1) hx hb dX12_isIn_20 (by decide) ?_
    refine lv_goto (tgt := 25) hx hb dX12_isIn_21 (by decide) ?_
    exact th_zret E hr hlk hs (Or.inr rfl) hT_1 hS_1 ⟨rfl, (Or.inr rfl), (by have : (1 : Int32).toInt = 1 := (by decide); have : (ai H (ρ a0 0) 0).toInt = (r_1 : Int32).toInt := congrArg Int32.toInt p_1_0; omega)⟩ dX12_isIn_25
  · have f_2 : ¬ r_1.toInt = 1 := r_ne rfl (by decide) c_2
    refine lv_aload_n hx hb dX12_isIn_10 rfl (lv_at hl 0 rfl) ?_
    refine lv_iload_n hx hb dX12_isIn_11 rfl (lv_at hl 1 rfl) ?_
    refine lv_iconst (v := 0) hx hb dX12_isIn_12 (by decide) ?_
    refine th_Vi (As := [.int 0, .int 0]) (rest := []) E hml hl.1 (y_get_v21 l D cI cS τ ρ hW H hT_1 a0 ha0) lk_X12_99 yd_X12_get hT_1 ha0 rfl (by decide) hS_1 (fun _ h => h.elim) ⟨by decide, by decide⟩ (Nat.le_of_ble_eq_true rfl) ⟨by decide, by decide⟩ rfl dX12_isIn_13 (fun r_3 H_3 locs_3 p_3 hT_3 hk_3 hS_3 => ?_)
    have p_3 : H = H_3 ∧ (ai H (ρ a0 0) 0 = r_3) := p_3
    obtain ⟨rfl, p_3_0⟩ := p_3
    have s_3 : r_3 = r_1 := p_3_0.symm.trans p_1_0
    refine th_topi s_3 ?_
    refine lv_iload_n hx hb dX12_isIn_16 rfl (lv_at hl 3 rfl) ?_
    refine lv_icmp_ne (tgt := 24) hx hb dX12_isIn_17 (by decide) (fun c_4 => ?_) (fun c_4 => ?_)
    · have f_4 : ¬ r_1.toInt = 2 := r_ne rfl (by decide) c_4
      refine lv_iconst (v := 0) hx hb dX12_isIn_24 (by decide) ?_
      exact th_zret E hr hlk hs (Or.inl rfl) hT_3 hS_3 ⟨rfl, (Or.inl rfl), (by have : (0 : Int32).toInt = 0 := (by decide); have : (ai H (ρ a0 0) 0).toInt = (r_1 : Int32).toInt := congrArg Int32.toInt p_1_0; omega)⟩ dX12_isIn_25
    · have f_4 : r_1.toInt = 2 := r_eq rfl (by decide) c_4
      refine lv_iconst (v := 1) hx hb dX12_isIn_20 (by decide) ?_
      refine lv_goto (tgt := 25) hx hb dX12_isIn_21 (by decide) ?_
      exact th_zret E hr hlk hs (Or.inr rfl) hT_3 hS_3 ⟨rfl, (Or.inr rfl), (by have : (1 : Int32).toInt = 1 := (by decide); have : (ai H (ρ a0 0) 0).toInt = (r_1 : Int32).toInt := congrArg Int32.toInt p_1_0; omega)⟩ dX12_isIn_25
set_option maxHeartbeats 4000000 in
set_option maxRecDepth 100000 in
/-- the reference: set -/
theorem y_set_v85 (l : Launch) (D : va_G) (cI cS : ClassId) (τ : Nat → Option Nat) (ρ : Nat → Nat → Nat) (hW : WF τ ρ) (H : Heap) (hT : TH D cI cS τ ρ H) (a0 : Nat) (ha0 : τ a0 = some 12) : MV l D cI cS τ ρ yX12_set cX12_set 4 none 0 0 H [.ref a0, .int 0, .int 13, .int 1] (fun (u : Heap) => (AU 985 H u (ρ a0 0) 13 (1))) (fun q => q = ρ a0 0) := by
  refine MV.of (by decide) (Nat.le_of_ble_eq_true rfl) ?_
  intro p e s m args below meth c E hml hr hlk hs ls hl
  have hx := E.1
  have hb := E.2.1
  have hown := E.2.2.1
  have hts := E.2.2.2.1
  have hS : SS (fun q => q = ρ a0 0) H H [] := SS.rf
  have hl : lv_has ls 4 [(0, .ref a0), (1, .int 0), (2, .int 13), (3, .int 1)] := hl
  refine lv_aload_n hx hb dX12_set_0 rfl (lv_at hl 0 rfl) ?_
  refine gf_X12_7 E hT hW ha0 dX12_set_1 (fun h_1 => ?_)
  refine lv_sipush (v := 288) hx hb dX12_set_4 (by decide) ?_
  refine lv_iload_n hx hb dX12_set_7 rfl (lv_at hl 1 rfl) ?_
  refine lv_imul hx hb dX12_set_8 ?_
  refine th_topi (y := 0) (by decide) ?_
  refine lv_iload_n hx hb dX12_set_9 rfl (lv_at hl 2 rfl) ?_
  refine lv_iadd hx hb dX12_set_10 ?_
  refine th_topi (y := 13) (by decide) ?_
  refine lv_iload_n hx hb dX12_set_11 rfl (lv_at hl 3 rfl) ?_
  refine th_iast E hT hS h_1 rfl (by decide) (vp_in_iff.mpr ⟨by decide, by decide⟩) dX12_set_12 (fun H_2 locs_2 hT_2 hU_2 hS_2 => ?_)
  have hU_2 : AU 985 H H_2 (ρ a0 0) 13 (1) := hU_2
  exact th_vret E hr hlk hs hT_2 hS_2 hU_2 dX12_set_13
set_option maxHeartbeats 4000000 in
set_option maxRecDepth 100000 in
/-- the reference: leave -/
theorem y_leave (l : Launch) (D : va_G) (cI cS : ClassId) (τ : Nat → Option Nat) (ρ : Nat → Nat → Nat) (hW : WF τ ρ) (H : Heap) (hT : TH D cI cS τ ρ H) (a0 : Nat) (ha0 : τ a0 = some 12) (N : Int) (hN0 : 0 ≤ N) (hN1 : N ≤ 600) (hI : IM D ρ N H a0) : MI l D cI cS τ ρ yX12_leave cX12_leave 2 (some .int) 9 212 H [.ref a0, .int 0] (fun (r : Int32) (u : Heap) => (IM D ρ N u a0)) (fun q => q = ρ a0 0 ∨ q = ρ a0 2) := by
  refine MI.of (by decide) (Nat.le_of_ble_eq_true rfl) ?_
  intro p e s m args below meth c E hml hr hlk hs ls hl
  have hx := E.1
  have hb := E.2.1
  have hown := E.2.2.1
  have hts := E.2.2.2.1
  have hS : SS (fun q => q = ρ a0 0 ∨ q = ρ a0 2) H H [] := SS.rf
  have hl : lv_has ls 2 [(0, .ref a0), (1, .int 0)] := hl
  have n01 := hI.2.2.2.2.2.1
  have n23 := hI.2.2.2.2.2.2.1
  have J_77 : ∀ (H_c77 : Heap) (lc_c77 : List Loc) (ls : Array Slot), TH D cI cS τ ρ H_c77 → SS (fun q => q = ρ a0 0 ∨ q = ρ a0 2) H H_c77 lc_c77 → lv_has ls 2 [(0, .ref a0), (1, .int 0)] → IM D ρ N H_c77 a0 → W p l e (rmO 9 212) s m args below meth c H_c77 lc_c77 0 0 (MQ below (va_Qi (fun (r : Int32) (u : Heap) => (IM D ρ N u a0)) (Bt D cI cS τ ρ H) (fun q => q = ρ a0 0 ∨ q = ρ a0 2)) args s 0 0 (fun q => q = ρ a0 0 ∨ q = ρ a0 2)) (F0 m 77 ls []) := by
    intro H_c77 lc_c77 ls hT_c77 hS_c77 hl hI_c77
    refine lv_aload_n hx hb dX12_leave_77 rfl (lv_at hl 0 rfl) ?_
    refine lv_iload_n hx hb dX12_leave_78 rfl (lv_at hl 1 rfl) ?_
    refine th_Vv (As := [.int 0]) (rest := []) E hml hl.1 (y_settles l D cI cS τ ρ hW H_c77 hT_c77 a0 ha0 N hN0 hN1 ⟨hI_c77.1, hI_c77.2.1, hI_c77.2.2.1, hI_c77.2.2.2.1, hI_c77.2.2.2.2.1, hI_c77.2.2.2.2.2⟩) lk_X12_166 yd_X12_settles hT_c77 ha0 rfl (by decide) hS_c77 (fun q h => (Or.inl h)) ⟨by decide, by decide⟩ (Nat.le_of_ble_eq_true rfl) ⟨by decide, by decide⟩ rfl dX12_leave_79 (fun H_1 locs_1 p_1 hT_1 hk_1 hS_1 => ?_)
    have p_1 : (IM D ρ N H_1 a0) ∧ ((ai H_c77 (ρ a0 0) 976).toInt ≤ (ai H_1 (ρ a0 0) 976).toInt) := p_1
    obtain ⟨p_1_0, p_1_1⟩ := p_1
    have mn_1 : (ai H_c77 (ρ a0 0) 976).toInt ≤ (ai H_1 (ρ a0 0) 976).toInt := by exact p_1_1
    refine lv_aload_n hx hb dX12_leave_82 rfl (lv_at hl 0 rfl) ?_
    refine lv_iload_n hx hb dX12_leave_83 rfl (lv_at hl 1 rfl) ?_
    refine lv_iconst (v := 0) hx hb dX12_leave_84 (by decide) ?_
    refine th_Vi (As := [.int 0, .int 0]) (rest := []) E hml hl.1 (y_get_v21 l D cI cS τ ρ hW H_1 hT_1 a0 ha0) lk_X12_99 yd_X12_get hT_1 ha0 rfl (by decide) hS_1 (fun _ h => h.elim) ⟨by decide, by decide⟩ (Nat.le_of_ble_eq_true rfl) ⟨by decide, by decide⟩ rfl dX12_leave_85 (fun r_2 H_2 locs_2 p_2 hT_2 hk_2 hS_2 => ?_)
    have p_2 : H_1 = H_2 ∧ (ai H_1 (ρ a0 0) 0 = r_2) := p_2
    obtain ⟨rfl, p_2_0⟩ := p_2
    have c_r_2 := congrArg Int32.toInt p_2_0
    exact th_iret E hr hlk hs hT_2 hS_2 ⟨p_1_0.1, p_1_0.2.1, p_1_0.2.2.1, p_1_0.2.2.2.1, p_1_0.2.2.2.2.1, p_1_0.2.2.2.2.2⟩ dX12_leave_88
  have J_48 : ∀ (H_c48 : Heap) (lc_c48 : List Loc) (ls : Array Slot), TH D cI cS τ ρ H_c48 → SS (fun q => q = ρ a0 0 ∨ q = ρ a0 2) H H_c48 lc_c48 → lv_has ls 2 [(0, .ref a0), (1, .int 0)] → IM D ρ N H_c48 a0 → W p l e (rmO 9 212) s m args below meth c H_c48 lc_c48 0 0 (MQ below (va_Qi (fun (r : Int32) (u : Heap) => (IM D ρ N u a0)) (Bt D cI cS τ ρ H) (fun q => q = ρ a0 0 ∨ q = ρ a0 2)) args s 0 0 (fun q => q = ρ a0 0 ∨ q = ρ a0 2)) (F0 m 48 ls []) := by
    intro H_c48 lc_c48 ls hT_c48 hS_c48 hl hI_c48
    refine lv_aload_n hx hb dX12_leave_48 rfl (lv_at hl 0 rfl) ?_
    refine lv_iload_n hx hb dX12_leave_49 rfl (lv_at hl 1 rfl) ?_
    refine lv_bipush (v := 13) hx hb dX12_leave_50 (by decide) ?_
    refine th_Vi (As := [.int 0, .int 13]) (rest := []) E hml hl.1 (y_get_v26 l D cI cS τ ρ hW H_c48 hT_c48 a0 ha0) lk_X12_99 yd_X12_get hT_c48 ha0 rfl (by decide) hS_c48 (fun _ h => h.elim) ⟨by decide, by decide⟩ (Nat.le_of_ble_eq_true rfl) ⟨by decide, by decide⟩ rfl dX12_leave_52 (fun r_3 H_3 locs_3 p_3 hT_3 hk_3 hS_3 => ?_)
    have p_3 : H_c48 = H_3 ∧ (ai H_c48 (ρ a0 0) 13 = r_3) := p_3
    obtain ⟨rfl, p_3_0⟩ := p_3
    have c_r_3 := congrArg Int32.toInt p_3_0
    refine lv_if_ne (tgt := 74) hx hb dX12_leave_55 (by decide) (fun c_4 => ?_) (fun c_4 => ?_)
    · have f_4 : ¬ r_3.toInt = 0 := r_ne rfl (by decide) c_4
      have nz_r_3 : ¬ r_3 = 0 := c_4
      refine lv_bipush (v := (-2)) hx hb dX12_leave_74 (by decide) ?_
      exact th_iret E hr hlk hs hT_3 hS_3 ⟨hI_c48.1, hI_c48.2.1, hI_c48.2.2.1, hI_c48.2.2.2.1, hI_c48.2.2.2.2.1, hI_c48.2.2.2.2.2⟩ dX12_leave_76
    · have f_4 : r_3.toInt = 0 := r_eq rfl (by decide) c_4
      refine lv_aload_n hx hb dX12_leave_58 rfl (lv_at hl 0 rfl) ?_
      refine lv_iload_n hx hb dX12_leave_59 rfl (lv_at hl 1 rfl) ?_
      refine lv_bipush (v := 13) hx hb dX12_leave_60 (by decide) ?_
      refine lv_iconst (v := 1) hx hb dX12_leave_62 (by decide) ?_
      refine th_Vv (As := [.int 0, .int 13, .int 1]) (rest := []) E hml hl.1 (y_set_v85 l D cI cS τ ρ hW H_c48 hT_3 a0 ha0) lk_X12_95 yd_X12_set hT_3 ha0 rfl (by decide) hS_3 (fun q h => (Or.inl h)) ⟨by decide, by decide⟩ (Nat.le_of_ble_eq_true rfl) ⟨by decide, by decide⟩ rfl dX12_leave_63 (fun H_5 locs_5 p_5 hT_5 hk_5 hS_5 => ?_)
      have p_5 : (AU 985 H_c48 H_5 (ρ a0 0) 13 (1)) := p_5
      have hW_5 : PW N H_5 (ρ a0 0) := PW.put hI_c48.1 p_5 (by show (-2147483648 : Int) ≤ _; exact i_min _) (by show _ ≤ (2147483647 : Int); exact i_max _)
      refine lv_aload_n hx hb dX12_leave_66 rfl (lv_at hl 0 rfl) ?_
      refine lv_iload_n hx hb dX12_leave_67 rfl (lv_at hl 1 rfl) ?_
      refine th_Vv (As := [.int 0]) (rest := []) E hml hl.1 (y_goesOn l D cI cS τ ρ hW H_5 hT_5 a0 ha0 N hN0 hN1 ⟨hW_5, (QS.same (AU.o p_5 (by decide) (by decide)) (AU.o p_5 (by decide) (by decide)) hI_c48.2.1), (QS.same (AU.o p_5 (by decide) (by decide)) (AU.o p_5 (by decide) (by decide)) hI_c48.2.2.1), (PL.q (p_5.2 _ (th_ne (hW _ 12 2 ha0 (by decide) (by decide) (by decide)) (hW _ 12 0 ha0 (by decide) (by decide) (by decide)) (by decide))) hI_c48.2.2.2.1), (PL.q (p_5.2 _ (th_ne (hW _ 12 3 ha0 (by decide) (by decide) (by decide)) (hW _ 12 0 ha0 (by decide) (by decide) (by decide)) (by decide))) hI_c48.2.2.2.2.1), (IF.q (p_5.2 _ (th_ne ha0 (hW _ 12 0 ha0 (by decide) (by decide) (by decide)) (by decide))) hI_c48.2.2.2.2.2)⟩) lk_X12_177 yd_X12_goesOn hT_5 ha0 rfl (by decide) hS_5 (fun q => (fun h => h.elim (fun h => (Or.inr h)) (fun h => (Or.inl h)))) ⟨by decide, by decide⟩ (Nat.le_of_ble_eq_true rfl) ⟨by decide, by decide⟩ rfl dX12_leave_68 (fun H_6 locs_6 p_6 hT_6 hk_6 hS_6 => ?_)
      have p_6 : (IM D ρ N H_6 a0) ∧ ((ai H_5 (ρ a0 0) 976).toInt ≤ (ai H_6 (ρ a0 0) 976).toInt) := p_6
      obtain ⟨p_6_0, p_6_1⟩ := p_6
      have mn_6 : (ai H_c48 (ρ a0 0) 976).toInt ≤ (ai H_6 (ρ a0 0) 976).toInt := by have h := p_6_1; rw [(AU.o p_5 (by decide) (by decide))] at h; exact h
      refine lv_goto (tgt := 77) hx hb dX12_leave_71 (by decide) ?_
      exact J_77 H_6 locs_6 _ hT_6 hS_6 hl ⟨p_6_0.1, p_6_0.2.1, p_6_0.2.2.1, p_6_0.2.2.2.1, p_6_0.2.2.2.2.1, p_6_0.2.2.2.2.2⟩
  refine lv_iload_n hx hb dX12_leave_0 rfl (lv_at hl 1 rfl) ?_
  refine th_Si (As := [.int 0]) (rest := []) E hml hl.1 (y_isEnd l D cI cS τ ρ hW H hT) lk_X12_160 yd_X12_isEnd hS (fun _ h => h.elim) ⟨by decide, by decide⟩ (Nat.le_of_ble_eq_true rfl) ⟨by decide, by decide⟩ rfl dX12_leave_1 (fun r_7 H_7 locs_7 p_7 hT_7 hk_7 hS_7 => ?_)
  have p_7 : H = H_7 ∧ (r_7 = 0 ∨ r_7 = 1) ∧ ((r_7.toInt = 1 ∧ 0 ≤ 0 ∧ 0 ≤ 1) ∨ (r_7.toInt = 0 ∧ (0 < 0 ∨ 1 < 0))) := p_7
  obtain ⟨rfl, p_7_0, p_7_1⟩ := p_7
  have z_7 := b_iv p_7_0
  refine lv_if_ne (tgt := 9) hx hb dX12_leave_4 (by decide) (fun c_8 => ?_) (fun c_8 => False.elim (by have f_8 : r_7.toInt = 0 := r_eq rfl (by decide) c_8; omega))
  refine lv_aload_n hx hb dX12_leave_9 rfl (lv_at hl 0 rfl) ?_
  refine lv_iload_n hx hb dX12_leave_10 rfl (lv_at hl 1 rfl) ?_
  refine lv_iconst (v := 1) hx hb dX12_leave_11 (by decide) ?_
  refine lv_iconst (v := 2) hx hb dX12_leave_12 (by decide) ?_
  refine th_Vi (As := [.int 0, .int 1, .int 2]) (rest := []) E hml hl.1 (y_isIn_v5 l D cI cS τ ρ hW H hT_7 a0 ha0) lk_X12_106 yd_X12_isIn hT_7 ha0 rfl (by decide) hS_7 (fun _ h => h.elim) ⟨by decide, by decide⟩ (Nat.le_of_ble_eq_true rfl) ⟨by decide, by decide⟩ rfl dX12_leave_13 (fun r_9 H_9 locs_9 p_9 hT_9 hk_9 hS_9 => ?_)
  have p_9 : H = H_9 ∧ (r_9 = 0 ∨ r_9 = 1) ∧ ((r_9.toInt = 1 ∧ ((ai H (ρ a0 0) 0).toInt = 1 ∨ (ai H (ρ a0 0) 0).toInt = 2)) ∨ (r_9.toInt = 0 ∧ ¬ (ai H (ρ a0 0) 0).toInt = 1 ∧ ¬ (ai H (ρ a0 0) 0).toInt = 2)) := p_9
  obtain ⟨rfl, p_9_0, p_9_1⟩ := p_9
  have z_9 := b_iv p_9_0
  refine lv_if_eq (tgt := 27) hx hb dX12_leave_16 (by decide) (fun c_10 => ?_) (fun c_10 => ?_)
  · have f_10 : r_9.toInt = 0 := r_eq rfl (by decide) c_10
    refine lv_aload_n hx hb dX12_leave_27 rfl (lv_at hl 0 rfl) ?_
    refine lv_iload_n hx hb dX12_leave_28 rfl (lv_at hl 1 rfl) ?_
    refine lv_iconst (v := 4) hx hb dX12_leave_29 (by decide) ?_
    refine lv_bipush (v := 7) hx hb dX12_leave_30 (by decide) ?_
    refine th_Vi (As := [.int 0, .int 4, .int 7]) (rest := []) E hml hl.1 (y_isIn l D cI cS τ ρ hW H hT_9 a0 ha0) lk_X12_106 yd_X12_isIn hT_9 ha0 rfl (by decide) hS_9 (fun _ h => h.elim) ⟨by decide, by decide⟩ (Nat.le_of_ble_eq_true rfl) ⟨by decide, by decide⟩ rfl dX12_leave_32 (fun r_11 H_11 locs_11 p_11 hT_11 hk_11 hS_11 => ?_)
    have p_11 : H = H_11 ∧ (r_11 = 0 ∨ r_11 = 1) ∧ ((r_11.toInt = 1 ∧ ((ai H (ρ a0 0) 0).toInt = 4 ∨ (ai H (ρ a0 0) 0).toInt = 7)) ∨ (r_11.toInt = 0 ∧ ¬ (ai H (ρ a0 0) 0).toInt = 4 ∧ ¬ (ai H (ρ a0 0) 0).toInt = 7)) := p_11
    obtain ⟨rfl, p_11_0, p_11_1⟩ := p_11
    have z_11 := b_iv p_11_0
    refine lv_if_ne (tgt := 48) hx hb dX12_leave_35 (by decide) (fun c_12 => ?_) (fun c_12 => ?_)
    · have f_12 : ¬ r_11.toInt = 0 := r_ne rfl (by decide) c_12
      have nz_r_11 : ¬ r_11 = 0 := c_12
      exact J_48 H locs_11 _ hT_11 hS_11 hl ⟨hI.1, hI.2.1, hI.2.2.1, hI.2.2.2.1, hI.2.2.2.2.1, hI.2.2.2.2.2⟩
    · have f_12 : r_11.toInt = 0 := r_eq rfl (by decide) c_12
      refine lv_aload_n hx hb dX12_leave_38 rfl (lv_at hl 0 rfl) ?_
      refine lv_iload_n hx hb dX12_leave_39 rfl (lv_at hl 1 rfl) ?_
      refine lv_iconst (v := 0) hx hb dX12_leave_40 (by decide) ?_
      refine th_Vi (As := [.int 0, .int 0]) (rest := []) E hml hl.1 (y_get_v21 l D cI cS τ ρ hW H hT_11 a0 ha0) lk_X12_99 yd_X12_get hT_11 ha0 rfl (by decide) hS_11 (fun _ h => h.elim) ⟨by decide, by decide⟩ (Nat.le_of_ble_eq_true rfl) ⟨by decide, by decide⟩ rfl dX12_leave_41 (fun r_13 H_13 locs_13 p_13 hT_13 hk_13 hS_13 => ?_)
      have p_13 : H = H_13 ∧ (ai H (ρ a0 0) 0 = r_13) := p_13
      obtain ⟨rfl, p_13_0⟩ := p_13
      have c_r_13 := congrArg Int32.toInt p_13_0
      refine lv_iconst (v := 3) hx hb dX12_leave_44 (by decide) ?_
      refine lv_icmp_ne (tgt := 74) hx hb dX12_leave_45 (by decide) (fun c_14 => ?_) (fun c_14 => ?_)
      · have f_14 : ¬ r_13.toInt = 3 := r_ne rfl (by decide) c_14
        refine lv_bipush (v := (-2)) hx hb dX12_leave_74 (by decide) ?_
        exact th_iret E hr hlk hs hT_13 hS_13 ⟨hI.1, hI.2.1, hI.2.2.1, hI.2.2.2.1, hI.2.2.2.2.1, hI.2.2.2.2.2⟩ dX12_leave_76
      · have f_14 : r_13.toInt = 3 := r_eq rfl (by decide) c_14
        exact J_48 H locs_13 _ hT_13 hS_13 hl ⟨hI.1, hI.2.1, hI.2.2.1, hI.2.2.2.1, hI.2.2.2.2.1, hI.2.2.2.2.2⟩
  · have f_10 : ¬ r_9.toInt = 0 := r_ne rfl (by decide) c_10
    have nz_r_9 : ¬ r_9 = 0 := c_10
    refine lv_aload_n hx hb dX12_leave_19 rfl (lv_at hl 0 rfl) ?_
    refine lv_iload_n hx hb dX12_leave_20 rfl (lv_at hl 1 rfl) ?_
    refine th_Vv (As := [.int 0]) (rest := []) E hml hl.1 (y_shuts l D cI cS τ ρ hW H hT_9 a0 ha0 N hN0 hN1 ⟨hI.1, hI.2.1, hI.2.2.1, hI.2.2.2.1, hI.2.2.2.2.1, hI.2.2.2.2.2⟩) lk_X12_180 yd_X12_shuts hT_9 ha0 rfl (by decide) hS_9 (fun q h => (Or.inl h)) ⟨by decide, by decide⟩ (Nat.le_of_ble_eq_true rfl) ⟨by decide, by decide⟩ rfl dX12_leave_21 (fun H_15 locs_15 p_15 hT_15 hk_15 hS_15 => ?_)
    have p_15 : (IM D ρ N H_15 a0) ∧ ((ai H (ρ a0 0) 976).toInt ≤ (ai H_15 (ρ a0 0) 976).toInt) := p_15
    obtain ⟨p_15_0, p_15_1⟩ := p_15
    have mn_15 : (ai H (ρ a0 0) 976).toInt ≤ (ai H_15 (ρ a0 0) 976).toInt := by exact p_15_1
    refine lv_goto (tgt := 77) hx hb dX12_leave_24 (by decide) ?_
    exact J_77 H_15 locs_15 _ hT_15 hS_15 hl ⟨p_15_0.1, p_15_0.2.1, p_15_0.2.2.1, p_15_0.2.2.2.1, p_15_0.2.2.2.2.1, p_15_0.2.2.2.2.2⟩
set_option maxHeartbeats 4000000 in
set_option maxRecDepth 100000 in
/-- the reference: isIn -/
theorem y_isIn_v6 (l : Launch) (D : va_G) (cI cS : ClassId) (τ : Nat → Option Nat) (ρ : Nat → Nat → Nat) (hW : WF τ ρ) (H : Heap) (hT : TH D cI cS τ ρ H) (a0 : Nat) (ha0 : τ a0 = some 12) : MI l D cI cS τ ρ yX12_isIn cX12_isIn 4 (some .boolean) 1 22 H [.ref a0, .int 1, .int 1, .int 2] (fun (r : Int32) (u : Heap) => (H = u) ∧ (r = 0 ∨ r = 1) ∧ ((r.toInt = 1 ∧ ((ai H (ρ a0 0) 288).toInt = 1 ∨ (ai H (ρ a0 0) 288).toInt = 2)) ∨ (r.toInt = 0 ∧ ¬ (ai H (ρ a0 0) 288).toInt = 1 ∧ ¬ (ai H (ρ a0 0) 288).toInt = 2))) (fun q => False) := by
  refine MI.of (by decide) (Nat.le_of_ble_eq_true rfl) ?_
  intro p e s m args below meth c E hml hr hlk hs ls hl
  have hx := E.1
  have hb := E.2.1
  have hown := E.2.2.1
  have hts := E.2.2.2.1
  have hS : SS (fun q => False) H H [] := SS.rf
  have hl : lv_has ls 4 [(0, .ref a0), (1, .int 1), (2, .int 1), (3, .int 2)] := hl
  refine lv_aload_n hx hb dX12_isIn_0 rfl (lv_at hl 0 rfl) ?_
  refine lv_iload_n hx hb dX12_isIn_1 rfl (lv_at hl 1 rfl) ?_
  refine lv_iconst (v := 0) hx hb dX12_isIn_2 (by decide) ?_
  refine th_Vi (As := [.int 1, .int 0]) (rest := []) E hml hl.1 (y_get_v20 l D cI cS τ ρ hW H hT a0 ha0) lk_X12_99 yd_X12_get hT ha0 rfl (by decide) hS (fun _ h => h.elim) ⟨by decide, by decide⟩ (Nat.le_of_ble_eq_true rfl) ⟨by decide, by decide⟩ rfl dX12_isIn_3 (fun r_1 H_1 locs_1 p_1 hT_1 hk_1 hS_1 => ?_)
  have p_1 : H = H_1 ∧ (ai H (ρ a0 0) 288 = r_1) := p_1
  obtain ⟨rfl, p_1_0⟩ := p_1
  have c_r_1 := congrArg Int32.toInt p_1_0
  refine lv_iload_n hx hb dX12_isIn_6 rfl (lv_at hl 2 rfl) ?_
  refine lv_icmp_eq (tgt := 20) hx hb dX12_isIn_7 (by decide) (fun c_2 => ?_) (fun c_2 => ?_)
  · have f_2 : r_1.toInt = 1 := r_eq rfl (by decide) c_2
    refine lv_iconst (v := 1) hx hb dX12_isIn_20 (by decide) ?_
    refine lv_goto (tgt := 25) hx hb dX12_isIn_21 (by decide) ?_
    exact th_zret E hr hlk hs (Or.inr rfl) hT_1 hS_1 ⟨rfl, (Or.inr rfl), (by have : (1 : Int32).toInt = 1 := (by decide); have : (ai H (ρ a0 0) 288).toInt = (r_1 : Int32).toInt := congrArg Int32.toInt p_1_0; omega)⟩ dX12_isIn_25
  · have f_2 : ¬ r_1.toInt = 1 := r_ne rfl (by decide) c_2
    refine lv_aload_n hx hb dX12_isIn_10 rfl (lv_at hl 0 rfl) ?_
    refine lv_iload_n hx hb dX12_isIn_11 rfl (lv_at hl 1 rfl) ?_
    refine lv_iconst (v := 0) hx hb dX12_isIn_12 (by decide) ?_
    refine th_Vi (As := [.int 1, .int 0]) (rest := []) E hml hl.1 (y_get_v20 l D cI cS τ ρ hW H hT_1 a0 ha0) lk_X12_99 yd_X12_get hT_1 ha0 rfl (by decide) hS_1 (fun _ h => h.elim) ⟨by decide, by decide⟩ (Nat.le_of_ble_eq_true rfl) ⟨by decide, by decide⟩ rfl dX12_isIn_13 (fun r_3 H_3 locs_3 p_3 hT_3 hk_3 hS_3 => ?_)
    have p_3 : H = H_3 ∧ (ai H (ρ a0 0) 288 = r_3) := p_3
    obtain ⟨rfl, p_3_0⟩ := p_3
    have s_3 : r_3 = r_1 := p_3_0.symm.trans p_1_0
    refine th_topi s_3 ?_
    refine lv_iload_n hx hb dX12_isIn_16 rfl (lv_at hl 3 rfl) ?_
    refine lv_icmp_ne (tgt := 24) hx hb dX12_isIn_17 (by decide) (fun c_4 => ?_) (fun c_4 => ?_)
    · have f_4 : ¬ r_1.toInt = 2 := r_ne rfl (by decide) c_4
      refine lv_iconst (v := 0) hx hb dX12_isIn_24 (by decide) ?_
      exact th_zret E hr hlk hs (Or.inl rfl) hT_3 hS_3 ⟨rfl, (Or.inl rfl), (by have : (0 : Int32).toInt = 0 := (by decide); have : (ai H (ρ a0 0) 288).toInt = (r_1 : Int32).toInt := congrArg Int32.toInt p_1_0; omega)⟩ dX12_isIn_25
    · have f_4 : r_1.toInt = 2 := r_eq rfl (by decide) c_4
      refine lv_iconst (v := 1) hx hb dX12_isIn_20 (by decide) ?_
      refine lv_goto (tgt := 25) hx hb dX12_isIn_21 (by decide) ?_
      exact th_zret E hr hlk hs (Or.inr rfl) hT_3 hS_3 ⟨rfl, (Or.inr rfl), (by have : (1 : Int32).toInt = 1 := (by decide); have : (ai H (ρ a0 0) 288).toInt = (r_1 : Int32).toInt := congrArg Int32.toInt p_1_0; omega)⟩ dX12_isIn_25
set_option maxHeartbeats 4000000 in
set_option maxRecDepth 100000 in
/-- the reference: set -/
theorem y_set_v86 (l : Launch) (D : va_G) (cI cS : ClassId) (τ : Nat → Option Nat) (ρ : Nat → Nat → Nat) (hW : WF τ ρ) (H : Heap) (hT : TH D cI cS τ ρ H) (a0 : Nat) (ha0 : τ a0 = some 12) : MV l D cI cS τ ρ yX12_set cX12_set 4 none 0 0 H [.ref a0, .int 1, .int 13, .int 1] (fun (u : Heap) => (AU 985 H u (ρ a0 0) 301 (1))) (fun q => q = ρ a0 0) := by
  refine MV.of (by decide) (Nat.le_of_ble_eq_true rfl) ?_
  intro p e s m args below meth c E hml hr hlk hs ls hl
  have hx := E.1
  have hb := E.2.1
  have hown := E.2.2.1
  have hts := E.2.2.2.1
  have hS : SS (fun q => q = ρ a0 0) H H [] := SS.rf
  have hl : lv_has ls 4 [(0, .ref a0), (1, .int 1), (2, .int 13), (3, .int 1)] := hl
  refine lv_aload_n hx hb dX12_set_0 rfl (lv_at hl 0 rfl) ?_
  refine gf_X12_7 E hT hW ha0 dX12_set_1 (fun h_1 => ?_)
  refine lv_sipush (v := 288) hx hb dX12_set_4 (by decide) ?_
  refine lv_iload_n hx hb dX12_set_7 rfl (lv_at hl 1 rfl) ?_
  refine lv_imul hx hb dX12_set_8 ?_
  refine th_topi (y := 288) (by decide) ?_
  refine lv_iload_n hx hb dX12_set_9 rfl (lv_at hl 2 rfl) ?_
  refine lv_iadd hx hb dX12_set_10 ?_
  refine th_topi (y := 301) (by decide) ?_
  refine lv_iload_n hx hb dX12_set_11 rfl (lv_at hl 3 rfl) ?_
  refine th_iast E hT hS h_1 rfl (by decide) (vp_in_iff.mpr ⟨by decide, by decide⟩) dX12_set_12 (fun H_2 locs_2 hT_2 hU_2 hS_2 => ?_)
  have hU_2 : AU 985 H H_2 (ρ a0 0) 301 (1) := hU_2
  exact th_vret E hr hlk hs hT_2 hS_2 hU_2 dX12_set_13
set_option maxHeartbeats 4000000 in
set_option maxRecDepth 100000 in
/-- the reference: leave -/
theorem y_leave_v2 (l : Launch) (D : va_G) (cI cS : ClassId) (τ : Nat → Option Nat) (ρ : Nat → Nat → Nat) (hW : WF τ ρ) (H : Heap) (hT : TH D cI cS τ ρ H) (a0 : Nat) (ha0 : τ a0 = some 12) (N : Int) (hN0 : 0 ≤ N) (hN1 : N ≤ 600) (hI : IM D ρ N H a0) : MI l D cI cS τ ρ yX12_leave cX12_leave 2 (some .int) 9 212 H [.ref a0, .int 1] (fun (r : Int32) (u : Heap) => (IM D ρ N u a0)) (fun q => q = ρ a0 0 ∨ q = ρ a0 2) := by
  refine MI.of (by decide) (Nat.le_of_ble_eq_true rfl) ?_
  intro p e s m args below meth c E hml hr hlk hs ls hl
  have hx := E.1
  have hb := E.2.1
  have hown := E.2.2.1
  have hts := E.2.2.2.1
  have hS : SS (fun q => q = ρ a0 0 ∨ q = ρ a0 2) H H [] := SS.rf
  have hl : lv_has ls 2 [(0, .ref a0), (1, .int 1)] := hl
  have n01 := hI.2.2.2.2.2.1
  have n23 := hI.2.2.2.2.2.2.1
  have J_77 : ∀ (H_c77 : Heap) (lc_c77 : List Loc) (ls : Array Slot), TH D cI cS τ ρ H_c77 → SS (fun q => q = ρ a0 0 ∨ q = ρ a0 2) H H_c77 lc_c77 → lv_has ls 2 [(0, .ref a0), (1, .int 1)] → IM D ρ N H_c77 a0 → W p l e (rmO 9 212) s m args below meth c H_c77 lc_c77 0 0 (MQ below (va_Qi (fun (r : Int32) (u : Heap) => (IM D ρ N u a0)) (Bt D cI cS τ ρ H) (fun q => q = ρ a0 0 ∨ q = ρ a0 2)) args s 0 0 (fun q => q = ρ a0 0 ∨ q = ρ a0 2)) (F0 m 77 ls []) := by
    intro H_c77 lc_c77 ls hT_c77 hS_c77 hl hI_c77
    refine lv_aload_n hx hb dX12_leave_77 rfl (lv_at hl 0 rfl) ?_
    refine lv_iload_n hx hb dX12_leave_78 rfl (lv_at hl 1 rfl) ?_
    refine th_Vv (As := [.int 1]) (rest := []) E hml hl.1 (y_settles_v2 l D cI cS τ ρ hW H_c77 hT_c77 a0 ha0 N hN0 hN1 ⟨hI_c77.1, hI_c77.2.1, hI_c77.2.2.1, hI_c77.2.2.2.1, hI_c77.2.2.2.2.1, hI_c77.2.2.2.2.2⟩) lk_X12_166 yd_X12_settles hT_c77 ha0 rfl (by decide) hS_c77 (fun q h => (Or.inl h)) ⟨by decide, by decide⟩ (Nat.le_of_ble_eq_true rfl) ⟨by decide, by decide⟩ rfl dX12_leave_79 (fun H_1 locs_1 p_1 hT_1 hk_1 hS_1 => ?_)
    have p_1 : (IM D ρ N H_1 a0) ∧ ((ai H_c77 (ρ a0 0) 976).toInt ≤ (ai H_1 (ρ a0 0) 976).toInt) := p_1
    obtain ⟨p_1_0, p_1_1⟩ := p_1
    have mn_1 : (ai H_c77 (ρ a0 0) 976).toInt ≤ (ai H_1 (ρ a0 0) 976).toInt := by exact p_1_1
    refine lv_aload_n hx hb dX12_leave_82 rfl (lv_at hl 0 rfl) ?_
    refine lv_iload_n hx hb dX12_leave_83 rfl (lv_at hl 1 rfl) ?_
    refine lv_iconst (v := 0) hx hb dX12_leave_84 (by decide) ?_
    refine th_Vi (As := [.int 1, .int 0]) (rest := []) E hml hl.1 (y_get_v20 l D cI cS τ ρ hW H_1 hT_1 a0 ha0) lk_X12_99 yd_X12_get hT_1 ha0 rfl (by decide) hS_1 (fun _ h => h.elim) ⟨by decide, by decide⟩ (Nat.le_of_ble_eq_true rfl) ⟨by decide, by decide⟩ rfl dX12_leave_85 (fun r_2 H_2 locs_2 p_2 hT_2 hk_2 hS_2 => ?_)
    have p_2 : H_1 = H_2 ∧ (ai H_1 (ρ a0 0) 288 = r_2) := p_2
    obtain ⟨rfl, p_2_0⟩ := p_2
    have c_r_2 := congrArg Int32.toInt p_2_0
    exact th_iret E hr hlk hs hT_2 hS_2 ⟨p_1_0.1, p_1_0.2.1, p_1_0.2.2.1, p_1_0.2.2.2.1, p_1_0.2.2.2.2.1, p_1_0.2.2.2.2.2⟩ dX12_leave_88
  have J_48 : ∀ (H_c48 : Heap) (lc_c48 : List Loc) (ls : Array Slot), TH D cI cS τ ρ H_c48 → SS (fun q => q = ρ a0 0 ∨ q = ρ a0 2) H H_c48 lc_c48 → lv_has ls 2 [(0, .ref a0), (1, .int 1)] → IM D ρ N H_c48 a0 → W p l e (rmO 9 212) s m args below meth c H_c48 lc_c48 0 0 (MQ below (va_Qi (fun (r : Int32) (u : Heap) => (IM D ρ N u a0)) (Bt D cI cS τ ρ H) (fun q => q = ρ a0 0 ∨ q = ρ a0 2)) args s 0 0 (fun q => q = ρ a0 0 ∨ q = ρ a0 2)) (F0 m 48 ls []) := by
    intro H_c48 lc_c48 ls hT_c48 hS_c48 hl hI_c48
    refine lv_aload_n hx hb dX12_leave_48 rfl (lv_at hl 0 rfl) ?_
    refine lv_iload_n hx hb dX12_leave_49 rfl (lv_at hl 1 rfl) ?_
    refine lv_bipush (v := 13) hx hb dX12_leave_50 (by decide) ?_
    refine th_Vi (As := [.int 1, .int 13]) (rest := []) E hml hl.1 (y_get_v34 l D cI cS τ ρ hW H_c48 hT_c48 a0 ha0) lk_X12_99 yd_X12_get hT_c48 ha0 rfl (by decide) hS_c48 (fun _ h => h.elim) ⟨by decide, by decide⟩ (Nat.le_of_ble_eq_true rfl) ⟨by decide, by decide⟩ rfl dX12_leave_52 (fun r_3 H_3 locs_3 p_3 hT_3 hk_3 hS_3 => ?_)
    have p_3 : H_c48 = H_3 ∧ (ai H_c48 (ρ a0 0) 301 = r_3) := p_3
    obtain ⟨rfl, p_3_0⟩ := p_3
    have c_r_3 := congrArg Int32.toInt p_3_0
    refine lv_if_ne (tgt := 74) hx hb dX12_leave_55 (by decide) (fun c_4 => ?_) (fun c_4 => ?_)
    · have f_4 : ¬ r_3.toInt = 0 := r_ne rfl (by decide) c_4
      have nz_r_3 : ¬ r_3 = 0 := c_4
      refine lv_bipush (v := (-2)) hx hb dX12_leave_74 (by decide) ?_
      exact th_iret E hr hlk hs hT_3 hS_3 ⟨hI_c48.1, hI_c48.2.1, hI_c48.2.2.1, hI_c48.2.2.2.1, hI_c48.2.2.2.2.1, hI_c48.2.2.2.2.2⟩ dX12_leave_76
    · have f_4 : r_3.toInt = 0 := r_eq rfl (by decide) c_4
      refine lv_aload_n hx hb dX12_leave_58 rfl (lv_at hl 0 rfl) ?_
      refine lv_iload_n hx hb dX12_leave_59 rfl (lv_at hl 1 rfl) ?_
      refine lv_bipush (v := 13) hx hb dX12_leave_60 (by decide) ?_
      refine lv_iconst (v := 1) hx hb dX12_leave_62 (by decide) ?_
      refine th_Vv (As := [.int 1, .int 13, .int 1]) (rest := []) E hml hl.1 (y_set_v86 l D cI cS τ ρ hW H_c48 hT_3 a0 ha0) lk_X12_95 yd_X12_set hT_3 ha0 rfl (by decide) hS_3 (fun q h => (Or.inl h)) ⟨by decide, by decide⟩ (Nat.le_of_ble_eq_true rfl) ⟨by decide, by decide⟩ rfl dX12_leave_63 (fun H_5 locs_5 p_5 hT_5 hk_5 hS_5 => ?_)
      have p_5 : (AU 985 H_c48 H_5 (ρ a0 0) 301 (1)) := p_5
      have hW_5 : PW N H_5 (ρ a0 0) := PW.put hI_c48.1 p_5 (by show (-2147483648 : Int) ≤ _; exact i_min _) (by show _ ≤ (2147483647 : Int); exact i_max _)
      refine lv_aload_n hx hb dX12_leave_66 rfl (lv_at hl 0 rfl) ?_
      refine lv_iload_n hx hb dX12_leave_67 rfl (lv_at hl 1 rfl) ?_
      refine th_Vv (As := [.int 1]) (rest := []) E hml hl.1 (y_goesOn_v2 l D cI cS τ ρ hW H_5 hT_5 a0 ha0 N hN0 hN1 ⟨hW_5, (QS.same (AU.o p_5 (by decide) (by decide)) (AU.o p_5 (by decide) (by decide)) hI_c48.2.1), (QS.same (AU.o p_5 (by decide) (by decide)) (AU.o p_5 (by decide) (by decide)) hI_c48.2.2.1), (PL.q (p_5.2 _ (th_ne (hW _ 12 2 ha0 (by decide) (by decide) (by decide)) (hW _ 12 0 ha0 (by decide) (by decide) (by decide)) (by decide))) hI_c48.2.2.2.1), (PL.q (p_5.2 _ (th_ne (hW _ 12 3 ha0 (by decide) (by decide) (by decide)) (hW _ 12 0 ha0 (by decide) (by decide) (by decide)) (by decide))) hI_c48.2.2.2.2.1), (IF.q (p_5.2 _ (th_ne ha0 (hW _ 12 0 ha0 (by decide) (by decide) (by decide)) (by decide))) hI_c48.2.2.2.2.2)⟩) lk_X12_177 yd_X12_goesOn hT_5 ha0 rfl (by decide) hS_5 (fun q => (fun h => h.elim (fun h => (Or.inr h)) (fun h => (Or.inl h)))) ⟨by decide, by decide⟩ (Nat.le_of_ble_eq_true rfl) ⟨by decide, by decide⟩ rfl dX12_leave_68 (fun H_6 locs_6 p_6 hT_6 hk_6 hS_6 => ?_)
      have p_6 : (IM D ρ N H_6 a0) ∧ ((ai H_5 (ρ a0 0) 976).toInt ≤ (ai H_6 (ρ a0 0) 976).toInt) := p_6
      obtain ⟨p_6_0, p_6_1⟩ := p_6
      have mn_6 : (ai H_c48 (ρ a0 0) 976).toInt ≤ (ai H_6 (ρ a0 0) 976).toInt := by have h := p_6_1; rw [(AU.o p_5 (by decide) (by decide))] at h; exact h
      refine lv_goto (tgt := 77) hx hb dX12_leave_71 (by decide) ?_
      exact J_77 H_6 locs_6 _ hT_6 hS_6 hl ⟨p_6_0.1, p_6_0.2.1, p_6_0.2.2.1, p_6_0.2.2.2.1, p_6_0.2.2.2.2.1, p_6_0.2.2.2.2.2⟩
  refine lv_iload_n hx hb dX12_leave_0 rfl (lv_at hl 1 rfl) ?_
  refine th_Si (As := [.int 1]) (rest := []) E hml hl.1 (y_isEnd_v2 l D cI cS τ ρ hW H hT) lk_X12_160 yd_X12_isEnd hS (fun _ h => h.elim) ⟨by decide, by decide⟩ (Nat.le_of_ble_eq_true rfl) ⟨by decide, by decide⟩ rfl dX12_leave_1 (fun r_7 H_7 locs_7 p_7 hT_7 hk_7 hS_7 => ?_)
  have p_7 : H = H_7 ∧ (r_7 = 0 ∨ r_7 = 1) ∧ ((r_7.toInt = 1 ∧ 0 ≤ 1 ∧ 1 ≤ 1) ∨ (r_7.toInt = 0 ∧ (1 < 0 ∨ 1 < 1))) := p_7
  obtain ⟨rfl, p_7_0, p_7_1⟩ := p_7
  have z_7 := b_iv p_7_0
  refine lv_if_ne (tgt := 9) hx hb dX12_leave_4 (by decide) (fun c_8 => ?_) (fun c_8 => False.elim (by have f_8 : r_7.toInt = 0 := r_eq rfl (by decide) c_8; omega))
  refine lv_aload_n hx hb dX12_leave_9 rfl (lv_at hl 0 rfl) ?_
  refine lv_iload_n hx hb dX12_leave_10 rfl (lv_at hl 1 rfl) ?_
  refine lv_iconst (v := 1) hx hb dX12_leave_11 (by decide) ?_
  refine lv_iconst (v := 2) hx hb dX12_leave_12 (by decide) ?_
  refine th_Vi (As := [.int 1, .int 1, .int 2]) (rest := []) E hml hl.1 (y_isIn_v6 l D cI cS τ ρ hW H hT_7 a0 ha0) lk_X12_106 yd_X12_isIn hT_7 ha0 rfl (by decide) hS_7 (fun _ h => h.elim) ⟨by decide, by decide⟩ (Nat.le_of_ble_eq_true rfl) ⟨by decide, by decide⟩ rfl dX12_leave_13 (fun r_9 H_9 locs_9 p_9 hT_9 hk_9 hS_9 => ?_)
  have p_9 : H = H_9 ∧ (r_9 = 0 ∨ r_9 = 1) ∧ ((r_9.toInt = 1 ∧ ((ai H (ρ a0 0) 288).toInt = 1 ∨ (ai H (ρ a0 0) 288).toInt = 2)) ∨ (r_9.toInt = 0 ∧ ¬ (ai H (ρ a0 0) 288).toInt = 1 ∧ ¬ (ai H (ρ a0 0) 288).toInt = 2)) := p_9
  obtain ⟨rfl, p_9_0, p_9_1⟩ := p_9
  have z_9 := b_iv p_9_0
  refine lv_if_eq (tgt := 27) hx hb dX12_leave_16 (by decide) (fun c_10 => ?_) (fun c_10 => ?_)
  · have f_10 : r_9.toInt = 0 := r_eq rfl (by decide) c_10
    refine lv_aload_n hx hb dX12_leave_27 rfl (lv_at hl 0 rfl) ?_
    refine lv_iload_n hx hb dX12_leave_28 rfl (lv_at hl 1 rfl) ?_
    refine lv_iconst (v := 4) hx hb dX12_leave_29 (by decide) ?_
    refine lv_bipush (v := 7) hx hb dX12_leave_30 (by decide) ?_
    refine th_Vi (As := [.int 1, .int 4, .int 7]) (rest := []) E hml hl.1 (y_isIn_v2 l D cI cS τ ρ hW H hT_9 a0 ha0) lk_X12_106 yd_X12_isIn hT_9 ha0 rfl (by decide) hS_9 (fun _ h => h.elim) ⟨by decide, by decide⟩ (Nat.le_of_ble_eq_true rfl) ⟨by decide, by decide⟩ rfl dX12_leave_32 (fun r_11 H_11 locs_11 p_11 hT_11 hk_11 hS_11 => ?_)
    have p_11 : H = H_11 ∧ (r_11 = 0 ∨ r_11 = 1) ∧ ((r_11.toInt = 1 ∧ ((ai H (ρ a0 0) 288).toInt = 4 ∨ (ai H (ρ a0 0) 288).toInt = 7)) ∨ (r_11.toInt = 0 ∧ ¬ (ai H (ρ a0 0) 288).toInt = 4 ∧ ¬ (ai H (ρ a0 0) 288).toInt = 7)) := p_11
    obtain ⟨rfl, p_11_0, p_11_1⟩ := p_11
    have z_11 := b_iv p_11_0
    refine lv_if_ne (tgt := 48) hx hb dX12_leave_35 (by decide) (fun c_12 => ?_) (fun c_12 => ?_)
    · have f_12 : ¬ r_11.toInt = 0 := r_ne rfl (by decide) c_12
      have nz_r_11 : ¬ r_11 = 0 := c_12
      exact J_48 H locs_11 _ hT_11 hS_11 hl ⟨hI.1, hI.2.1, hI.2.2.1, hI.2.2.2.1, hI.2.2.2.2.1, hI.2.2.2.2.2⟩
    · have f_12 : r_11.toInt = 0 := r_eq rfl (by decide) c_12
      refine lv_aload_n hx hb dX12_leave_38 rfl (lv_at hl 0 rfl) ?_
      refine lv_iload_n hx hb dX12_leave_39 rfl (lv_at hl 1 rfl) ?_
      refine lv_iconst (v := 0) hx hb dX12_leave_40 (by decide) ?_
      refine th_Vi (As := [.int 1, .int 0]) (rest := []) E hml hl.1 (y_get_v20 l D cI cS τ ρ hW H hT_11 a0 ha0) lk_X12_99 yd_X12_get hT_11 ha0 rfl (by decide) hS_11 (fun _ h => h.elim) ⟨by decide, by decide⟩ (Nat.le_of_ble_eq_true rfl) ⟨by decide, by decide⟩ rfl dX12_leave_41 (fun r_13 H_13 locs_13 p_13 hT_13 hk_13 hS_13 => ?_)
      have p_13 : H = H_13 ∧ (ai H (ρ a0 0) 288 = r_13) := p_13
      obtain ⟨rfl, p_13_0⟩ := p_13
      have c_r_13 := congrArg Int32.toInt p_13_0
      refine lv_iconst (v := 3) hx hb dX12_leave_44 (by decide) ?_
      refine lv_icmp_ne (tgt := 74) hx hb dX12_leave_45 (by decide) (fun c_14 => ?_) (fun c_14 => ?_)
      · have f_14 : ¬ r_13.toInt = 3 := r_ne rfl (by decide) c_14
        refine lv_bipush (v := (-2)) hx hb dX12_leave_74 (by decide) ?_
        exact th_iret E hr hlk hs hT_13 hS_13 ⟨hI.1, hI.2.1, hI.2.2.1, hI.2.2.2.1, hI.2.2.2.2.1, hI.2.2.2.2.2⟩ dX12_leave_76
      · have f_14 : r_13.toInt = 3 := r_eq rfl (by decide) c_14
        exact J_48 H locs_13 _ hT_13 hS_13 hl ⟨hI.1, hI.2.1, hI.2.2.1, hI.2.2.2.1, hI.2.2.2.2.1, hI.2.2.2.2.2⟩
  · have f_10 : ¬ r_9.toInt = 0 := r_ne rfl (by decide) c_10
    have nz_r_9 : ¬ r_9 = 0 := c_10
    refine lv_aload_n hx hb dX12_leave_19 rfl (lv_at hl 0 rfl) ?_
    refine lv_iload_n hx hb dX12_leave_20 rfl (lv_at hl 1 rfl) ?_
    refine th_Vv (As := [.int 1]) (rest := []) E hml hl.1 (y_shuts_v2 l D cI cS τ ρ hW H hT_9 a0 ha0 N hN0 hN1 ⟨hI.1, hI.2.1, hI.2.2.1, hI.2.2.2.1, hI.2.2.2.2.1, hI.2.2.2.2.2⟩) lk_X12_180 yd_X12_shuts hT_9 ha0 rfl (by decide) hS_9 (fun q h => (Or.inl h)) ⟨by decide, by decide⟩ (Nat.le_of_ble_eq_true rfl) ⟨by decide, by decide⟩ rfl dX12_leave_21 (fun H_15 locs_15 p_15 hT_15 hk_15 hS_15 => ?_)
    have p_15 : (IM D ρ N H_15 a0) ∧ ((ai H (ρ a0 0) 976).toInt ≤ (ai H_15 (ρ a0 0) 976).toInt) := p_15
    obtain ⟨p_15_0, p_15_1⟩ := p_15
    have mn_15 : (ai H (ρ a0 0) 976).toInt ≤ (ai H_15 (ρ a0 0) 976).toInt := by exact p_15_1
    refine lv_goto (tgt := 77) hx hb dX12_leave_24 (by decide) ?_
    exact J_77 H_15 locs_15 _ hT_15 hS_15 hl ⟨p_15_0.1, p_15_0.2.1, p_15_0.2.2.1, p_15_0.2.2.2.1, p_15_0.2.2.2.2.1, p_15_0.2.2.2.2.2⟩
set_option maxHeartbeats 4000000 in
set_option maxRecDepth 100000 in
/-- the reference: leave -/
theorem y_leave_v3 (l : Launch) (D : va_G) (cI cS : ClassId) (τ : Nat → Option Nat) (ρ : Nat → Nat → Nat) (hW : WF τ ρ) (H : Heap) (hT : TH D cI cS τ ρ H) (a0 : Nat) (x0 : Int32) (ha0 : τ a0 = some 12) (N : Int) (hN0 : 0 ≤ N) (hN1 : N ≤ 600) (hI : IM D ρ N H a0) (hp0 : x0.toInt < 0 ∨ 1 < x0.toInt) : MI l D cI cS τ ρ yX12_leave cX12_leave 2 (some .int) 2 45 H [.ref a0, .int x0] (fun (r : Int32) (u : Heap) => (IM D ρ N u a0)) (fun q => False) := by
  refine MI.of (by decide) (Nat.le_of_ble_eq_true rfl) ?_
  intro p e s m args below meth c E hml hr hlk hs ls hl
  have hx := E.1
  have hb := E.2.1
  have hown := E.2.2.1
  have hts := E.2.2.2.1
  have hS : SS (fun q => False) H H [] := SS.rf
  have hl : lv_has ls 2 [(0, .ref a0), (1, .int x0)] := hl
  have n01 := hI.2.2.2.2.2.1
  have n23 := hI.2.2.2.2.2.2.1
  refine lv_iload_n hx hb dX12_leave_0 rfl (lv_at hl 1 rfl) ?_
  refine th_Si (As := [.int x0]) (rest := []) E hml hl.1 (y_isEnd_v3 l D cI cS τ ρ hW H hT x0) lk_X12_160 yd_X12_isEnd hS (fun _ h => h.elim) ⟨by decide, by decide⟩ (Nat.le_of_ble_eq_true rfl) ⟨by decide, by decide⟩ rfl dX12_leave_1 (fun r_1 H_1 locs_1 p_1 hT_1 hk_1 hS_1 => ?_)
  have p_1 : H = H_1 ∧ (r_1 = 0 ∨ r_1 = 1) ∧ ((r_1.toInt = 1 ∧ 0 ≤ x0.toInt ∧ x0.toInt ≤ 1) ∨ (r_1.toInt = 0 ∧ (x0.toInt < 0 ∨ 1 < x0.toInt))) := p_1
  obtain ⟨rfl, p_1_0, p_1_1⟩ := p_1
  have z_1 := b_iv p_1_0
  refine lv_if_ne (tgt := 9) hx hb dX12_leave_4 (by decide) (fun c_2 => False.elim (by have f_2 : ¬ r_1.toInt = 0 := r_ne rfl (by decide) c_2; omega)) (fun c_2 => ?_)
  refine lv_iconst (v := (-1)) hx hb dX12_leave_7 (by decide) ?_
  exact th_iret E hr hlk hs hT_1 hS_1 ⟨hI.1, hI.2.1, hI.2.2.1, hI.2.2.2.1, hI.2.2.2.2.1, hI.2.2.2.2.2⟩ dX12_leave_8
set_option maxHeartbeats 4000000 in
set_option maxRecDepth 100000 in
/-- the reference: in -/
theorem y_in_v8 (l : Launch) (D : va_G) (cI cS : ClassId) (τ : Nat → Option Nat) (ρ : Nat → Nat → Nat) (hW : WF τ ρ) (H : Heap) (hT : TH D cI cS τ ρ H) (x0 : Int64) : MI l D cI cS τ ρ yX12_in cX12_in 6 (some .boolean) 0 0 H [.long x0, .long 3, .long 7] (fun (r : Int32) (u : Heap) => (H = u) ∧ (r = 0 ∨ r = 1) ∧ ((r.toInt = 1 ∧ 3 ≤ x0.toInt ∧ x0.toInt ≤ 7) ∨ (r.toInt = 0 ∧ (x0.toInt < 3 ∨ 7 < x0.toInt)))) (fun q => False) := by
  refine MI.of (by decide) (Nat.le_of_ble_eq_true rfl) ?_
  intro p e s m args below meth c E hml hr hlk hs ls hl
  have hx := E.1
  have hb := E.2.1
  have hown := E.2.2.1
  have hts := E.2.2.2.1
  have hS : SS (fun q => False) H H [] := SS.rf
  have hl : lv_has ls 6 [(0, .long x0), (2, .long 3), (4, .long 7)] := hl
  refine lv_lload_n hx hb dX12_in_0 rfl (lv_at hl 0 rfl) ?_
  refine lv_lload_n hx hb dX12_in_1 rfl (lv_at hl 1 rfl) ?_
  refine W.lcmp hx hb dX12_in_2 ?_
  refine lv_topi (fun x_1 ex_1 => ?_)
  have q_1 := l_cmp (a := x0) (b := (3 : Int64)) (m := x0.toInt) (n := 3) rfl (by decide) ex_1
  refine lv_if_lt (tgt := 17) hx hb dX12_in_3 (by decide) (fun c_2 => ?_) (fun c_2 => ?_)
  · have f_2 : x_1.toInt < 0 := r_lt rfl (by decide) c_2
    refine lv_iconst (v := 0) hx hb dX12_in_17 (by decide) ?_
    exact th_zret E hr hlk hs (Or.inl rfl) hT hS ⟨rfl, (Or.inl rfl), (by have : (0 : Int32).toInt = 0 := (by decide); omega)⟩ dX12_in_18
  · have f_2 : 0 ≤ x_1.toInt := r_nlt rfl (by decide) c_2
    refine lv_lload_n hx hb dX12_in_6 rfl (lv_at hl 0 rfl) ?_
    refine lv_lload hx hb dX12_in_7 (lv_at hl 2 rfl) ?_
    refine W.lcmp hx hb dX12_in_9 ?_
    refine lv_topi (fun x_3 ex_3 => ?_)
    have q_3 := l_cmp (a := x0) (b := (7 : Int64)) (m := x0.toInt) (n := 7) rfl (by decide) ex_3
    refine lv_if_gt (tgt := 17) hx hb dX12_in_10 (by decide) (fun c_4 => ?_) (fun c_4 => ?_)
    · have f_4 : 0 < x_3.toInt := r_lt (by decide) rfl c_4
      refine lv_iconst (v := 0) hx hb dX12_in_17 (by decide) ?_
      exact th_zret E hr hlk hs (Or.inl rfl) hT hS ⟨rfl, (Or.inl rfl), (by have : (0 : Int32).toInt = 0 := (by decide); omega)⟩ dX12_in_18
    · have f_4 : x_3.toInt ≤ 0 := r_nlt (by decide) rfl c_4
      refine lv_iconst (v := 1) hx hb dX12_in_13 (by decide) ?_
      refine lv_goto (tgt := 18) hx hb dX12_in_14 (by decide) ?_
      exact th_zret E hr hlk hs (Or.inr rfl) hT hS ⟨rfl, (Or.inr rfl), (by have : (1 : Int32).toInt = 1 := (by decide); omega)⟩ dX12_in_18
set_option maxHeartbeats 4000000 in
set_option maxRecDepth 100000 in
/-- the reference: quit -/
theorem y_quit (l : Launch) (D : va_G) (cI cS : ClassId) (τ : Nat → Option Nat) (ρ : Nat → Nat → Nat) (hW : WF τ ρ) (H : Heap) (hT : TH D cI cS τ ρ H) (a0 : Nat) (ha0 : τ a0 = some 12) (N : Int) (hN0 : 0 ≤ N) (hN1 : N ≤ 600) (hI : IM D ρ N H a0) : MI l D cI cS τ ρ yX12_quit cX12_quit 3 (some .int) 2 46 H [.ref a0, .int 0] (fun (r : Int32) (u : Heap) => (IM D ρ N u a0)) (fun q => q = ρ a0 2 ∨ q = ρ a0 0) := by
  refine MI.of (by decide) (Nat.le_of_ble_eq_true rfl) ?_
  intro p e s m args below meth c E hml hr hlk hs ls hl
  have hx := E.1
  have hb := E.2.1
  have hown := E.2.2.1
  have hts := E.2.2.2.1
  have hS : SS (fun q => q = ρ a0 2 ∨ q = ρ a0 0) H H [] := SS.rf
  have hl : lv_has ls 3 [(0, .ref a0), (1, .int 0)] := hl
  have n01 := hI.2.2.2.2.2.1
  have n23 := hI.2.2.2.2.2.2.1
  have J_53 : ∀ (H_c53 : Heap) (lc_c53 : List Loc) (ls : Array Slot) (y53_2 : Int32), TH D cI cS τ ρ H_c53 → SS (fun q => q = ρ a0 2 ∨ q = ρ a0 0) H H_c53 lc_c53 → lv_has ls 3 [(0, .ref a0), (1, .int 0), (2, .int y53_2)] → IM D ρ N H_c53 a0 → W p l e (rmO 2 46) s m args below meth c H_c53 lc_c53 0 0 (MQ below (va_Qi (fun (r : Int32) (u : Heap) => (IM D ρ N u a0)) (Bt D cI cS τ ρ H) (fun q => q = ρ a0 2 ∨ q = ρ a0 0)) args s 0 0 (fun q => q = ρ a0 2 ∨ q = ρ a0 0)) (F0 m 53 ls []) := by
    intro H_c53 lc_c53 ls y53_2 hT_c53 hS_c53 hl hI_c53
    refine lv_aload_n hx hb dX12_quit_53 rfl (lv_at hl 0 rfl) ?_
    refine lv_iload_n hx hb dX12_quit_54 rfl (lv_at hl 1 rfl) ?_
    refine th_Vv (As := [.int 0]) (rest := []) E hml hl.1 (y_shuts l D cI cS τ ρ hW H_c53 hT_c53 a0 ha0 N hN0 hN1 ⟨hI_c53.1, hI_c53.2.1, hI_c53.2.2.1, hI_c53.2.2.2.1, hI_c53.2.2.2.2.1, hI_c53.2.2.2.2.2⟩) lk_X12_180 yd_X12_shuts hT_c53 ha0 rfl (by decide) hS_c53 (fun q h => (Or.inr h)) ⟨by decide, by decide⟩ (Nat.le_of_ble_eq_true rfl) ⟨by decide, by decide⟩ rfl dX12_quit_55 (fun H_1 locs_1 p_1 hT_1 hk_1 hS_1 => ?_)
    have p_1 : (IM D ρ N H_1 a0) ∧ ((ai H_c53 (ρ a0 0) 976).toInt ≤ (ai H_1 (ρ a0 0) 976).toInt) := p_1
    obtain ⟨p_1_0, p_1_1⟩ := p_1
    have mn_1 : (ai H_c53 (ρ a0 0) 976).toInt ≤ (ai H_1 (ρ a0 0) 976).toInt := by exact p_1_1
    refine lv_iload_n hx hb dX12_quit_58 rfl (lv_at hl 2 rfl) ?_
    exact th_iret E hr hlk hs hT_1 hS_1 ⟨p_1_0.1, p_1_0.2.1, p_1_0.2.2.1, p_1_0.2.2.2.1, p_1_0.2.2.2.2.1, p_1_0.2.2.2.2.2⟩ dX12_quit_59
  refine lv_iload_n hx hb dX12_quit_0 rfl (lv_at hl 1 rfl) ?_
  refine th_Si (As := [.int 0]) (rest := []) E hml hl.1 (y_isEnd l D cI cS τ ρ hW H hT) lk_X12_160 yd_X12_isEnd hS (fun _ h => h.elim) ⟨by decide, by decide⟩ (Nat.le_of_ble_eq_true rfl) ⟨by decide, by decide⟩ rfl dX12_quit_1 (fun r_2 H_2 locs_2 p_2 hT_2 hk_2 hS_2 => ?_)
  have p_2 : H = H_2 ∧ (r_2 = 0 ∨ r_2 = 1) ∧ ((r_2.toInt = 1 ∧ 0 ≤ 0 ∧ 0 ≤ 1) ∨ (r_2.toInt = 0 ∧ (0 < 0 ∨ 1 < 0))) := p_2
  obtain ⟨rfl, p_2_0, p_2_1⟩ := p_2
  have z_2 := b_iv p_2_0
  refine lv_if_ne (tgt := 9) hx hb dX12_quit_4 (by decide) (fun c_3 => ?_) (fun c_3 => False.elim (by have f_3 : r_2.toInt = 0 := r_eq rfl (by decide) c_3; omega))
  refine lv_aload_n hx hb dX12_quit_9 rfl (lv_at hl 0 rfl) ?_
  refine lv_iload_n hx hb dX12_quit_10 rfl (lv_at hl 1 rfl) ?_
  refine lv_iconst (v := 0) hx hb dX12_quit_11 (by decide) ?_
  refine th_Vi (As := [.int 0, .int 0]) (rest := []) E hml hl.1 (y_get_v21 l D cI cS τ ρ hW H hT_2 a0 ha0) lk_X12_99 yd_X12_get hT_2 ha0 rfl (by decide) hS_2 (fun _ h => h.elim) ⟨by decide, by decide⟩ (Nat.le_of_ble_eq_true rfl) ⟨by decide, by decide⟩ rfl dX12_quit_12 (fun r_4 H_4 locs_4 p_4 hT_4 hk_4 hS_4 => ?_)
  have p_4 : H = H_4 ∧ (ai H (ρ a0 0) 0 = r_4) := p_4
  obtain ⟨rfl, p_4_0⟩ := p_4
  have c_r_4 := congrArg Int32.toInt p_4_0
  refine lv_istore_n (lv' := [(2, .int r_4), (0, .ref a0), (1, .int 0)]) hx hb dX12_quit_15 rfl hl (by decide) rfl (fun ls hl => ?_)
  refine lv_iload_n hx hb dX12_quit_16 rfl (lv_at hl 0 rfl) ?_
  refine lv_if_ne (tgt := 23) hx hb dX12_quit_17 (by decide) (fun c_5 => ?_) (fun c_5 => ?_)
  · have f_5 : ¬ r_4.toInt = 0 := r_ne rfl (by decide) c_5
    have nz_r_4 : ¬ r_4 = 0 := c_5
    refine lv_iload_n hx hb dX12_quit_23 rfl (lv_at hl 0 rfl) ?_
    obtain ⟨x_6, ex_6⟩ : ∃ y : Int64, r_4.toInt64 = y := ⟨_, rfl⟩
    refine lv_i2l (v := x_6) hx hb dX12_quit_24 ex_6 ?_
    have q_6 : x_6.toInt = r_4.toInt := by rw [← ex_6]; exact Int32.toInt_toInt64 _
    refine lv_ldc2 (v := 3) hx hb hown (hts _ qw_1206) dX12_quit_25 ?_
    refine lv_ldc2 (v := 7) hx hb hown (hts _ qw_1210) dX12_quit_28 ?_
    refine th_Si (As := [.long x_6, .long 3, .long 7]) (rest := []) E hml hl.1 (y_in_v8 l D cI cS τ ρ hW H hT_4 x_6) lk_X12_54 yd_X12_in hS_4 (fun _ h => h.elim) ⟨by decide, by decide⟩ (Nat.le_of_ble_eq_true rfl) ⟨by decide, by decide⟩ rfl dX12_quit_31 (fun r_7 H_7 locs_7 p_7 hT_7 hk_7 hS_7 => ?_)
    have p_7 : H = H_7 ∧ (r_7 = 0 ∨ r_7 = 1) ∧ ((r_7.toInt = 1 ∧ 3 ≤ x_6.toInt ∧ x_6.toInt ≤ 7) ∨ (r_7.toInt = 0 ∧ (x_6.toInt < 3 ∨ 7 < x_6.toInt))) := p_7
    obtain ⟨rfl, p_7_0, p_7_1⟩ := p_7
    have z_7 := b_iv p_7_0
    refine lv_if_eq (tgt := 53) hx hb dX12_quit_34 (by decide) (fun c_8 => ?_) (fun c_8 => ?_)
    · have f_8 : r_7.toInt = 0 := r_eq rfl (by decide) c_8
      exact J_53 H locs_7 _ r_4 hT_7 hS_7 (lv_sub hl [1, 2, 0] rfl) ⟨hI.1, hI.2.1, hI.2.2.1, hI.2.2.2.1, hI.2.2.2.2.1, hI.2.2.2.2.2⟩
    · have f_8 : ¬ r_7.toInt = 0 := r_ne rfl (by decide) c_8
      have nz_r_7 : ¬ r_7 = 0 := c_8
      refine lv_aload_n hx hb dX12_quit_37 rfl (lv_at hl 1 rfl) ?_
      refine lv_iload_n hx hb dX12_quit_38 rfl (lv_at hl 2 rfl) ?_
      refine lv_aload_n hx hb dX12_quit_39 rfl (lv_at hl 1 rfl) ?_
      refine lv_iload_n hx hb dX12_quit_40 rfl (lv_at hl 2 rfl) ?_
      refine lv_aload_n hx hb dX12_quit_41 rfl (lv_at hl 1 rfl) ?_
      refine lv_iload_n hx hb dX12_quit_42 rfl (lv_at hl 2 rfl) ?_
      refine lv_iconst (v := 2) hx hb dX12_quit_43 (by decide) ?_
      refine th_Vi (As := [.int 0, .int 2]) (rest := [.int 0, .ref a0, .int 0, .ref a0]) E hml hl.1 (y_get_v16 l D cI cS τ ρ hW H hT_7 a0 ha0) lk_X12_99 yd_X12_get hT_7 ha0 rfl (by decide) hS_7 (fun _ h => h.elim) ⟨by decide, by decide⟩ (Nat.le_of_ble_eq_true rfl) ⟨by decide, by decide⟩ rfl dX12_quit_44 (fun r_9 H_9 locs_9 p_9 hT_9 hk_9 hS_9 => ?_)
      have p_9 : H = H_9 ∧ (ai H (ρ a0 0) 2 = r_9) := p_9
      obtain ⟨rfl, p_9_0⟩ := p_9
      have b_r_9 : 0 ≤ r_9.toInt ∧ r_9.toInt ≤ N + 2 := by rw [← p_9_0]; exact hI.1 2 (by decide)
      have c_r_9 := congrArg Int32.toInt p_9_0
      refine th_Vi (As := [.int 0, .int r_9]) (rest := [.int 0, .ref a0]) E hml hl.1 (y_number_v3 l D cI cS τ ρ hW H hT_9 a0 r_9 ha0) lk_X12_112 yd_X12_number hT_9 ha0 rfl (by decide) hS_9 (fun _ h => h.elim) ⟨by decide, by decide⟩ (Nat.le_of_ble_eq_true rfl) ⟨by decide, by decide⟩ rfl dX12_quit_47 (fun r_10 H_10 locs_10 p_10 hT_10 hk_10 hS_10 => ?_)
      have p_10 : H = H_10 := p_10
      obtain rfl := p_10
      refine th_Vv (As := [.int 0, .int r_10]) (rest := []) E hml hl.1 (y_breaks_v2 l D cI cS τ ρ hW H hT_10 a0 r_10 ha0 N hN0 hN1 ⟨hI.1, hI.2.1, hI.2.2.1, hI.2.2.2.1, hI.2.2.2.2.1, hI.2.2.2.2.2⟩) lk_X12_132 yd_X12_breaks hT_10 ha0 rfl (by decide) hS_10 (fun q => (fun h => h.elim (fun h => (Or.inl h)) (fun h => (Or.inr h)))) ⟨by decide, by decide⟩ (Nat.le_of_ble_eq_true rfl) ⟨by decide, by decide⟩ rfl dX12_quit_50 (fun H_11 locs_11 p_11 hT_11 hk_11 hS_11 => ?_)
      have p_11 : (IM D ρ N H_11 a0) ∧ ((ai H (ρ a0 0) 976).toInt ≤ (ai H_11 (ρ a0 0) 976).toInt) := p_11
      obtain ⟨p_11_0, p_11_1⟩ := p_11
      have mn_11 : (ai H (ρ a0 0) 976).toInt ≤ (ai H_11 (ρ a0 0) 976).toInt := by exact p_11_1
      exact J_53 H_11 locs_11 _ r_4 hT_11 hS_11 (lv_sub hl [1, 2, 0] rfl) ⟨p_11_0.1, p_11_0.2.1, p_11_0.2.2.1, p_11_0.2.2.2.1, p_11_0.2.2.2.2.1, p_11_0.2.2.2.2.2⟩
  · have f_5 : r_4.toInt = 0 := r_eq rfl (by decide) c_5
    refine lv_bipush (v := (-2)) hx hb dX12_quit_20 (by decide) ?_
    exact th_iret E hr hlk hs hT_4 hS_4 ⟨hI.1, hI.2.1, hI.2.2.1, hI.2.2.2.1, hI.2.2.2.2.1, hI.2.2.2.2.2⟩ dX12_quit_22
set_option maxHeartbeats 4000000 in
set_option maxRecDepth 100000 in
/-- the reference: quit -/
theorem y_quit_v2 (l : Launch) (D : va_G) (cI cS : ClassId) (τ : Nat → Option Nat) (ρ : Nat → Nat → Nat) (hW : WF τ ρ) (H : Heap) (hT : TH D cI cS τ ρ H) (a0 : Nat) (ha0 : τ a0 = some 12) (N : Int) (hN0 : 0 ≤ N) (hN1 : N ≤ 600) (hI : IM D ρ N H a0) : MI l D cI cS τ ρ yX12_quit cX12_quit 3 (some .int) 2 46 H [.ref a0, .int 1] (fun (r : Int32) (u : Heap) => (IM D ρ N u a0)) (fun q => q = ρ a0 2 ∨ q = ρ a0 0) := by
  refine MI.of (by decide) (Nat.le_of_ble_eq_true rfl) ?_
  intro p e s m args below meth c E hml hr hlk hs ls hl
  have hx := E.1
  have hb := E.2.1
  have hown := E.2.2.1
  have hts := E.2.2.2.1
  have hS : SS (fun q => q = ρ a0 2 ∨ q = ρ a0 0) H H [] := SS.rf
  have hl : lv_has ls 3 [(0, .ref a0), (1, .int 1)] := hl
  have n01 := hI.2.2.2.2.2.1
  have n23 := hI.2.2.2.2.2.2.1
  have J_53 : ∀ (H_c53 : Heap) (lc_c53 : List Loc) (ls : Array Slot) (y53_2 : Int32), TH D cI cS τ ρ H_c53 → SS (fun q => q = ρ a0 2 ∨ q = ρ a0 0) H H_c53 lc_c53 → lv_has ls 3 [(0, .ref a0), (1, .int 1), (2, .int y53_2)] → IM D ρ N H_c53 a0 → W p l e (rmO 2 46) s m args below meth c H_c53 lc_c53 0 0 (MQ below (va_Qi (fun (r : Int32) (u : Heap) => (IM D ρ N u a0)) (Bt D cI cS τ ρ H) (fun q => q = ρ a0 2 ∨ q = ρ a0 0)) args s 0 0 (fun q => q = ρ a0 2 ∨ q = ρ a0 0)) (F0 m 53 ls []) := by
    intro H_c53 lc_c53 ls y53_2 hT_c53 hS_c53 hl hI_c53
    refine lv_aload_n hx hb dX12_quit_53 rfl (lv_at hl 0 rfl) ?_
    refine lv_iload_n hx hb dX12_quit_54 rfl (lv_at hl 1 rfl) ?_
    refine th_Vv (As := [.int 1]) (rest := []) E hml hl.1 (y_shuts_v2 l D cI cS τ ρ hW H_c53 hT_c53 a0 ha0 N hN0 hN1 ⟨hI_c53.1, hI_c53.2.1, hI_c53.2.2.1, hI_c53.2.2.2.1, hI_c53.2.2.2.2.1, hI_c53.2.2.2.2.2⟩) lk_X12_180 yd_X12_shuts hT_c53 ha0 rfl (by decide) hS_c53 (fun q h => (Or.inr h)) ⟨by decide, by decide⟩ (Nat.le_of_ble_eq_true rfl) ⟨by decide, by decide⟩ rfl dX12_quit_55 (fun H_1 locs_1 p_1 hT_1 hk_1 hS_1 => ?_)
    have p_1 : (IM D ρ N H_1 a0) ∧ ((ai H_c53 (ρ a0 0) 976).toInt ≤ (ai H_1 (ρ a0 0) 976).toInt) := p_1
    obtain ⟨p_1_0, p_1_1⟩ := p_1
    have mn_1 : (ai H_c53 (ρ a0 0) 976).toInt ≤ (ai H_1 (ρ a0 0) 976).toInt := by exact p_1_1
    refine lv_iload_n hx hb dX12_quit_58 rfl (lv_at hl 2 rfl) ?_
    exact th_iret E hr hlk hs hT_1 hS_1 ⟨p_1_0.1, p_1_0.2.1, p_1_0.2.2.1, p_1_0.2.2.2.1, p_1_0.2.2.2.2.1, p_1_0.2.2.2.2.2⟩ dX12_quit_59
  refine lv_iload_n hx hb dX12_quit_0 rfl (lv_at hl 1 rfl) ?_
  refine th_Si (As := [.int 1]) (rest := []) E hml hl.1 (y_isEnd_v2 l D cI cS τ ρ hW H hT) lk_X12_160 yd_X12_isEnd hS (fun _ h => h.elim) ⟨by decide, by decide⟩ (Nat.le_of_ble_eq_true rfl) ⟨by decide, by decide⟩ rfl dX12_quit_1 (fun r_2 H_2 locs_2 p_2 hT_2 hk_2 hS_2 => ?_)
  have p_2 : H = H_2 ∧ (r_2 = 0 ∨ r_2 = 1) ∧ ((r_2.toInt = 1 ∧ 0 ≤ 1 ∧ 1 ≤ 1) ∨ (r_2.toInt = 0 ∧ (1 < 0 ∨ 1 < 1))) := p_2
  obtain ⟨rfl, p_2_0, p_2_1⟩ := p_2
  have z_2 := b_iv p_2_0
  refine lv_if_ne (tgt := 9) hx hb dX12_quit_4 (by decide) (fun c_3 => ?_) (fun c_3 => False.elim (by have f_3 : r_2.toInt = 0 := r_eq rfl (by decide) c_3; omega))
  refine lv_aload_n hx hb dX12_quit_9 rfl (lv_at hl 0 rfl) ?_
  refine lv_iload_n hx hb dX12_quit_10 rfl (lv_at hl 1 rfl) ?_
  refine lv_iconst (v := 0) hx hb dX12_quit_11 (by decide) ?_
  refine th_Vi (As := [.int 1, .int 0]) (rest := []) E hml hl.1 (y_get_v20 l D cI cS τ ρ hW H hT_2 a0 ha0) lk_X12_99 yd_X12_get hT_2 ha0 rfl (by decide) hS_2 (fun _ h => h.elim) ⟨by decide, by decide⟩ (Nat.le_of_ble_eq_true rfl) ⟨by decide, by decide⟩ rfl dX12_quit_12 (fun r_4 H_4 locs_4 p_4 hT_4 hk_4 hS_4 => ?_)
  have p_4 : H = H_4 ∧ (ai H (ρ a0 0) 288 = r_4) := p_4
  obtain ⟨rfl, p_4_0⟩ := p_4
  have c_r_4 := congrArg Int32.toInt p_4_0
  refine lv_istore_n (lv' := [(2, .int r_4), (0, .ref a0), (1, .int 1)]) hx hb dX12_quit_15 rfl hl (by decide) rfl (fun ls hl => ?_)
  refine lv_iload_n hx hb dX12_quit_16 rfl (lv_at hl 0 rfl) ?_
  refine lv_if_ne (tgt := 23) hx hb dX12_quit_17 (by decide) (fun c_5 => ?_) (fun c_5 => ?_)
  · have f_5 : ¬ r_4.toInt = 0 := r_ne rfl (by decide) c_5
    have nz_r_4 : ¬ r_4 = 0 := c_5
    refine lv_iload_n hx hb dX12_quit_23 rfl (lv_at hl 0 rfl) ?_
    obtain ⟨x_6, ex_6⟩ : ∃ y : Int64, r_4.toInt64 = y := ⟨_, rfl⟩
    refine lv_i2l (v := x_6) hx hb dX12_quit_24 ex_6 ?_
    have q_6 : x_6.toInt = r_4.toInt := by rw [← ex_6]; exact Int32.toInt_toInt64 _
    refine lv_ldc2 (v := 3) hx hb hown (hts _ qw_1206) dX12_quit_25 ?_
    refine lv_ldc2 (v := 7) hx hb hown (hts _ qw_1210) dX12_quit_28 ?_
    refine th_Si (As := [.long x_6, .long 3, .long 7]) (rest := []) E hml hl.1 (y_in_v8 l D cI cS τ ρ hW H hT_4 x_6) lk_X12_54 yd_X12_in hS_4 (fun _ h => h.elim) ⟨by decide, by decide⟩ (Nat.le_of_ble_eq_true rfl) ⟨by decide, by decide⟩ rfl dX12_quit_31 (fun r_7 H_7 locs_7 p_7 hT_7 hk_7 hS_7 => ?_)
    have p_7 : H = H_7 ∧ (r_7 = 0 ∨ r_7 = 1) ∧ ((r_7.toInt = 1 ∧ 3 ≤ x_6.toInt ∧ x_6.toInt ≤ 7) ∨ (r_7.toInt = 0 ∧ (x_6.toInt < 3 ∨ 7 < x_6.toInt))) := p_7
    obtain ⟨rfl, p_7_0, p_7_1⟩ := p_7
    have z_7 := b_iv p_7_0
    refine lv_if_eq (tgt := 53) hx hb dX12_quit_34 (by decide) (fun c_8 => ?_) (fun c_8 => ?_)
    · have f_8 : r_7.toInt = 0 := r_eq rfl (by decide) c_8
      exact J_53 H locs_7 _ r_4 hT_7 hS_7 (lv_sub hl [1, 2, 0] rfl) ⟨hI.1, hI.2.1, hI.2.2.1, hI.2.2.2.1, hI.2.2.2.2.1, hI.2.2.2.2.2⟩
    · have f_8 : ¬ r_7.toInt = 0 := r_ne rfl (by decide) c_8
      have nz_r_7 : ¬ r_7 = 0 := c_8
      refine lv_aload_n hx hb dX12_quit_37 rfl (lv_at hl 1 rfl) ?_
      refine lv_iload_n hx hb dX12_quit_38 rfl (lv_at hl 2 rfl) ?_
      refine lv_aload_n hx hb dX12_quit_39 rfl (lv_at hl 1 rfl) ?_
      refine lv_iload_n hx hb dX12_quit_40 rfl (lv_at hl 2 rfl) ?_
      refine lv_aload_n hx hb dX12_quit_41 rfl (lv_at hl 1 rfl) ?_
      refine lv_iload_n hx hb dX12_quit_42 rfl (lv_at hl 2 rfl) ?_
      refine lv_iconst (v := 2) hx hb dX12_quit_43 (by decide) ?_
      refine th_Vi (As := [.int 1, .int 2]) (rest := [.int 1, .ref a0, .int 1, .ref a0]) E hml hl.1 (y_get_v32 l D cI cS τ ρ hW H hT_7 a0 ha0) lk_X12_99 yd_X12_get hT_7 ha0 rfl (by decide) hS_7 (fun _ h => h.elim) ⟨by decide, by decide⟩ (Nat.le_of_ble_eq_true rfl) ⟨by decide, by decide⟩ rfl dX12_quit_44 (fun r_9 H_9 locs_9 p_9 hT_9 hk_9 hS_9 => ?_)
      have p_9 : H = H_9 ∧ (ai H (ρ a0 0) 290 = r_9) := p_9
      obtain ⟨rfl, p_9_0⟩ := p_9
      have b_r_9 : 0 ≤ r_9.toInt ∧ r_9.toInt ≤ N + 2 := by rw [← p_9_0]; exact hI.1 290 (by decide)
      have c_r_9 := congrArg Int32.toInt p_9_0
      refine th_Vi (As := [.int 1, .int r_9]) (rest := [.int 1, .ref a0]) E hml hl.1 (y_number_v2 l D cI cS τ ρ hW H hT_9 a0 r_9 ha0) lk_X12_112 yd_X12_number hT_9 ha0 rfl (by decide) hS_9 (fun _ h => h.elim) ⟨by decide, by decide⟩ (Nat.le_of_ble_eq_true rfl) ⟨by decide, by decide⟩ rfl dX12_quit_47 (fun r_10 H_10 locs_10 p_10 hT_10 hk_10 hS_10 => ?_)
      have p_10 : H = H_10 := p_10
      obtain rfl := p_10
      refine th_Vv (As := [.int 1, .int r_10]) (rest := []) E hml hl.1 (y_breaks l D cI cS τ ρ hW H hT_10 a0 r_10 ha0 N hN0 hN1 ⟨hI.1, hI.2.1, hI.2.2.1, hI.2.2.2.1, hI.2.2.2.2.1, hI.2.2.2.2.2⟩) lk_X12_132 yd_X12_breaks hT_10 ha0 rfl (by decide) hS_10 (fun q => (fun h => h.elim (fun h => (Or.inl h)) (fun h => (Or.inr h)))) ⟨by decide, by decide⟩ (Nat.le_of_ble_eq_true rfl) ⟨by decide, by decide⟩ rfl dX12_quit_50 (fun H_11 locs_11 p_11 hT_11 hk_11 hS_11 => ?_)
      have p_11 : (IM D ρ N H_11 a0) ∧ ((ai H (ρ a0 0) 976).toInt ≤ (ai H_11 (ρ a0 0) 976).toInt) := p_11
      obtain ⟨p_11_0, p_11_1⟩ := p_11
      have mn_11 : (ai H (ρ a0 0) 976).toInt ≤ (ai H_11 (ρ a0 0) 976).toInt := by exact p_11_1
      exact J_53 H_11 locs_11 _ r_4 hT_11 hS_11 (lv_sub hl [1, 2, 0] rfl) ⟨p_11_0.1, p_11_0.2.1, p_11_0.2.2.1, p_11_0.2.2.2.1, p_11_0.2.2.2.2.1, p_11_0.2.2.2.2.2⟩
  · have f_5 : r_4.toInt = 0 := r_eq rfl (by decide) c_5
    refine lv_bipush (v := (-2)) hx hb dX12_quit_20 (by decide) ?_
    exact th_iret E hr hlk hs hT_4 hS_4 ⟨hI.1, hI.2.1, hI.2.2.1, hI.2.2.2.1, hI.2.2.2.2.1, hI.2.2.2.2.2⟩ dX12_quit_22
set_option maxHeartbeats 4000000 in
set_option maxRecDepth 100000 in
/-- the reference: quit -/
theorem y_quit_v3 (l : Launch) (D : va_G) (cI cS : ClassId) (τ : Nat → Option Nat) (ρ : Nat → Nat → Nat) (hW : WF τ ρ) (H : Heap) (hT : TH D cI cS τ ρ H) (a0 : Nat) (x0 : Int32) (ha0 : τ a0 = some 12) (N : Int) (hN0 : 0 ≤ N) (hN1 : N ≤ 600) (hI : IM D ρ N H a0) (hp0 : x0.toInt < 0 ∨ 1 < x0.toInt) : MI l D cI cS τ ρ yX12_quit cX12_quit 3 (some .int) 2 45 H [.ref a0, .int x0] (fun (r : Int32) (u : Heap) => (IM D ρ N u a0)) (fun q => False) := by
  refine MI.of (by decide) (Nat.le_of_ble_eq_true rfl) ?_
  intro p e s m args below meth c E hml hr hlk hs ls hl
  have hx := E.1
  have hb := E.2.1
  have hown := E.2.2.1
  have hts := E.2.2.2.1
  have hS : SS (fun q => False) H H [] := SS.rf
  have hl : lv_has ls 3 [(0, .ref a0), (1, .int x0)] := hl
  have n01 := hI.2.2.2.2.2.1
  have n23 := hI.2.2.2.2.2.2.1
  refine lv_iload_n hx hb dX12_quit_0 rfl (lv_at hl 1 rfl) ?_
  refine th_Si (As := [.int x0]) (rest := []) E hml hl.1 (y_isEnd_v3 l D cI cS τ ρ hW H hT x0) lk_X12_160 yd_X12_isEnd hS (fun _ h => h.elim) ⟨by decide, by decide⟩ (Nat.le_of_ble_eq_true rfl) ⟨by decide, by decide⟩ rfl dX12_quit_1 (fun r_1 H_1 locs_1 p_1 hT_1 hk_1 hS_1 => ?_)
  have p_1 : H = H_1 ∧ (r_1 = 0 ∨ r_1 = 1) ∧ ((r_1.toInt = 1 ∧ 0 ≤ x0.toInt ∧ x0.toInt ≤ 1) ∨ (r_1.toInt = 0 ∧ (x0.toInt < 0 ∨ 1 < x0.toInt))) := p_1
  obtain ⟨rfl, p_1_0, p_1_1⟩ := p_1
  have z_1 := b_iv p_1_0
  refine lv_if_ne (tgt := 9) hx hb dX12_quit_4 (by decide) (fun c_2 => False.elim (by have f_2 : ¬ r_1.toInt = 0 := r_ne rfl (by decide) c_2; omega)) (fun c_2 => ?_)
  refine lv_iconst (v := (-1)) hx hb dX12_quit_7 (by decide) ?_
  exact th_iret E hr hlk hs hT_1 hS_1 ⟨hI.1, hI.2.1, hI.2.2.1, hI.2.2.2.1, hI.2.2.2.2.1, hI.2.2.2.2.2⟩ dX12_quit_8
set_option maxHeartbeats 4000000 in
set_option maxRecDepth 100000 in
/-- the reference: get -/
theorem y_get_v43 (l : Launch) (D : va_G) (cI cS : ClassId) (τ : Nat → Option Nat) (ρ : Nat → Nat → Nat) (hW : WF τ ρ) (H : Heap) (hT : TH D cI cS τ ρ H) (a0 : Nat) (ha0 : τ a0 = some 12) : MI l D cI cS τ ρ yX12_get cX12_get 3 (some .int) 0 0 H [.ref a0, .int 0, .int 6] (fun (r : Int32) (u : Heap) => (H = u) ∧ (ai H (ρ a0 0) 6 = r)) (fun q => False) := by
  refine MI.of (by decide) (Nat.le_of_ble_eq_true rfl) ?_
  intro p e s m args below meth c E hml hr hlk hs ls hl
  have hx := E.1
  have hb := E.2.1
  have hown := E.2.2.1
  have hts := E.2.2.2.1
  have hS : SS (fun q => False) H H [] := SS.rf
  have hl : lv_has ls 3 [(0, .ref a0), (1, .int 0), (2, .int 6)] := hl
  refine lv_aload_n hx hb dX12_get_0 rfl (lv_at hl 0 rfl) ?_
  refine gf_X12_7 E hT hW ha0 dX12_get_1 (fun h_1 => ?_)
  refine lv_sipush (v := 288) hx hb dX12_get_4 (by decide) ?_
  refine lv_iload_n hx hb dX12_get_7 rfl (lv_at hl 1 rfl) ?_
  refine lv_imul hx hb dX12_get_8 ?_
  refine th_topi (y := 0) (by decide) ?_
  refine lv_iload_n hx hb dX12_get_9 rfl (lv_at hl 2 rfl) ?_
  refine lv_iadd hx hb dX12_get_10 ?_
  refine th_topi (y := 6) (by decide) ?_
  refine th_iald E hT h_1 (by decide) (vp_in_iff.mpr ⟨by decide, by decide⟩) dX12_get_11 ?_
  refine th_topi (y := ai H (ρ a0 0) 6) rfl ?_
  refine lv_topi (fun x_2 ex_2 => ?_)
  have c_x_2 := congrArg Int32.toInt ex_2.symm
  exact th_iret E hr hlk hs hT hS ⟨rfl, ex_2.symm⟩ dX12_get_12
set_option maxHeartbeats 4000000 in
set_option maxRecDepth 100000 in
/-- the reference: there -/
theorem y_there (l : Launch) (D : va_G) (cI cS : ClassId) (τ : Nat → Option Nat) (ρ : Nat → Nat → Nat) (hW : WF τ ρ) (H : Heap) (hT : TH D cI cS τ ρ H) (a0 : Nat) (ha0 : τ a0 = some 12) : MI l D cI cS τ ρ yX12_there cX12_there 4 (some .int) 1 22 H [.ref a0, .int 0] (fun (r : Int32) (u : Heap) => (H = u)) (fun q => False) := by
  refine MI.of (by decide) (Nat.le_of_ble_eq_true rfl) ?_
  intro p e s m args below meth c E hml hr hlk hs ls hl
  have hx := E.1
  have hb := E.2.1
  have hown := E.2.2.1
  have hts := E.2.2.2.1
  have hS : SS (fun q => False) H H [] := SS.rf
  have hl : lv_has ls 4 [(0, .ref a0), (1, .int 0)] := hl
  have J_31 : ∀ (lc_c31 : List Loc) (ls : Array Slot) (y31_2 : Int32) (y31_3 : Int32) (z31_1 : Int32), SS (fun q => False) H H lc_c31 → lv_has ls 4 [(0, .ref a0), (1, .int 0), (2, .int y31_2), (3, .int y31_3)] → W p l e (rmO 1 22) s m args below meth c H lc_c31 0 0 (MQ below (va_Qi (fun (r : Int32) (u : Heap) => (H = u)) (Bt D cI cS τ ρ H) (fun q => False)) args s 0 0 (fun q => False)) (F0 m 31 ls [.int z31_1, .int 0]) := by
    intro lc_c31 ls y31_2 y31_3 z31_1 hS_c31 hl
    refine lv_aload_n hx hb dX12_there_31 rfl (lv_at hl 0 rfl) ?_
    refine lv_iload_n hx hb dX12_there_32 rfl (lv_at hl 1 rfl) ?_
    refine lv_bipush (v := 6) hx hb dX12_there_33 (by decide) ?_
    refine th_Vi (As := [.int 0, .int 6]) (rest := [.int z31_1, .int 0]) E hml hl.1 (y_get_v43 l D cI cS τ ρ hW H hT a0 ha0) lk_X12_99 yd_X12_get hT ha0 rfl (by decide) hS_c31 (fun _ h => h.elim) ⟨by decide, by decide⟩ (Nat.le_of_ble_eq_true rfl) ⟨by decide, by decide⟩ rfl dX12_there_35 (fun r_1 H_1 locs_1 p_1 hT_1 hk_1 hS_1 => ?_)
    have p_1 : H = H_1 ∧ (ai H (ρ a0 0) 6 = r_1) := p_1
    obtain ⟨rfl, p_1_0⟩ := p_1
    have c_r_1 := congrArg Int32.toInt p_1_0
    refine lv_isub hx hb dX12_there_38 ?_
    refine lv_topi (fun x_2 ex_2 => ?_)
    refine th_Si (As := [.int 0, .int x_2]) (rest := []) E hml hl.1 (y_greater_v5 l D cI cS τ ρ hW H hT_1 x_2) lk_X12_103 yd_X12_greater hS_1 (fun _ h => h.elim) ⟨by decide, by decide⟩ (Nat.le_of_ble_eq_true rfl) ⟨by decide, by decide⟩ rfl dX12_there_39 (fun r_3 H_3 locs_3 p_3 hT_3 hk_3 hS_3 => ?_)
    have p_3 : H = H_3 ∧ (0 ≤ r_3.toInt ∧ x_2.toInt ≤ r_3.toInt ∧ (r_3.toInt = 0 ∨ r_3.toInt = x_2.toInt)) := p_3
    obtain ⟨rfl, p_3_0⟩ := p_3
    exact th_iret E hr hlk hs hT_3 hS_3 rfl dX12_there_42
  refine lv_aload_n hx hb dX12_there_0 rfl (lv_at hl 0 rfl) ?_
  refine lv_iload_n hx hb dX12_there_1 rfl (lv_at hl 1 rfl) ?_
  refine lv_iconst (v := 5) hx hb dX12_there_2 (by decide) ?_
  refine th_Vi (As := [.int 0, .int 5]) (rest := []) E hml hl.1 (y_get_v22 l D cI cS τ ρ hW H hT a0 ha0) lk_X12_99 yd_X12_get hT ha0 rfl (by decide) hS (fun _ h => h.elim) ⟨by decide, by decide⟩ (Nat.le_of_ble_eq_true rfl) ⟨by decide, by decide⟩ rfl dX12_there_3 (fun r_4 H_4 locs_4 p_4 hT_4 hk_4 hS_4 => ?_)
  have p_4 : H = H_4 ∧ (ai H (ρ a0 0) 5 = r_4) := p_4
  obtain ⟨rfl, p_4_0⟩ := p_4
  have c_r_4 := congrArg Int32.toInt p_4_0
  refine lv_istore_n (lv' := [(2, .int r_4), (0, .ref a0), (1, .int 0)]) hx hb dX12_there_6 rfl hl (by decide) rfl (fun ls hl => ?_)
  refine lv_aload_n hx hb dX12_there_7 rfl (lv_at hl 1 rfl) ?_
  refine lv_iload_n hx hb dX12_there_8 rfl (lv_at hl 2 rfl) ?_
  refine lv_bipush (v := 17) hx hb dX12_there_9 (by decide) ?_
  refine th_Vi (As := [.int 0, .int 17]) (rest := []) E hml hl.1 (y_get_v28 l D cI cS τ ρ hW H hT_4 a0 ha0) lk_X12_99 yd_X12_get hT_4 ha0 rfl (by decide) hS_4 (fun _ h => h.elim) ⟨by decide, by decide⟩ (Nat.le_of_ble_eq_true rfl) ⟨by decide, by decide⟩ rfl dX12_there_11 (fun r_5 H_5 locs_5 p_5 hT_5 hk_5 hS_5 => ?_)
  have p_5 : H = H_5 ∧ (ai H (ρ a0 0) 17 = r_5) := p_5
  obtain ⟨rfl, p_5_0⟩ := p_5
  have c_r_5 := congrArg Int32.toInt p_5_0
  refine lv_istore_n (lv' := [(3, .int r_5), (2, .int r_4), (0, .ref a0), (1, .int 0)]) hx hb dX12_there_14 rfl hl (by decide) rfl (fun ls hl => ?_)
  refine lv_iconst (v := 0) hx hb dX12_there_15 (by decide) ?_
  refine lv_iload_n hx hb dX12_there_16 rfl (lv_at hl 0 rfl) ?_
  refine lv_bipush (v := (-4)) hx hb dX12_there_17 (by decide) ?_
  refine lv_icmp_ne (tgt := 26) hx hb dX12_there_19 (by decide) (fun c_6 => ?_) (fun c_6 => ?_)
  · have f_6 : ¬ r_5.toInt = -4 := r_ne rfl (by decide) c_6
    refine lv_iload_n hx hb dX12_there_26 rfl (lv_at hl 1 rfl) ?_
    refine lv_iload_n hx hb dX12_there_27 rfl (lv_at hl 0 rfl) ?_
    refine th_Si (As := [.int r_4, .int r_5]) (rest := [.int 0]) E hml hl.1 (y_lesser_v2 l D cI cS τ ρ hW H hT_5 r_4 r_5) lk_X12_146 yd_X12_lesser hS_5 (fun _ h => h.elim) ⟨by decide, by decide⟩ (Nat.le_of_ble_eq_true rfl) ⟨by decide, by decide⟩ rfl dX12_there_28 (fun r_7 H_7 locs_7 p_7 hT_7 hk_7 hS_7 => ?_)
    have p_7 : H = H_7 ∧ (r_7.toInt ≤ r_4.toInt ∧ r_7.toInt ≤ r_5.toInt ∧ (r_7.toInt = r_4.toInt ∨ r_7.toInt = r_5.toInt)) := p_7
    obtain ⟨rfl, p_7_0⟩ := p_7
    exact J_31 locs_7 _ r_4 r_5 r_7 hS_7 (lv_sub hl [2, 3, 1, 0] rfl)
  · have f_6 : r_5.toInt = -4 := r_eq rfl (by decide) c_6
    refine lv_iload_n hx hb dX12_there_22 rfl (lv_at hl 1 rfl) ?_
    refine lv_goto (tgt := 31) hx hb dX12_there_23 (by decide) ?_
    exact J_31 locs_5 _ r_4 r_5 r_4 hS_5 (lv_sub hl [2, 3, 1, 0] rfl)
set_option maxHeartbeats 4000000 in
set_option maxRecDepth 100000 in
/-- the reference: set -/
theorem y_set_v87 (l : Launch) (D : va_G) (cI cS : ClassId) (τ : Nat → Option Nat) (ρ : Nat → Nat → Nat) (hW : WF τ ρ) (H : Heap) (hT : TH D cI cS τ ρ H) (a0 : Nat) (x2 : Int32) (ha0 : τ a0 = some 12) : MV l D cI cS τ ρ yX12_set cX12_set 4 none 0 0 H [.ref a0, .int 0, .int 6, .int x2] (fun (u : Heap) => (AU 985 H u (ρ a0 0) 6 x2)) (fun q => q = ρ a0 0) := by
  refine MV.of (by decide) (Nat.le_of_ble_eq_true rfl) ?_
  intro p e s m args below meth c E hml hr hlk hs ls hl
  have hx := E.1
  have hb := E.2.1
  have hown := E.2.2.1
  have hts := E.2.2.2.1
  have hS : SS (fun q => q = ρ a0 0) H H [] := SS.rf
  have hl : lv_has ls 4 [(0, .ref a0), (1, .int 0), (2, .int 6), (3, .int x2)] := hl
  refine lv_aload_n hx hb dX12_set_0 rfl (lv_at hl 0 rfl) ?_
  refine gf_X12_7 E hT hW ha0 dX12_set_1 (fun h_1 => ?_)
  refine lv_sipush (v := 288) hx hb dX12_set_4 (by decide) ?_
  refine lv_iload_n hx hb dX12_set_7 rfl (lv_at hl 1 rfl) ?_
  refine lv_imul hx hb dX12_set_8 ?_
  refine th_topi (y := 0) (by decide) ?_
  refine lv_iload_n hx hb dX12_set_9 rfl (lv_at hl 2 rfl) ?_
  refine lv_iadd hx hb dX12_set_10 ?_
  refine th_topi (y := 6) (by decide) ?_
  refine lv_iload_n hx hb dX12_set_11 rfl (lv_at hl 3 rfl) ?_
  refine th_iast E hT hS h_1 rfl (by decide) (vp_in_iff.mpr ⟨by decide, by decide⟩) dX12_set_12 (fun H_2 locs_2 hT_2 hU_2 hS_2 => ?_)
  have hU_2 : AU 985 H H_2 (ρ a0 0) 6 x2 := hU_2
  exact th_vret E hr hlk hs hT_2 hS_2 hU_2 dX12_set_13
set_option maxHeartbeats 4000000 in
set_option maxRecDepth 100000 in
/-- the reference: take -/
theorem y_take (l : Launch) (D : va_G) (cI cS : ClassId) (τ : Nat → Option Nat) (ρ : Nat → Nat → Nat) (hW : WF τ ρ) (H : Heap) (hT : TH D cI cS τ ρ H) (a0 : Nat) (ha0 : τ a0 = some 12) (N : Int) (hN0 : 0 ≤ N) (hN1 : N ≤ 600) (hI : IM D ρ N H a0) (hp0 : (ai H (ρ a0 0) 6).toInt ≤ N) : MI l D cI cS τ ρ yX12_take cX12_take 5 (some .int) 6 136 H [.ref a0, .int 0] (fun (r : Int32) (u : Heap) => (IM D ρ N u a0)) (fun q => q = ρ a0 0 ∨ q = ρ a0 2) := by
  refine MI.of (by decide) (Nat.le_of_ble_eq_true rfl) ?_
  intro p e s m args below meth c E hml hr hlk hs ls hl
  have hx := E.1
  have hb := E.2.1
  have hown := E.2.2.1
  have hts := E.2.2.2.1
  have hS : SS (fun q => q = ρ a0 0 ∨ q = ρ a0 2) H H [] := SS.rf
  have hl : lv_has ls 5 [(0, .ref a0), (1, .int 0)] := hl
  have n01 := hI.2.2.2.2.2.1
  have n23 := hI.2.2.2.2.2.2.1
  have J_162 : ∀ (H_c162 : Heap) (lc_c162 : List Loc) (ls : Array Slot) (y162_2 : Int32) (y162_3 : Int32) (y162_4 : Int32), TH D cI cS τ ρ H_c162 → SS (fun q => q = ρ a0 0 ∨ q = ρ a0 2) H H_c162 lc_c162 → lv_has ls 5 [(0, .ref a0), (1, .int 0), (2, .int y162_2), (3, .int y162_3), (4, .int y162_4)] → -633 ≤ y162_3.toInt → y162_3.toInt ≤ 633 → -630 ≤ y162_4.toInt → y162_4.toInt ≤ 634 → IM D ρ N H_c162 a0 → W p l e (rmO 6 136) s m args below meth c H_c162 lc_c162 0 0 (MQ below (va_Qi (fun (r : Int32) (u : Heap) => (IM D ρ N u a0)) (Bt D cI cS τ ρ H) (fun q => q = ρ a0 0 ∨ q = ρ a0 2)) args s 0 0 (fun q => q = ρ a0 0 ∨ q = ρ a0 2)) (F0 m 162 ls []) := by
    intro H_c162 lc_c162 ls y162_2 y162_3 y162_4 hT_c162 hS_c162 hl ly162_3 uy162_3 ly162_4 uy162_4 hI_c162
    refine lv_aload_n hx hb dX12_take_162 rfl (lv_at hl 0 rfl) ?_
    refine lv_iload_n hx hb dX12_take_163 rfl (lv_at hl 1 rfl) ?_
    refine th_Vv (As := [.int 0]) (rest := []) E hml hl.1 (y_settles l D cI cS τ ρ hW H_c162 hT_c162 a0 ha0 N hN0 hN1 ⟨hI_c162.1, hI_c162.2.1, hI_c162.2.2.1, hI_c162.2.2.2.1, hI_c162.2.2.2.2.1, hI_c162.2.2.2.2.2⟩) lk_X12_166 yd_X12_settles hT_c162 ha0 rfl (by decide) hS_c162 (fun q h => (Or.inl h)) ⟨by decide, by decide⟩ (Nat.le_of_ble_eq_true rfl) ⟨by decide, by decide⟩ rfl dX12_take_164 (fun H_1 locs_1 p_1 hT_1 hk_1 hS_1 => ?_)
    have p_1 : (IM D ρ N H_1 a0) ∧ ((ai H_c162 (ρ a0 0) 976).toInt ≤ (ai H_1 (ρ a0 0) 976).toInt) := p_1
    obtain ⟨p_1_0, p_1_1⟩ := p_1
    have mn_1 : (ai H_c162 (ρ a0 0) 976).toInt ≤ (ai H_1 (ρ a0 0) 976).toInt := by exact p_1_1
    refine lv_iload_n hx hb dX12_take_167 rfl (lv_at hl 2 rfl) ?_
    exact th_iret E hr hlk hs hT_1 hS_1 ⟨p_1_0.1, p_1_0.2.1, p_1_0.2.2.1, p_1_0.2.2.2.1, p_1_0.2.2.2.2.1, p_1_0.2.2.2.2.2⟩ dX12_take_168
  refine lv_iload_n hx hb dX12_take_0 rfl (lv_at hl 1 rfl) ?_
  refine th_Si (As := [.int 0]) (rest := []) E hml hl.1 (y_isEnd l D cI cS τ ρ hW H hT) lk_X12_160 yd_X12_isEnd hS (fun _ h => h.elim) ⟨by decide, by decide⟩ (Nat.le_of_ble_eq_true rfl) ⟨by decide, by decide⟩ rfl dX12_take_1 (fun r_2 H_2 locs_2 p_2 hT_2 hk_2 hS_2 => ?_)
  have p_2 : H = H_2 ∧ (r_2 = 0 ∨ r_2 = 1) ∧ ((r_2.toInt = 1 ∧ 0 ≤ 0 ∧ 0 ≤ 1) ∨ (r_2.toInt = 0 ∧ (0 < 0 ∨ 1 < 0))) := p_2
  obtain ⟨rfl, p_2_0, p_2_1⟩ := p_2
  have z_2 := b_iv p_2_0
  refine lv_if_ne (tgt := 9) hx hb dX12_take_4 (by decide) (fun c_3 => ?_) (fun c_3 => False.elim (by have f_3 : r_2.toInt = 0 := r_eq rfl (by decide) c_3; omega))
  refine lv_aload_n hx hb dX12_take_9 rfl (lv_at hl 0 rfl) ?_
  refine lv_iload_n hx hb dX12_take_10 rfl (lv_at hl 1 rfl) ?_
  refine th_Vi (As := [.int 0]) (rest := []) E hml hl.1 (y_there l D cI cS τ ρ hW H hT_2 a0 ha0) lk_X12_185 yd_X12_there hT_2 ha0 rfl (by decide) hS_2 (fun _ h => h.elim) ⟨by decide, by decide⟩ (Nat.le_of_ble_eq_true rfl) ⟨by decide, by decide⟩ rfl dX12_take_11 (fun r_4 H_4 locs_4 p_4 hT_4 hk_4 hS_4 => ?_)
  have p_4 : H = H_4 := p_4
  obtain rfl := p_4
  refine lv_if_ne (tgt := 20) hx hb dX12_take_14 (by decide) (fun c_5 => ?_) (fun c_5 => ?_)
  · have f_5 : ¬ r_4.toInt = 0 := r_ne rfl (by decide) c_5
    have nz_r_4 : ¬ r_4 = 0 := c_5
    refine lv_aload_n hx hb dX12_take_20 rfl (lv_at hl 0 rfl) ?_
    refine lv_iload_n hx hb dX12_take_21 rfl (lv_at hl 1 rfl) ?_
    refine lv_sipush (v := 224) hx hb dX12_take_22 (by decide) ?_
    refine lv_aload_n hx hb dX12_take_25 rfl (lv_at hl 0 rfl) ?_
    refine lv_iload_n hx hb dX12_take_26 rfl (lv_at hl 1 rfl) ?_
    refine lv_bipush (v := 6) hx hb dX12_take_27 (by decide) ?_
    refine th_Vi (As := [.int 0, .int 6]) (rest := [.int 224, .int 0, .ref a0]) E hml hl.1 (y_get_v43 l D cI cS τ ρ hW H hT_4 a0 ha0) lk_X12_99 yd_X12_get hT_4 ha0 rfl (by decide) hS_4 (fun _ h => h.elim) ⟨by decide, by decide⟩ (Nat.le_of_ble_eq_true rfl) ⟨by decide, by decide⟩ rfl dX12_take_29 (fun r_6 H_6 locs_6 p_6 hT_6 hk_6 hS_6 => ?_)
    have p_6 : H = H_6 ∧ (ai H (ρ a0 0) 6 = r_6) := p_6
    obtain ⟨rfl, p_6_0⟩ := p_6
    have b_r_6 : 0 ≤ r_6.toInt ∧ r_6.toInt ≤ N + 1 := by rw [← p_6_0]; exact hI.1 6 (by decide)
    have c_r_6 := congrArg Int32.toInt p_6_0
    refine lv_bipush (v := 64) hx hb dX12_take_32 (by decide) ?_
    refine lv_irem hx hb dX12_take_34 (by decide) ?_
    refine lv_topi (fun x_7 ex_7 => ?_)
    have q_7 := i_rem (k := 64) (x := r_6) (by decide) (by decide) ex_7
    have p_7 : 0 ≤ x_7.toInt := q_7.2.2 (by omega)
    refine lv_iadd hx hb dX12_take_35 ?_
    refine lv_topi (fun x_8 ex_8 => ?_)
    have q_8 : x_8.toInt = 224 + x_7.toInt := i_pl (by decide) rfl ex_8 (by omega) (by omega)
    refine th_Vi (As := [.int 0, .int x_8]) (rest := []) E hml hl.1 (y_get_v14 l D cI cS τ ρ hW H hT_6 a0 x_8 ha0 (by omega)) lk_X12_99 yd_X12_get hT_6 ha0 rfl (by decide) hS_6 (fun _ h => h.elim) ⟨by decide, by decide⟩ (Nat.le_of_ble_eq_true rfl) ⟨by decide, by decide⟩ rfl dX12_take_36 (fun r_9 H_9 locs_9 p_9 hT_9 hk_9 hS_9 => ?_)
    have p_9 : H = H_9 ∧ (ai H (ρ a0 0) (0 + x_8.toInt).toNat = r_9) := p_9
    obtain ⟨rfl, p_9_0⟩ := p_9
    refine lv_istore_n (lv' := [(2, .int r_9), (0, .ref a0), (1, .int 0)]) hx hb dX12_take_39 rfl hl (by decide) rfl (fun ls hl => ?_)
    refine lv_aload_n hx hb dX12_take_40 rfl (lv_at hl 1 rfl) ?_
    refine lv_iload_n hx hb dX12_take_41 rfl (lv_at hl 2 rfl) ?_
    refine lv_bipush (v := 6) hx hb dX12_take_42 (by decide) ?_
    refine lv_aload_n hx hb dX12_take_44 rfl (lv_at hl 1 rfl) ?_
    refine lv_iload_n hx hb dX12_take_45 rfl (lv_at hl 2 rfl) ?_
    refine lv_bipush (v := 6) hx hb dX12_take_46 (by decide) ?_
    refine th_Vi (As := [.int 0, .int 6]) (rest := [.int 6, .int 0, .ref a0]) E hml hl.1 (y_get_v43 l D cI cS τ ρ hW H hT_9 a0 ha0) lk_X12_99 yd_X12_get hT_9 ha0 rfl (by decide) hS_9 (fun _ h => h.elim) ⟨by decide, by decide⟩ (Nat.le_of_ble_eq_true rfl) ⟨by decide, by decide⟩ rfl dX12_take_48 (fun r_10 H_10 locs_10 p_10 hT_10 hk_10 hS_10 => ?_)
    have p_10 : H = H_10 ∧ (ai H (ρ a0 0) 6 = r_10) := p_10
    obtain ⟨rfl, p_10_0⟩ := p_10
    have s_10 : r_10 = r_6 := p_10_0.symm.trans p_6_0
    refine th_topi s_10 ?_
    refine lv_iconst (v := 1) hx hb dX12_take_51 (by decide) ?_
    refine lv_iadd hx hb dX12_take_52 ?_
    refine lv_topi (fun x_11 ex_11 => ?_)
    have q_11 : x_11.toInt = r_6.toInt + 1 := i_pl rfl (by decide) ex_11 (by omega) (by omega)
    refine th_Vv (As := [.int 0, .int 6, .int x_11]) (rest := []) E hml hl.1 (y_set_v87 l D cI cS τ ρ hW H hT_10 a0 x_11 ha0) lk_X12_95 yd_X12_set hT_10 ha0 rfl (by decide) hS_10 (fun q h => (Or.inl h)) ⟨by decide, by decide⟩ (Nat.le_of_ble_eq_true rfl) ⟨by decide, by decide⟩ rfl dX12_take_53 (fun H_12 locs_12 p_12 hT_12 hk_12 hS_12 => ?_)
    have p_12 : (AU 985 H H_12 (ρ a0 0) 6 x_11) := p_12
    have hW_12 : PW N H_12 (ρ a0 0) := PW.put hI.1 p_12 (by show (0 : Int) ≤ x_11.toInt; omega) (by show x_11.toInt ≤ (N + 1 : Int); omega)
    refine lv_aload_n hx hb dX12_take_56 rfl (lv_at hl 1 rfl) ?_
    refine lv_iload_n hx hb dX12_take_57 rfl (lv_at hl 2 rfl) ?_
    refine lv_bipush (v := 7) hx hb dX12_take_58 (by decide) ?_
    refine th_Vi (As := [.int 0, .int 7]) (rest := []) E hml hl.1 (y_get_v23 l D cI cS τ ρ hW H_12 hT_12 a0 ha0) lk_X12_99 yd_X12_get hT_12 ha0 rfl (by decide) hS_12 (fun _ h => h.elim) ⟨by decide, by decide⟩ (Nat.le_of_ble_eq_true rfl) ⟨by decide, by decide⟩ rfl dX12_take_60 (fun r_13 H_13 locs_13 p_13 hT_13 hk_13 hS_13 => ?_)
    have p_13 : H_12 = H_13 ∧ (ai H_12 (ρ a0 0) 7 = r_13) := p_13
    obtain ⟨rfl, p_13_0⟩ := p_13
    have t_13 : ai H (ρ a0 0) 7 = r_13 := (AU.o p_12 (by decide) (by decide)).symm.trans p_13_0
    have b_r_13 : 0 ≤ r_13.toInt ∧ r_13.toInt ≤ N + 33 := by rw [← t_13]; exact hI.1 7 (by decide)
    have c_r_13 := congrArg Int32.toInt t_13
    refine lv_aload_n hx hb dX12_take_63 rfl (lv_at hl 1 rfl) ?_
    refine lv_iload_n hx hb dX12_take_64 rfl (lv_at hl 2 rfl) ?_
    refine lv_iconst (v := 5) hx hb dX12_take_65 (by decide) ?_
    refine th_Vi (As := [.int 0, .int 5]) (rest := [.int r_13]) E hml hl.1 (y_get_v22 l D cI cS τ ρ hW H_12 hT_13 a0 ha0) lk_X12_99 yd_X12_get hT_13 ha0 rfl (by decide) hS_13 (fun _ h => h.elim) ⟨by decide, by decide⟩ (Nat.le_of_ble_eq_true rfl) ⟨by decide, by decide⟩ rfl dX12_take_66 (fun r_14 H_14 locs_14 p_14 hT_14 hk_14 hS_14 => ?_)
    have p_14 : H_12 = H_14 ∧ (ai H_12 (ρ a0 0) 5 = r_14) := p_14
    obtain ⟨rfl, p_14_0⟩ := p_14
    have t_14 : ai H (ρ a0 0) 5 = r_14 := (AU.o p_12 (by decide) (by decide)).symm.trans p_14_0
    have b_r_14 : 0 ≤ r_14.toInt ∧ r_14.toInt ≤ N + 33 := by rw [← t_14]; exact hI.1 5 (by decide)
    have c_r_14 := congrArg Int32.toInt t_14
    refine lv_isub hx hb dX12_take_69 ?_
    refine lv_topi (fun x_15 ex_15 => ?_)
    have q_15 : x_15.toInt = r_13.toInt - r_14.toInt := i_mi rfl rfl ex_15 (by omega) (by omega)
    refine lv_istore_n (lv' := [(3, .int x_15), (2, .int r_9), (0, .ref a0), (1, .int 0)]) hx hb dX12_take_70 rfl hl (by decide) rfl (fun ls hl => ?_)
    refine lv_aload_n hx hb dX12_take_71 rfl (lv_at hl 2 rfl) ?_
    refine lv_iload_n hx hb dX12_take_72 rfl (lv_at hl 3 rfl) ?_
    refine lv_bipush (v := 6) hx hb dX12_take_73 (by decide) ?_
    refine th_Vi (As := [.int 0, .int 6]) (rest := []) E hml hl.1 (y_get_v43 l D cI cS τ ρ hW H_12 hT_14 a0 ha0) lk_X12_99 yd_X12_get hT_14 ha0 rfl (by decide) hS_14 (fun _ h => h.elim) ⟨by decide, by decide⟩ (Nat.le_of_ble_eq_true rfl) ⟨by decide, by decide⟩ rfl dX12_take_75 (fun r_16 H_16 locs_16 p_16 hT_16 hk_16 hS_16 => ?_)
    have p_16 : H_12 = H_16 ∧ (ai H_12 (ρ a0 0) 6 = r_16) := p_16
    obtain ⟨rfl, p_16_0⟩ := p_16
    have s_16 : r_16 = x_11 := p_16_0.symm.trans (AU.s p_12 (by decide))
    refine th_topi s_16 ?_
    refine lv_aload_n hx hb dX12_take_78 rfl (lv_at hl 2 rfl) ?_
    refine gf_X12_29 E hT_16 ha0 dX12_take_79 ?_
    refine th_topi (y := fi D 12 7 H a0) (fi_q (p_12.2 _ (th_ne ha0 (hW _ 12 0 ha0 (by decide) (by decide) (by decide)) (by decide)))) ?_
    refine lv_topi (fun x_17 ex_17 => ?_)
    have b_17 : 2 ≤ x_17.toInt ∧ x_17.toInt ≤ 32 := by rw [ex_17]; exact IF.f7 hI.2.2.2.2.2
    refine lv_iadd hx hb dX12_take_82 ?_
    refine lv_topi (fun x_18 ex_18 => ?_)
    have q_18 : x_18.toInt = x_11.toInt + x_17.toInt := i_pl rfl rfl ex_18 (by omega) (by omega)
    refine lv_aload_n hx hb dX12_take_83 rfl (lv_at hl 2 rfl) ?_
    refine lv_iload_n hx hb dX12_take_84 rfl (lv_at hl 3 rfl) ?_
    refine lv_bipush (v := 7) hx hb dX12_take_85 (by decide) ?_
    refine th_Vi (As := [.int 0, .int 7]) (rest := [.int x_18]) E hml hl.1 (y_get_v23 l D cI cS τ ρ hW H_12 hT_16 a0 ha0) lk_X12_99 yd_X12_get hT_16 ha0 rfl (by decide) hS_16 (fun _ h => h.elim) ⟨by decide, by decide⟩ (Nat.le_of_ble_eq_true rfl) ⟨by decide, by decide⟩ rfl dX12_take_87 (fun r_19 H_19 locs_19 p_19 hT_19 hk_19 hS_19 => ?_)
    have p_19 : H_12 = H_19 ∧ (ai H_12 (ρ a0 0) 7 = r_19) := p_19
    obtain ⟨rfl, p_19_0⟩ := p_19
    have s_19 : r_19 = r_13 := p_19_0.symm.trans ((AU.o p_12 (by decide) (by decide)).trans t_13)
    refine th_topi s_19 ?_
    refine lv_isub hx hb dX12_take_90 ?_
    refine lv_topi (fun x_20 ex_20 => ?_)
    have q_20 : x_20.toInt = x_18.toInt - r_13.toInt := i_mi rfl rfl ex_20 (by omega) (by omega)
    refine lv_istore (lv' := [(4, .int x_20), (3, .int x_15), (2, .int r_9), (0, .ref a0), (1, .int 0)]) hx hb dX12_take_91 hl (by decide) rfl (fun ls hl => ?_)
    refine lv_iload hx hb dX12_take_93 (lv_at hl 0 rfl) ?_
    refine lv_aload_n hx hb dX12_take_95 rfl (lv_at hl 3 rfl) ?_
    refine gf_X12_25 E hT_19 ha0 dX12_take_96 ?_
    refine th_topi (y := fi D 12 6 H a0) (fi_q (p_12.2 _ (th_ne ha0 (hW _ 12 0 ha0 (by decide) (by decide) (by decide)) (by decide)))) ?_
    refine lv_topi (fun x_21 ex_21 => ?_)
    have b_21 : 1 ≤ x_21.toInt ∧ x_21.toInt ≤ 8 := by rw [ex_21]; exact IF.f6 hI.2.2.2.2.2
    refine lv_icmp_ge (tgt := 113) hx hb dX12_take_99 (by decide) (fun c_22 => ?_) (fun c_22 => ?_)
    · have f_22 : x_21.toInt ≤ x_20.toInt := r_le rfl rfl c_22
      refine lv_aload_n hx hb dX12_take_113 rfl (lv_at hl 3 rfl) ?_
      refine lv_iload_n hx hb dX12_take_114 rfl (lv_at hl 4 rfl) ?_
      refine lv_bipush (v := 7) hx hb dX12_take_115 (by decide) ?_
      refine lv_aload_n hx hb dX12_take_117 rfl (lv_at hl 3 rfl) ?_
      refine lv_iload_n hx hb dX12_take_118 rfl (lv_at hl 4 rfl) ?_
      refine lv_bipush (v := 7) hx hb dX12_take_119 (by decide) ?_
      refine th_Vi (As := [.int 0, .int 7]) (rest := [.int 7, .int 0, .ref a0]) E hml hl.1 (y_get_v23 l D cI cS τ ρ hW H_12 hT_19 a0 ha0) lk_X12_99 yd_X12_get hT_19 ha0 rfl (by decide) hS_19 (fun _ h => h.elim) ⟨by decide, by decide⟩ (Nat.le_of_ble_eq_true rfl) ⟨by decide, by decide⟩ rfl dX12_take_121 (fun r_23 H_23 locs_23 p_23 hT_23 hk_23 hS_23 => ?_)
      have p_23 : H_12 = H_23 ∧ (ai H_12 (ρ a0 0) 7 = r_23) := p_23
      obtain ⟨rfl, p_23_0⟩ := p_23
      have s_23 : r_23 = r_13 := p_23_0.symm.trans ((AU.o p_12 (by decide) (by decide)).trans t_13)
      refine th_topi s_23 ?_
      refine lv_iload hx hb dX12_take_124 (lv_at hl 0 rfl) ?_
      refine lv_iadd hx hb dX12_take_126 ?_
      refine lv_topi (fun x_24 ex_24 => ?_)
      have q_24 : x_24.toInt = r_13.toInt + x_20.toInt := i_pl rfl rfl ex_24 (by omega) (by omega)
      refine th_Vv (As := [.int 0, .int 7, .int x_24]) (rest := []) E hml hl.1 (y_set_v69 l D cI cS τ ρ hW H_12 hT_23 a0 x_24 ha0) lk_X12_95 yd_X12_set hT_23 ha0 rfl (by decide) hS_23 (fun q h => (Or.inl h)) ⟨by decide, by decide⟩ (Nat.le_of_ble_eq_true rfl) ⟨by decide, by decide⟩ rfl dX12_take_127 (fun H_25 locs_25 p_25 hT_25 hk_25 hS_25 => ?_)
      have p_25 : (AU 985 H_12 H_25 (ρ a0 0) 7 x_24) := p_25
      have hW_25 : PW N H_25 (ρ a0 0) := PW.put hW_12 p_25 (by show (0 : Int) ≤ x_24.toInt; omega) (by show x_24.toInt ≤ (N + 33 : Int); omega)
      refine lv_iload_n hx hb dX12_take_130 rfl (lv_at hl 1 rfl) ?_
      refine lv_aload_n hx hb dX12_take_131 rfl (lv_at hl 3 rfl) ?_
      refine gf_X12_25 E hT_25 ha0 dX12_take_132 ?_
      refine th_topi (y := x_21) (Eq.trans (fi_q (p_25.2 _ (th_ne ha0 (hW _ 12 0 ha0 (by decide) (by decide) (by decide)) (by decide)))) ((fi_q (p_12.2 _ (th_ne ha0 (hW _ 12 0 ha0 (by decide) (by decide) (by decide)) (by decide)))).trans ex_21.symm)) ?_
      refine lv_icmp_ge (tgt := 162) hx hb dX12_take_135 (by decide) (fun c_26 => ?_) (fun c_26 => ?_)
      · have f_26 : x_21.toInt ≤ x_15.toInt := r_le rfl rfl c_26
        exact J_162 H_25 locs_25 _ r_9 x_15 x_20 hT_25 hS_25 (lv_sub hl [3, 4, 2, 1, 0] rfl) (by omega) (by omega) (by omega) (by omega) ⟨hW_25, (QS.same (Eq.trans (AU.o p_25 (by decide) (by decide)) (AU.o p_12 (by decide) (by decide))) (Eq.trans (AU.o p_25 (by decide) (by decide)) (AU.o p_12 (by decide) (by decide))) hI.2.1), (QS.same (Eq.trans (AU.o p_25 (by decide) (by decide)) (AU.o p_12 (by decide) (by decide))) (Eq.trans (AU.o p_25 (by decide) (by decide)) (AU.o p_12 (by decide) (by decide))) hI.2.2.1), (PL.q (p_25.2 _ (th_ne (hW _ 12 2 ha0 (by decide) (by decide) (by decide)) (hW _ 12 0 ha0 (by decide) (by decide) (by decide)) (by decide))) (PL.q (p_12.2 _ (th_ne (hW _ 12 2 ha0 (by decide) (by decide) (by decide)) (hW _ 12 0 ha0 (by decide) (by decide) (by decide)) (by decide))) hI.2.2.2.1)), (PL.q (p_25.2 _ (th_ne (hW _ 12 3 ha0 (by decide) (by decide) (by decide)) (hW _ 12 0 ha0 (by decide) (by decide) (by decide)) (by decide))) (PL.q (p_12.2 _ (th_ne (hW _ 12 3 ha0 (by decide) (by decide) (by decide)) (hW _ 12 0 ha0 (by decide) (by decide) (by decide)) (by decide))) hI.2.2.2.2.1)), (IF.q (p_25.2 _ (th_ne ha0 (hW _ 12 0 ha0 (by decide) (by decide) (by decide)) (by decide))) (IF.q (p_12.2 _ (th_ne ha0 (hW _ 12 0 ha0 (by decide) (by decide) (by decide)) (by decide))) hI.2.2.2.2.2))⟩
      · have f_26 : x_15.toInt < x_21.toInt := r_nle rfl rfl c_26
        refine lv_aload_n hx hb dX12_take_138 rfl (lv_at hl 3 rfl) ?_
        refine lv_iload_n hx hb dX12_take_139 rfl (lv_at hl 4 rfl) ?_
        refine lv_iconst (v := 0) hx hb dX12_take_140 (by decide) ?_
        refine th_Vi (As := [.int 0, .int 0]) (rest := []) E hml hl.1 (y_get_v21 l D cI cS τ ρ hW H_25 hT_25 a0 ha0) lk_X12_99 yd_X12_get hT_25 ha0 rfl (by decide) hS_25 (fun _ h => h.elim) ⟨by decide, by decide⟩ (Nat.le_of_ble_eq_true rfl) ⟨by decide, by decide⟩ rfl dX12_take_141 (fun r_27 H_27 locs_27 p_27 hT_27 hk_27 hS_27 => ?_)
        have p_27 : H_25 = H_27 ∧ (ai H_25 (ρ a0 0) 0 = r_27) := p_27
        obtain ⟨rfl, p_27_0⟩ := p_27
        have t_27 : ai H (ρ a0 0) 0 = r_27 := (Eq.trans (AU.o p_25 (by decide) (by decide)) (AU.o p_12 (by decide) (by decide))).symm.trans p_27_0
        have c_r_27 := congrArg Int32.toInt t_27
        obtain ⟨x_28, ex_28⟩ : ∃ y : Int64, r_27.toInt64 = y := ⟨_, rfl⟩
        refine lv_i2l (v := x_28) hx hb dX12_take_144 ex_28 ?_
        have q_28 : x_28.toInt = r_27.toInt := by rw [← ex_28]; exact Int32.toInt_toInt64 _
        refine lv_ldc2 (v := 4) hx hb hown (hts _ qw_1211) dX12_take_145 ?_
        refine lv_ldc2 (v := 6) hx hb hown (hts _ qw_1212) dX12_take_148 ?_
        refine th_Si (As := [.long x_28, .long 4, .long 6]) (rest := []) E hml hl.1 (y_in_v2 l D cI cS τ ρ hW H_25 hT_27 x_28) lk_X12_54 yd_X12_in hS_27 (fun _ h => h.elim) ⟨by decide, by decide⟩ (Nat.le_of_ble_eq_true rfl) ⟨by decide, by decide⟩ rfl dX12_take_151 (fun r_29 H_29 locs_29 p_29 hT_29 hk_29 hS_29 => ?_)
        have p_29 : H_25 = H_29 ∧ (r_29 = 0 ∨ r_29 = 1) ∧ ((r_29.toInt = 1 ∧ 4 ≤ x_28.toInt ∧ x_28.toInt ≤ 6) ∨ (r_29.toInt = 0 ∧ (x_28.toInt < 4 ∨ 6 < x_28.toInt))) := p_29
        obtain ⟨rfl, p_29_0, p_29_1⟩ := p_29
        have z_29 := b_iv p_29_0
        refine lv_if_eq (tgt := 162) hx hb dX12_take_154 (by decide) (fun c_30 => ?_) (fun c_30 => ?_)
        · have f_30 : r_29.toInt = 0 := r_eq rfl (by decide) c_30
          exact J_162 H_25 locs_29 _ r_9 x_15 x_20 hT_29 hS_29 (lv_sub hl [3, 4, 2, 1, 0] rfl) (by omega) (by omega) (by omega) (by omega) ⟨hW_25, (QS.same (((Eq.trans (AU.o p_25 (by decide) (by decide)) (AU.o p_12 (by decide) (by decide))).trans t_27).trans t_27.symm) (Eq.trans (AU.o p_25 (by decide) (by decide)) (AU.o p_12 (by decide) (by decide))) hI.2.1), (QS.same (Eq.trans (AU.o p_25 (by decide) (by decide)) (AU.o p_12 (by decide) (by decide))) (Eq.trans (AU.o p_25 (by decide) (by decide)) (AU.o p_12 (by decide) (by decide))) hI.2.2.1), (PL.q (p_25.2 _ (th_ne (hW _ 12 2 ha0 (by decide) (by decide) (by decide)) (hW _ 12 0 ha0 (by decide) (by decide) (by decide)) (by decide))) (PL.q (p_12.2 _ (th_ne (hW _ 12 2 ha0 (by decide) (by decide) (by decide)) (hW _ 12 0 ha0 (by decide) (by decide) (by decide)) (by decide))) hI.2.2.2.1)), (PL.q (p_25.2 _ (th_ne (hW _ 12 3 ha0 (by decide) (by decide) (by decide)) (hW _ 12 0 ha0 (by decide) (by decide) (by decide)) (by decide))) (PL.q (p_12.2 _ (th_ne (hW _ 12 3 ha0 (by decide) (by decide) (by decide)) (hW _ 12 0 ha0 (by decide) (by decide) (by decide)) (by decide))) hI.2.2.2.2.1)), (IF.q (p_25.2 _ (th_ne ha0 (hW _ 12 0 ha0 (by decide) (by decide) (by decide)) (by decide))) (IF.q (p_12.2 _ (th_ne ha0 (hW _ 12 0 ha0 (by decide) (by decide) (by decide)) (by decide))) hI.2.2.2.2.2))⟩
        · have f_30 : ¬ r_29.toInt = 0 := r_ne rfl (by decide) c_30
          have nz_r_29 : ¬ r_29 = 0 := c_30
          refine lv_aload_n hx hb dX12_take_157 rfl (lv_at hl 3 rfl) ?_
          refine lv_iload_n hx hb dX12_take_158 rfl (lv_at hl 4 rfl) ?_
          refine th_Vv (As := [.int 0]) (rest := []) E hml hl.1 (y_yes l D cI cS τ ρ hW H_25 hT_29 a0 ha0 N hN0 hN1 ⟨hW_25, (QS.same (((Eq.trans (AU.o p_25 (by decide) (by decide)) (AU.o p_12 (by decide) (by decide))).trans t_27).trans t_27.symm) (Eq.trans (AU.o p_25 (by decide) (by decide)) (AU.o p_12 (by decide) (by decide))) hI.2.1), (QS.same (Eq.trans (AU.o p_25 (by decide) (by decide)) (AU.o p_12 (by decide) (by decide))) (Eq.trans (AU.o p_25 (by decide) (by decide)) (AU.o p_12 (by decide) (by decide))) hI.2.2.1), (PL.q (p_25.2 _ (th_ne (hW _ 12 2 ha0 (by decide) (by decide) (by decide)) (hW _ 12 0 ha0 (by decide) (by decide) (by decide)) (by decide))) (PL.q (p_12.2 _ (th_ne (hW _ 12 2 ha0 (by decide) (by decide) (by decide)) (hW _ 12 0 ha0 (by decide) (by decide) (by decide)) (by decide))) hI.2.2.2.1)), (PL.q (p_25.2 _ (th_ne (hW _ 12 3 ha0 (by decide) (by decide) (by decide)) (hW _ 12 0 ha0 (by decide) (by decide) (by decide)) (by decide))) (PL.q (p_12.2 _ (th_ne (hW _ 12 3 ha0 (by decide) (by decide) (by decide)) (hW _ 12 0 ha0 (by decide) (by decide) (by decide)) (by decide))) hI.2.2.2.2.1)), (IF.q (p_25.2 _ (th_ne ha0 (hW _ 12 0 ha0 (by decide) (by decide) (by decide)) (by decide))) (IF.q (p_12.2 _ (th_ne ha0 (hW _ 12 0 ha0 (by decide) (by decide) (by decide)) (by decide))) hI.2.2.2.2.2))⟩) lk_X12_193 yd_X12_yes hT_29 ha0 rfl (by decide) hS_29 (fun q => (fun h => h.elim (fun h => (Or.inr h)) (fun h => (Or.inl h)))) ⟨by decide, by decide⟩ (Nat.le_of_ble_eq_true rfl) ⟨by decide, by decide⟩ rfl dX12_take_159 (fun H_31 locs_31 p_31 hT_31 hk_31 hS_31 => ?_)
          have p_31 : (IM D ρ N H_31 a0) ∧ ((ai H_25 (ρ a0 0) 976).toInt ≤ (ai H_31 (ρ a0 0) 976).toInt) := p_31
          obtain ⟨p_31_0, p_31_1⟩ := p_31
          have mn_31 : (ai H (ρ a0 0) 976).toInt ≤ (ai H_31 (ρ a0 0) 976).toInt := by have h := p_31_1; rw [(Eq.trans (AU.o p_25 (by decide) (by decide)) (AU.o p_12 (by decide) (by decide)))] at h; exact h
          exact J_162 H_31 locs_31 _ r_9 x_15 x_20 hT_31 hS_31 (lv_sub hl [3, 4, 2, 1, 0] rfl) (by omega) (by omega) (by omega) (by omega) ⟨p_31_0.1, p_31_0.2.1, p_31_0.2.2.1, p_31_0.2.2.2.1, p_31_0.2.2.2.2.1, p_31_0.2.2.2.2.2⟩
    · have f_22 : x_20.toInt < x_21.toInt := r_nle rfl rfl c_22
      refine lv_iconst (v := 2) hx hb dX12_take_102 (by decide) ?_
      refine lv_iload hx hb dX12_take_103 (lv_at hl 0 rfl) ?_
      refine lv_imul hx hb dX12_take_105 ?_
      refine lv_topi (fun x_32 ex_32 => ?_)
      have q_32 : x_32.toInt = 2 * x_20.toInt := i_ml (by decide) rfl ex_32 (by omega) (by omega)
      refine lv_aload_n hx hb dX12_take_106 rfl (lv_at hl 3 rfl) ?_
      refine gf_X12_29 E hT_19 ha0 dX12_take_107 ?_
      refine th_topi (y := x_17) ((fi_q (p_12.2 _ (th_ne ha0 (hW _ 12 0 ha0 (by decide) (by decide) (by decide)) (by decide)))).trans ex_17.symm) ?_
      refine lv_icmp_lt (tgt := 162) hx hb dX12_take_110 (by decide) (fun c_33 => ?_) (fun c_33 => ?_)
      · have f_33 : x_32.toInt < x_17.toInt := r_lt rfl rfl c_33
        exact J_162 H_12 locs_19 _ r_9 x_15 x_20 hT_19 hS_19 (lv_sub hl [3, 4, 2, 1, 0] rfl) (by omega) (by omega) (by omega) (by omega) ⟨hW_12, (QS.same (AU.o p_12 (by decide) (by decide)) (AU.o p_12 (by decide) (by decide)) hI.2.1), (QS.same (AU.o p_12 (by decide) (by decide)) (AU.o p_12 (by decide) (by decide)) hI.2.2.1), (PL.q (p_12.2 _ (th_ne (hW _ 12 2 ha0 (by decide) (by decide) (by decide)) (hW _ 12 0 ha0 (by decide) (by decide) (by decide)) (by decide))) hI.2.2.2.1), (PL.q (p_12.2 _ (th_ne (hW _ 12 3 ha0 (by decide) (by decide) (by decide)) (hW _ 12 0 ha0 (by decide) (by decide) (by decide)) (by decide))) hI.2.2.2.2.1), (IF.q (p_12.2 _ (th_ne ha0 (hW _ 12 0 ha0 (by decide) (by decide) (by decide)) (by decide))) hI.2.2.2.2.2)⟩
      · have f_33 : x_17.toInt ≤ x_32.toInt := r_nlt rfl rfl c_33
        refine lv_aload_n hx hb dX12_take_113 rfl (lv_at hl 3 rfl) ?_
        refine lv_iload_n hx hb dX12_take_114 rfl (lv_at hl 4 rfl) ?_
        refine lv_bipush (v := 7) hx hb dX12_take_115 (by decide) ?_
        refine lv_aload_n hx hb dX12_take_117 rfl (lv_at hl 3 rfl) ?_
        refine lv_iload_n hx hb dX12_take_118 rfl (lv_at hl 4 rfl) ?_
        refine lv_bipush (v := 7) hx hb dX12_take_119 (by decide) ?_
        refine th_Vi (As := [.int 0, .int 7]) (rest := [.int 7, .int 0, .ref a0]) E hml hl.1 (y_get_v23 l D cI cS τ ρ hW H_12 hT_19 a0 ha0) lk_X12_99 yd_X12_get hT_19 ha0 rfl (by decide) hS_19 (fun _ h => h.elim) ⟨by decide, by decide⟩ (Nat.le_of_ble_eq_true rfl) ⟨by decide, by decide⟩ rfl dX12_take_121 (fun r_34 H_34 locs_34 p_34 hT_34 hk_34 hS_34 => ?_)
        have p_34 : H_12 = H_34 ∧ (ai H_12 (ρ a0 0) 7 = r_34) := p_34
        obtain ⟨rfl, p_34_0⟩ := p_34
        have s_34 : r_34 = r_13 := p_34_0.symm.trans ((AU.o p_12 (by decide) (by decide)).trans t_13)
        refine th_topi s_34 ?_
        refine lv_iload hx hb dX12_take_124 (lv_at hl 0 rfl) ?_
        refine lv_iadd hx hb dX12_take_126 ?_
        refine lv_topi (fun x_35 ex_35 => ?_)
        have q_35 : x_35.toInt = r_13.toInt + x_20.toInt := i_pl rfl rfl ex_35 (by omega) (by omega)
        refine th_Vv (As := [.int 0, .int 7, .int x_35]) (rest := []) E hml hl.1 (y_set_v69 l D cI cS τ ρ hW H_12 hT_34 a0 x_35 ha0) lk_X12_95 yd_X12_set hT_34 ha0 rfl (by decide) hS_34 (fun q h => (Or.inl h)) ⟨by decide, by decide⟩ (Nat.le_of_ble_eq_true rfl) ⟨by decide, by decide⟩ rfl dX12_take_127 (fun H_36 locs_36 p_36 hT_36 hk_36 hS_36 => ?_)
        have p_36 : (AU 985 H_12 H_36 (ρ a0 0) 7 x_35) := p_36
        have hW_36 : PW N H_36 (ρ a0 0) := PW.put hW_12 p_36 (by show (0 : Int) ≤ x_35.toInt; omega) (by show x_35.toInt ≤ (N + 33 : Int); omega)
        refine lv_iload_n hx hb dX12_take_130 rfl (lv_at hl 1 rfl) ?_
        refine lv_aload_n hx hb dX12_take_131 rfl (lv_at hl 3 rfl) ?_
        refine gf_X12_25 E hT_36 ha0 dX12_take_132 ?_
        refine th_topi (y := x_21) (Eq.trans (fi_q (p_36.2 _ (th_ne ha0 (hW _ 12 0 ha0 (by decide) (by decide) (by decide)) (by decide)))) ((fi_q (p_12.2 _ (th_ne ha0 (hW _ 12 0 ha0 (by decide) (by decide) (by decide)) (by decide)))).trans ex_21.symm)) ?_
        refine lv_icmp_ge (tgt := 162) hx hb dX12_take_135 (by decide) (fun c_37 => ?_) (fun c_37 => ?_)
        · have f_37 : x_21.toInt ≤ x_15.toInt := r_le rfl rfl c_37
          exact J_162 H_36 locs_36 _ r_9 x_15 x_20 hT_36 hS_36 (lv_sub hl [3, 4, 2, 1, 0] rfl) (by omega) (by omega) (by omega) (by omega) ⟨hW_36, (QS.same (Eq.trans (AU.o p_36 (by decide) (by decide)) (AU.o p_12 (by decide) (by decide))) (Eq.trans (AU.o p_36 (by decide) (by decide)) (AU.o p_12 (by decide) (by decide))) hI.2.1), (QS.same (Eq.trans (AU.o p_36 (by decide) (by decide)) (AU.o p_12 (by decide) (by decide))) (Eq.trans (AU.o p_36 (by decide) (by decide)) (AU.o p_12 (by decide) (by decide))) hI.2.2.1), (PL.q (p_36.2 _ (th_ne (hW _ 12 2 ha0 (by decide) (by decide) (by decide)) (hW _ 12 0 ha0 (by decide) (by decide) (by decide)) (by decide))) (PL.q (p_12.2 _ (th_ne (hW _ 12 2 ha0 (by decide) (by decide) (by decide)) (hW _ 12 0 ha0 (by decide) (by decide) (by decide)) (by decide))) hI.2.2.2.1)), (PL.q (p_36.2 _ (th_ne (hW _ 12 3 ha0 (by decide) (by decide) (by decide)) (hW _ 12 0 ha0 (by decide) (by decide) (by decide)) (by decide))) (PL.q (p_12.2 _ (th_ne (hW _ 12 3 ha0 (by decide) (by decide) (by decide)) (hW _ 12 0 ha0 (by decide) (by decide) (by decide)) (by decide))) hI.2.2.2.2.1)), (IF.q (p_36.2 _ (th_ne ha0 (hW _ 12 0 ha0 (by decide) (by decide) (by decide)) (by decide))) (IF.q (p_12.2 _ (th_ne ha0 (hW _ 12 0 ha0 (by decide) (by decide) (by decide)) (by decide))) hI.2.2.2.2.2))⟩
        · have f_37 : x_15.toInt < x_21.toInt := r_nle rfl rfl c_37
          refine lv_aload_n hx hb dX12_take_138 rfl (lv_at hl 3 rfl) ?_
          refine lv_iload_n hx hb dX12_take_139 rfl (lv_at hl 4 rfl) ?_
          refine lv_iconst (v := 0) hx hb dX12_take_140 (by decide) ?_
          refine th_Vi (As := [.int 0, .int 0]) (rest := []) E hml hl.1 (y_get_v21 l D cI cS τ ρ hW H_36 hT_36 a0 ha0) lk_X12_99 yd_X12_get hT_36 ha0 rfl (by decide) hS_36 (fun _ h => h.elim) ⟨by decide, by decide⟩ (Nat.le_of_ble_eq_true rfl) ⟨by decide, by decide⟩ rfl dX12_take_141 (fun r_38 H_38 locs_38 p_38 hT_38 hk_38 hS_38 => ?_)
          have p_38 : H_36 = H_38 ∧ (ai H_36 (ρ a0 0) 0 = r_38) := p_38
          obtain ⟨rfl, p_38_0⟩ := p_38
          have t_38 : ai H (ρ a0 0) 0 = r_38 := (Eq.trans (AU.o p_36 (by decide) (by decide)) (AU.o p_12 (by decide) (by decide))).symm.trans p_38_0
          have c_r_38 := congrArg Int32.toInt t_38
          obtain ⟨x_39, ex_39⟩ : ∃ y : Int64, r_38.toInt64 = y := ⟨_, rfl⟩
          refine lv_i2l (v := x_39) hx hb dX12_take_144 ex_39 ?_
          have q_39 : x_39.toInt = r_38.toInt := by rw [← ex_39]; exact Int32.toInt_toInt64 _
          refine lv_ldc2 (v := 4) hx hb hown (hts _ qw_1211) dX12_take_145 ?_
          refine lv_ldc2 (v := 6) hx hb hown (hts _ qw_1212) dX12_take_148 ?_
          refine th_Si (As := [.long x_39, .long 4, .long 6]) (rest := []) E hml hl.1 (y_in_v2 l D cI cS τ ρ hW H_36 hT_38 x_39) lk_X12_54 yd_X12_in hS_38 (fun _ h => h.elim) ⟨by decide, by decide⟩ (Nat.le_of_ble_eq_true rfl) ⟨by decide, by decide⟩ rfl dX12_take_151 (fun r_40 H_40 locs_40 p_40 hT_40 hk_40 hS_40 => ?_)
          have p_40 : H_36 = H_40 ∧ (r_40 = 0 ∨ r_40 = 1) ∧ ((r_40.toInt = 1 ∧ 4 ≤ x_39.toInt ∧ x_39.toInt ≤ 6) ∨ (r_40.toInt = 0 ∧ (x_39.toInt < 4 ∨ 6 < x_39.toInt))) := p_40
          obtain ⟨rfl, p_40_0, p_40_1⟩ := p_40
          have z_40 := b_iv p_40_0
          refine lv_if_eq (tgt := 162) hx hb dX12_take_154 (by decide) (fun c_41 => ?_) (fun c_41 => ?_)
          · have f_41 : r_40.toInt = 0 := r_eq rfl (by decide) c_41
            exact J_162 H_36 locs_40 _ r_9 x_15 x_20 hT_40 hS_40 (lv_sub hl [3, 4, 2, 1, 0] rfl) (by omega) (by omega) (by omega) (by omega) ⟨hW_36, (QS.same (((Eq.trans (AU.o p_36 (by decide) (by decide)) (AU.o p_12 (by decide) (by decide))).trans t_38).trans t_38.symm) (Eq.trans (AU.o p_36 (by decide) (by decide)) (AU.o p_12 (by decide) (by decide))) hI.2.1), (QS.same (Eq.trans (AU.o p_36 (by decide) (by decide)) (AU.o p_12 (by decide) (by decide))) (Eq.trans (AU.o p_36 (by decide) (by decide)) (AU.o p_12 (by decide) (by decide))) hI.2.2.1), (PL.q (p_36.2 _ (th_ne (hW _ 12 2 ha0 (by decide) (by decide) (by decide)) (hW _ 12 0 ha0 (by decide) (by decide) (by decide)) (by decide))) (PL.q (p_12.2 _ (th_ne (hW _ 12 2 ha0 (by decide) (by decide) (by decide)) (hW _ 12 0 ha0 (by decide) (by decide) (by decide)) (by decide))) hI.2.2.2.1)), (PL.q (p_36.2 _ (th_ne (hW _ 12 3 ha0 (by decide) (by decide) (by decide)) (hW _ 12 0 ha0 (by decide) (by decide) (by decide)) (by decide))) (PL.q (p_12.2 _ (th_ne (hW _ 12 3 ha0 (by decide) (by decide) (by decide)) (hW _ 12 0 ha0 (by decide) (by decide) (by decide)) (by decide))) hI.2.2.2.2.1)), (IF.q (p_36.2 _ (th_ne ha0 (hW _ 12 0 ha0 (by decide) (by decide) (by decide)) (by decide))) (IF.q (p_12.2 _ (th_ne ha0 (hW _ 12 0 ha0 (by decide) (by decide) (by decide)) (by decide))) hI.2.2.2.2.2))⟩
          · have f_41 : ¬ r_40.toInt = 0 := r_ne rfl (by decide) c_41
            have nz_r_40 : ¬ r_40 = 0 := c_41
            refine lv_aload_n hx hb dX12_take_157 rfl (lv_at hl 3 rfl) ?_
            refine lv_iload_n hx hb dX12_take_158 rfl (lv_at hl 4 rfl) ?_
            refine th_Vv (As := [.int 0]) (rest := []) E hml hl.1 (y_yes l D cI cS τ ρ hW H_36 hT_40 a0 ha0 N hN0 hN1 ⟨hW_36, (QS.same (((Eq.trans (AU.o p_36 (by decide) (by decide)) (AU.o p_12 (by decide) (by decide))).trans t_38).trans t_38.symm) (Eq.trans (AU.o p_36 (by decide) (by decide)) (AU.o p_12 (by decide) (by decide))) hI.2.1), (QS.same (Eq.trans (AU.o p_36 (by decide) (by decide)) (AU.o p_12 (by decide) (by decide))) (Eq.trans (AU.o p_36 (by decide) (by decide)) (AU.o p_12 (by decide) (by decide))) hI.2.2.1), (PL.q (p_36.2 _ (th_ne (hW _ 12 2 ha0 (by decide) (by decide) (by decide)) (hW _ 12 0 ha0 (by decide) (by decide) (by decide)) (by decide))) (PL.q (p_12.2 _ (th_ne (hW _ 12 2 ha0 (by decide) (by decide) (by decide)) (hW _ 12 0 ha0 (by decide) (by decide) (by decide)) (by decide))) hI.2.2.2.1)), (PL.q (p_36.2 _ (th_ne (hW _ 12 3 ha0 (by decide) (by decide) (by decide)) (hW _ 12 0 ha0 (by decide) (by decide) (by decide)) (by decide))) (PL.q (p_12.2 _ (th_ne (hW _ 12 3 ha0 (by decide) (by decide) (by decide)) (hW _ 12 0 ha0 (by decide) (by decide) (by decide)) (by decide))) hI.2.2.2.2.1)), (IF.q (p_36.2 _ (th_ne ha0 (hW _ 12 0 ha0 (by decide) (by decide) (by decide)) (by decide))) (IF.q (p_12.2 _ (th_ne ha0 (hW _ 12 0 ha0 (by decide) (by decide) (by decide)) (by decide))) hI.2.2.2.2.2))⟩) lk_X12_193 yd_X12_yes hT_40 ha0 rfl (by decide) hS_40 (fun q => (fun h => h.elim (fun h => (Or.inr h)) (fun h => (Or.inl h)))) ⟨by decide, by decide⟩ (Nat.le_of_ble_eq_true rfl) ⟨by decide, by decide⟩ rfl dX12_take_159 (fun H_42 locs_42 p_42 hT_42 hk_42 hS_42 => ?_)
            have p_42 : (IM D ρ N H_42 a0) ∧ ((ai H_36 (ρ a0 0) 976).toInt ≤ (ai H_42 (ρ a0 0) 976).toInt) := p_42
            obtain ⟨p_42_0, p_42_1⟩ := p_42
            have mn_42 : (ai H (ρ a0 0) 976).toInt ≤ (ai H_42 (ρ a0 0) 976).toInt := by have h := p_42_1; rw [(Eq.trans (AU.o p_36 (by decide) (by decide)) (AU.o p_12 (by decide) (by decide)))] at h; exact h
            exact J_162 H_42 locs_42 _ r_9 x_15 x_20 hT_42 hS_42 (lv_sub hl [3, 4, 2, 1, 0] rfl) (by omega) (by omega) (by omega) (by omega) ⟨p_42_0.1, p_42_0.2.1, p_42_0.2.2.1, p_42_0.2.2.2.1, p_42_0.2.2.2.2.1, p_42_0.2.2.2.2.2⟩
  · have f_5 : r_4.toInt = 0 := r_eq rfl (by decide) c_5
    refine lv_bipush (v := (-4)) hx hb dX12_take_17 (by decide) ?_
    exact th_iret E hr hlk hs hT_4 hS_4 ⟨hI.1, hI.2.1, hI.2.2.1, hI.2.2.2.1, hI.2.2.2.2.1, hI.2.2.2.2.2⟩ dX12_take_19
set_option maxHeartbeats 4000000 in
set_option maxRecDepth 100000 in
/-- the reference: get -/
theorem y_get_v44 (l : Launch) (D : va_G) (cI cS : ClassId) (τ : Nat → Option Nat) (ρ : Nat → Nat → Nat) (hW : WF τ ρ) (H : Heap) (hT : TH D cI cS τ ρ H) (a0 : Nat) (ha0 : τ a0 = some 12) : MI l D cI cS τ ρ yX12_get cX12_get 3 (some .int) 0 0 H [.ref a0, .int 1, .int 6] (fun (r : Int32) (u : Heap) => (H = u) ∧ (ai H (ρ a0 0) 294 = r)) (fun q => False) := by
  refine MI.of (by decide) (Nat.le_of_ble_eq_true rfl) ?_
  intro p e s m args below meth c E hml hr hlk hs ls hl
  have hx := E.1
  have hb := E.2.1
  have hown := E.2.2.1
  have hts := E.2.2.2.1
  have hS : SS (fun q => False) H H [] := SS.rf
  have hl : lv_has ls 3 [(0, .ref a0), (1, .int 1), (2, .int 6)] := hl
  refine lv_aload_n hx hb dX12_get_0 rfl (lv_at hl 0 rfl) ?_
  refine gf_X12_7 E hT hW ha0 dX12_get_1 (fun h_1 => ?_)
  refine lv_sipush (v := 288) hx hb dX12_get_4 (by decide) ?_
  refine lv_iload_n hx hb dX12_get_7 rfl (lv_at hl 1 rfl) ?_
  refine lv_imul hx hb dX12_get_8 ?_
  refine th_topi (y := 288) (by decide) ?_
  refine lv_iload_n hx hb dX12_get_9 rfl (lv_at hl 2 rfl) ?_
  refine lv_iadd hx hb dX12_get_10 ?_
  refine th_topi (y := 294) (by decide) ?_
  refine th_iald E hT h_1 (by decide) (vp_in_iff.mpr ⟨by decide, by decide⟩) dX12_get_11 ?_
  refine th_topi (y := ai H (ρ a0 0) 294) rfl ?_
  refine lv_topi (fun x_2 ex_2 => ?_)
  have c_x_2 := congrArg Int32.toInt ex_2.symm
  exact th_iret E hr hlk hs hT hS ⟨rfl, ex_2.symm⟩ dX12_get_12
set_option maxHeartbeats 4000000 in
set_option maxRecDepth 100000 in
/-- the reference: there -/
theorem y_there_v2 (l : Launch) (D : va_G) (cI cS : ClassId) (τ : Nat → Option Nat) (ρ : Nat → Nat → Nat) (hW : WF τ ρ) (H : Heap) (hT : TH D cI cS τ ρ H) (a0 : Nat) (ha0 : τ a0 = some 12) : MI l D cI cS τ ρ yX12_there cX12_there 4 (some .int) 1 22 H [.ref a0, .int 1] (fun (r : Int32) (u : Heap) => (H = u)) (fun q => False) := by
  refine MI.of (by decide) (Nat.le_of_ble_eq_true rfl) ?_
  intro p e s m args below meth c E hml hr hlk hs ls hl
  have hx := E.1
  have hb := E.2.1
  have hown := E.2.2.1
  have hts := E.2.2.2.1
  have hS : SS (fun q => False) H H [] := SS.rf
  have hl : lv_has ls 4 [(0, .ref a0), (1, .int 1)] := hl
  have J_31 : ∀ (lc_c31 : List Loc) (ls : Array Slot) (y31_2 : Int32) (y31_3 : Int32) (z31_1 : Int32), SS (fun q => False) H H lc_c31 → lv_has ls 4 [(0, .ref a0), (1, .int 1), (2, .int y31_2), (3, .int y31_3)] → W p l e (rmO 1 22) s m args below meth c H lc_c31 0 0 (MQ below (va_Qi (fun (r : Int32) (u : Heap) => (H = u)) (Bt D cI cS τ ρ H) (fun q => False)) args s 0 0 (fun q => False)) (F0 m 31 ls [.int z31_1, .int 0]) := by
    intro lc_c31 ls y31_2 y31_3 z31_1 hS_c31 hl
    refine lv_aload_n hx hb dX12_there_31 rfl (lv_at hl 0 rfl) ?_
    refine lv_iload_n hx hb dX12_there_32 rfl (lv_at hl 1 rfl) ?_
    refine lv_bipush (v := 6) hx hb dX12_there_33 (by decide) ?_
    refine th_Vi (As := [.int 1, .int 6]) (rest := [.int z31_1, .int 0]) E hml hl.1 (y_get_v44 l D cI cS τ ρ hW H hT a0 ha0) lk_X12_99 yd_X12_get hT ha0 rfl (by decide) hS_c31 (fun _ h => h.elim) ⟨by decide, by decide⟩ (Nat.le_of_ble_eq_true rfl) ⟨by decide, by decide⟩ rfl dX12_there_35 (fun r_1 H_1 locs_1 p_1 hT_1 hk_1 hS_1 => ?_)
    have p_1 : H = H_1 ∧ (ai H (ρ a0 0) 294 = r_1) := p_1
    obtain ⟨rfl, p_1_0⟩ := p_1
    have c_r_1 := congrArg Int32.toInt p_1_0
    refine lv_isub hx hb dX12_there_38 ?_
    refine lv_topi (fun x_2 ex_2 => ?_)
    refine th_Si (As := [.int 0, .int x_2]) (rest := []) E hml hl.1 (y_greater_v5 l D cI cS τ ρ hW H hT_1 x_2) lk_X12_103 yd_X12_greater hS_1 (fun _ h => h.elim) ⟨by decide, by decide⟩ (Nat.le_of_ble_eq_true rfl) ⟨by decide, by decide⟩ rfl dX12_there_39 (fun r_3 H_3 locs_3 p_3 hT_3 hk_3 hS_3 => ?_)
    have p_3 : H = H_3 ∧ (0 ≤ r_3.toInt ∧ x_2.toInt ≤ r_3.toInt ∧ (r_3.toInt = 0 ∨ r_3.toInt = x_2.toInt)) := p_3
    obtain ⟨rfl, p_3_0⟩ := p_3
    exact th_iret E hr hlk hs hT_3 hS_3 rfl dX12_there_42
  refine lv_aload_n hx hb dX12_there_0 rfl (lv_at hl 0 rfl) ?_
  refine lv_iload_n hx hb dX12_there_1 rfl (lv_at hl 1 rfl) ?_
  refine lv_iconst (v := 5) hx hb dX12_there_2 (by decide) ?_
  refine th_Vi (As := [.int 1, .int 5]) (rest := []) E hml hl.1 (y_get_v18 l D cI cS τ ρ hW H hT a0 ha0) lk_X12_99 yd_X12_get hT ha0 rfl (by decide) hS (fun _ h => h.elim) ⟨by decide, by decide⟩ (Nat.le_of_ble_eq_true rfl) ⟨by decide, by decide⟩ rfl dX12_there_3 (fun r_4 H_4 locs_4 p_4 hT_4 hk_4 hS_4 => ?_)
  have p_4 : H = H_4 ∧ (ai H (ρ a0 0) 293 = r_4) := p_4
  obtain ⟨rfl, p_4_0⟩ := p_4
  have c_r_4 := congrArg Int32.toInt p_4_0
  refine lv_istore_n (lv' := [(2, .int r_4), (0, .ref a0), (1, .int 1)]) hx hb dX12_there_6 rfl hl (by decide) rfl (fun ls hl => ?_)
  refine lv_aload_n hx hb dX12_there_7 rfl (lv_at hl 1 rfl) ?_
  refine lv_iload_n hx hb dX12_there_8 rfl (lv_at hl 2 rfl) ?_
  refine lv_bipush (v := 17) hx hb dX12_there_9 (by decide) ?_
  refine th_Vi (As := [.int 1, .int 17]) (rest := []) E hml hl.1 (y_get_v17 l D cI cS τ ρ hW H hT_4 a0 ha0) lk_X12_99 yd_X12_get hT_4 ha0 rfl (by decide) hS_4 (fun _ h => h.elim) ⟨by decide, by decide⟩ (Nat.le_of_ble_eq_true rfl) ⟨by decide, by decide⟩ rfl dX12_there_11 (fun r_5 H_5 locs_5 p_5 hT_5 hk_5 hS_5 => ?_)
  have p_5 : H = H_5 ∧ (ai H (ρ a0 0) 305 = r_5) := p_5
  obtain ⟨rfl, p_5_0⟩ := p_5
  have c_r_5 := congrArg Int32.toInt p_5_0
  refine lv_istore_n (lv' := [(3, .int r_5), (2, .int r_4), (0, .ref a0), (1, .int 1)]) hx hb dX12_there_14 rfl hl (by decide) rfl (fun ls hl => ?_)
  refine lv_iconst (v := 0) hx hb dX12_there_15 (by decide) ?_
  refine lv_iload_n hx hb dX12_there_16 rfl (lv_at hl 0 rfl) ?_
  refine lv_bipush (v := (-4)) hx hb dX12_there_17 (by decide) ?_
  refine lv_icmp_ne (tgt := 26) hx hb dX12_there_19 (by decide) (fun c_6 => ?_) (fun c_6 => ?_)
  · have f_6 : ¬ r_5.toInt = -4 := r_ne rfl (by decide) c_6
    refine lv_iload_n hx hb dX12_there_26 rfl (lv_at hl 1 rfl) ?_
    refine lv_iload_n hx hb dX12_there_27 rfl (lv_at hl 0 rfl) ?_
    refine th_Si (As := [.int r_4, .int r_5]) (rest := [.int 0]) E hml hl.1 (y_lesser_v2 l D cI cS τ ρ hW H hT_5 r_4 r_5) lk_X12_146 yd_X12_lesser hS_5 (fun _ h => h.elim) ⟨by decide, by decide⟩ (Nat.le_of_ble_eq_true rfl) ⟨by decide, by decide⟩ rfl dX12_there_28 (fun r_7 H_7 locs_7 p_7 hT_7 hk_7 hS_7 => ?_)
    have p_7 : H = H_7 ∧ (r_7.toInt ≤ r_4.toInt ∧ r_7.toInt ≤ r_5.toInt ∧ (r_7.toInt = r_4.toInt ∨ r_7.toInt = r_5.toInt)) := p_7
    obtain ⟨rfl, p_7_0⟩ := p_7
    exact J_31 locs_7 _ r_4 r_5 r_7 hS_7 (lv_sub hl [2, 3, 1, 0] rfl)
  · have f_6 : r_5.toInt = -4 := r_eq rfl (by decide) c_6
    refine lv_iload_n hx hb dX12_there_22 rfl (lv_at hl 1 rfl) ?_
    refine lv_goto (tgt := 31) hx hb dX12_there_23 (by decide) ?_
    exact J_31 locs_5 _ r_4 r_5 r_4 hS_5 (lv_sub hl [2, 3, 1, 0] rfl)
set_option maxHeartbeats 4000000 in
set_option maxRecDepth 100000 in
/-- the reference: set -/
theorem y_set_v88 (l : Launch) (D : va_G) (cI cS : ClassId) (τ : Nat → Option Nat) (ρ : Nat → Nat → Nat) (hW : WF τ ρ) (H : Heap) (hT : TH D cI cS τ ρ H) (a0 : Nat) (x2 : Int32) (ha0 : τ a0 = some 12) : MV l D cI cS τ ρ yX12_set cX12_set 4 none 0 0 H [.ref a0, .int 1, .int 6, .int x2] (fun (u : Heap) => (AU 985 H u (ρ a0 0) 294 x2)) (fun q => q = ρ a0 0) := by
  refine MV.of (by decide) (Nat.le_of_ble_eq_true rfl) ?_
  intro p e s m args below meth c E hml hr hlk hs ls hl
  have hx := E.1
  have hb := E.2.1
  have hown := E.2.2.1
  have hts := E.2.2.2.1
  have hS : SS (fun q => q = ρ a0 0) H H [] := SS.rf
  have hl : lv_has ls 4 [(0, .ref a0), (1, .int 1), (2, .int 6), (3, .int x2)] := hl
  refine lv_aload_n hx hb dX12_set_0 rfl (lv_at hl 0 rfl) ?_
  refine gf_X12_7 E hT hW ha0 dX12_set_1 (fun h_1 => ?_)
  refine lv_sipush (v := 288) hx hb dX12_set_4 (by decide) ?_
  refine lv_iload_n hx hb dX12_set_7 rfl (lv_at hl 1 rfl) ?_
  refine lv_imul hx hb dX12_set_8 ?_
  refine th_topi (y := 288) (by decide) ?_
  refine lv_iload_n hx hb dX12_set_9 rfl (lv_at hl 2 rfl) ?_
  refine lv_iadd hx hb dX12_set_10 ?_
  refine th_topi (y := 294) (by decide) ?_
  refine lv_iload_n hx hb dX12_set_11 rfl (lv_at hl 3 rfl) ?_
  refine th_iast E hT hS h_1 rfl (by decide) (vp_in_iff.mpr ⟨by decide, by decide⟩) dX12_set_12 (fun H_2 locs_2 hT_2 hU_2 hS_2 => ?_)
  have hU_2 : AU 985 H H_2 (ρ a0 0) 294 x2 := hU_2
  exact th_vret E hr hlk hs hT_2 hS_2 hU_2 dX12_set_13
set_option maxHeartbeats 4000000 in
set_option maxRecDepth 100000 in
/-- the reference: take -/
theorem y_take_v2 (l : Launch) (D : va_G) (cI cS : ClassId) (τ : Nat → Option Nat) (ρ : Nat → Nat → Nat) (hW : WF τ ρ) (H : Heap) (hT : TH D cI cS τ ρ H) (a0 : Nat) (ha0 : τ a0 = some 12) (N : Int) (hN0 : 0 ≤ N) (hN1 : N ≤ 600) (hI : IM D ρ N H a0) (hp0 : (ai H (ρ a0 0) 294).toInt ≤ N) : MI l D cI cS τ ρ yX12_take cX12_take 5 (some .int) 6 136 H [.ref a0, .int 1] (fun (r : Int32) (u : Heap) => (IM D ρ N u a0)) (fun q => q = ρ a0 0 ∨ q = ρ a0 2) := by
  refine MI.of (by decide) (Nat.le_of_ble_eq_true rfl) ?_
  intro p e s m args below meth c E hml hr hlk hs ls hl
  have hx := E.1
  have hb := E.2.1
  have hown := E.2.2.1
  have hts := E.2.2.2.1
  have hS : SS (fun q => q = ρ a0 0 ∨ q = ρ a0 2) H H [] := SS.rf
  have hl : lv_has ls 5 [(0, .ref a0), (1, .int 1)] := hl
  have n01 := hI.2.2.2.2.2.1
  have n23 := hI.2.2.2.2.2.2.1
  have J_162 : ∀ (H_c162 : Heap) (lc_c162 : List Loc) (ls : Array Slot) (y162_2 : Int32) (y162_3 : Int32) (y162_4 : Int32), TH D cI cS τ ρ H_c162 → SS (fun q => q = ρ a0 0 ∨ q = ρ a0 2) H H_c162 lc_c162 → lv_has ls 5 [(0, .ref a0), (1, .int 1), (2, .int y162_2), (3, .int y162_3), (4, .int y162_4)] → -633 ≤ y162_3.toInt → y162_3.toInt ≤ 633 → -630 ≤ y162_4.toInt → y162_4.toInt ≤ 634 → IM D ρ N H_c162 a0 → W p l e (rmO 6 136) s m args below meth c H_c162 lc_c162 0 0 (MQ below (va_Qi (fun (r : Int32) (u : Heap) => (IM D ρ N u a0)) (Bt D cI cS τ ρ H) (fun q => q = ρ a0 0 ∨ q = ρ a0 2)) args s 0 0 (fun q => q = ρ a0 0 ∨ q = ρ a0 2)) (F0 m 162 ls []) := by
    intro H_c162 lc_c162 ls y162_2 y162_3 y162_4 hT_c162 hS_c162 hl ly162_3 uy162_3 ly162_4 uy162_4 hI_c162
    refine lv_aload_n hx hb dX12_take_162 rfl (lv_at hl 0 rfl) ?_
    refine lv_iload_n hx hb dX12_take_163 rfl (lv_at hl 1 rfl) ?_
    refine th_Vv (As := [.int 1]) (rest := []) E hml hl.1 (y_settles_v2 l D cI cS τ ρ hW H_c162 hT_c162 a0 ha0 N hN0 hN1 ⟨hI_c162.1, hI_c162.2.1, hI_c162.2.2.1, hI_c162.2.2.2.1, hI_c162.2.2.2.2.1, hI_c162.2.2.2.2.2⟩) lk_X12_166 yd_X12_settles hT_c162 ha0 rfl (by decide) hS_c162 (fun q h => (Or.inl h)) ⟨by decide, by decide⟩ (Nat.le_of_ble_eq_true rfl) ⟨by decide, by decide⟩ rfl dX12_take_164 (fun H_1 locs_1 p_1 hT_1 hk_1 hS_1 => ?_)
    have p_1 : (IM D ρ N H_1 a0) ∧ ((ai H_c162 (ρ a0 0) 976).toInt ≤ (ai H_1 (ρ a0 0) 976).toInt) := p_1
    obtain ⟨p_1_0, p_1_1⟩ := p_1
    have mn_1 : (ai H_c162 (ρ a0 0) 976).toInt ≤ (ai H_1 (ρ a0 0) 976).toInt := by exact p_1_1
    refine lv_iload_n hx hb dX12_take_167 rfl (lv_at hl 2 rfl) ?_
    exact th_iret E hr hlk hs hT_1 hS_1 ⟨p_1_0.1, p_1_0.2.1, p_1_0.2.2.1, p_1_0.2.2.2.1, p_1_0.2.2.2.2.1, p_1_0.2.2.2.2.2⟩ dX12_take_168
  refine lv_iload_n hx hb dX12_take_0 rfl (lv_at hl 1 rfl) ?_
  refine th_Si (As := [.int 1]) (rest := []) E hml hl.1 (y_isEnd_v2 l D cI cS τ ρ hW H hT) lk_X12_160 yd_X12_isEnd hS (fun _ h => h.elim) ⟨by decide, by decide⟩ (Nat.le_of_ble_eq_true rfl) ⟨by decide, by decide⟩ rfl dX12_take_1 (fun r_2 H_2 locs_2 p_2 hT_2 hk_2 hS_2 => ?_)
  have p_2 : H = H_2 ∧ (r_2 = 0 ∨ r_2 = 1) ∧ ((r_2.toInt = 1 ∧ 0 ≤ 1 ∧ 1 ≤ 1) ∨ (r_2.toInt = 0 ∧ (1 < 0 ∨ 1 < 1))) := p_2
  obtain ⟨rfl, p_2_0, p_2_1⟩ := p_2
  have z_2 := b_iv p_2_0
  refine lv_if_ne (tgt := 9) hx hb dX12_take_4 (by decide) (fun c_3 => ?_) (fun c_3 => False.elim (by have f_3 : r_2.toInt = 0 := r_eq rfl (by decide) c_3; omega))
  refine lv_aload_n hx hb dX12_take_9 rfl (lv_at hl 0 rfl) ?_
  refine lv_iload_n hx hb dX12_take_10 rfl (lv_at hl 1 rfl) ?_
  refine th_Vi (As := [.int 1]) (rest := []) E hml hl.1 (y_there_v2 l D cI cS τ ρ hW H hT_2 a0 ha0) lk_X12_185 yd_X12_there hT_2 ha0 rfl (by decide) hS_2 (fun _ h => h.elim) ⟨by decide, by decide⟩ (Nat.le_of_ble_eq_true rfl) ⟨by decide, by decide⟩ rfl dX12_take_11 (fun r_4 H_4 locs_4 p_4 hT_4 hk_4 hS_4 => ?_)
  have p_4 : H = H_4 := p_4
  obtain rfl := p_4
  refine lv_if_ne (tgt := 20) hx hb dX12_take_14 (by decide) (fun c_5 => ?_) (fun c_5 => ?_)
  · have f_5 : ¬ r_4.toInt = 0 := r_ne rfl (by decide) c_5
    have nz_r_4 : ¬ r_4 = 0 := c_5
    refine lv_aload_n hx hb dX12_take_20 rfl (lv_at hl 0 rfl) ?_
    refine lv_iload_n hx hb dX12_take_21 rfl (lv_at hl 1 rfl) ?_
    refine lv_sipush (v := 224) hx hb dX12_take_22 (by decide) ?_
    refine lv_aload_n hx hb dX12_take_25 rfl (lv_at hl 0 rfl) ?_
    refine lv_iload_n hx hb dX12_take_26 rfl (lv_at hl 1 rfl) ?_
    refine lv_bipush (v := 6) hx hb dX12_take_27 (by decide) ?_
    refine th_Vi (As := [.int 1, .int 6]) (rest := [.int 224, .int 1, .ref a0]) E hml hl.1 (y_get_v44 l D cI cS τ ρ hW H hT_4 a0 ha0) lk_X12_99 yd_X12_get hT_4 ha0 rfl (by decide) hS_4 (fun _ h => h.elim) ⟨by decide, by decide⟩ (Nat.le_of_ble_eq_true rfl) ⟨by decide, by decide⟩ rfl dX12_take_29 (fun r_6 H_6 locs_6 p_6 hT_6 hk_6 hS_6 => ?_)
    have p_6 : H = H_6 ∧ (ai H (ρ a0 0) 294 = r_6) := p_6
    obtain ⟨rfl, p_6_0⟩ := p_6
    have b_r_6 : 0 ≤ r_6.toInt ∧ r_6.toInt ≤ N + 1 := by rw [← p_6_0]; exact hI.1 294 (by decide)
    have c_r_6 := congrArg Int32.toInt p_6_0
    refine lv_bipush (v := 64) hx hb dX12_take_32 (by decide) ?_
    refine lv_irem hx hb dX12_take_34 (by decide) ?_
    refine lv_topi (fun x_7 ex_7 => ?_)
    have q_7 := i_rem (k := 64) (x := r_6) (by decide) (by decide) ex_7
    have p_7 : 0 ≤ x_7.toInt := q_7.2.2 (by omega)
    refine lv_iadd hx hb dX12_take_35 ?_
    refine lv_topi (fun x_8 ex_8 => ?_)
    have q_8 : x_8.toInt = 224 + x_7.toInt := i_pl (by decide) rfl ex_8 (by omega) (by omega)
    refine th_Vi (As := [.int 1, .int x_8]) (rest := []) E hml hl.1 (y_get_v6 l D cI cS τ ρ hW H hT_6 a0 x_8 ha0 (by omega)) lk_X12_99 yd_X12_get hT_6 ha0 rfl (by decide) hS_6 (fun _ h => h.elim) ⟨by decide, by decide⟩ (Nat.le_of_ble_eq_true rfl) ⟨by decide, by decide⟩ rfl dX12_take_36 (fun r_9 H_9 locs_9 p_9 hT_9 hk_9 hS_9 => ?_)
    have p_9 : H = H_9 ∧ (ai H (ρ a0 0) (288 + x_8.toInt).toNat = r_9) := p_9
    obtain ⟨rfl, p_9_0⟩ := p_9
    refine lv_istore_n (lv' := [(2, .int r_9), (0, .ref a0), (1, .int 1)]) hx hb dX12_take_39 rfl hl (by decide) rfl (fun ls hl => ?_)
    refine lv_aload_n hx hb dX12_take_40 rfl (lv_at hl 1 rfl) ?_
    refine lv_iload_n hx hb dX12_take_41 rfl (lv_at hl 2 rfl) ?_
    refine lv_bipush (v := 6) hx hb dX12_take_42 (by decide) ?_
    refine lv_aload_n hx hb dX12_take_44 rfl (lv_at hl 1 rfl) ?_
    refine lv_iload_n hx hb dX12_take_45 rfl (lv_at hl 2 rfl) ?_
    refine lv_bipush (v := 6) hx hb dX12_take_46 (by decide) ?_
    refine th_Vi (As := [.int 1, .int 6]) (rest := [.int 6, .int 1, .ref a0]) E hml hl.1 (y_get_v44 l D cI cS τ ρ hW H hT_9 a0 ha0) lk_X12_99 yd_X12_get hT_9 ha0 rfl (by decide) hS_9 (fun _ h => h.elim) ⟨by decide, by decide⟩ (Nat.le_of_ble_eq_true rfl) ⟨by decide, by decide⟩ rfl dX12_take_48 (fun r_10 H_10 locs_10 p_10 hT_10 hk_10 hS_10 => ?_)
    have p_10 : H = H_10 ∧ (ai H (ρ a0 0) 294 = r_10) := p_10
    obtain ⟨rfl, p_10_0⟩ := p_10
    have s_10 : r_10 = r_6 := p_10_0.symm.trans p_6_0
    refine th_topi s_10 ?_
    refine lv_iconst (v := 1) hx hb dX12_take_51 (by decide) ?_
    refine lv_iadd hx hb dX12_take_52 ?_
    refine lv_topi (fun x_11 ex_11 => ?_)
    have q_11 : x_11.toInt = r_6.toInt + 1 := i_pl rfl (by decide) ex_11 (by omega) (by omega)
    refine th_Vv (As := [.int 1, .int 6, .int x_11]) (rest := []) E hml hl.1 (y_set_v88 l D cI cS τ ρ hW H hT_10 a0 x_11 ha0) lk_X12_95 yd_X12_set hT_10 ha0 rfl (by decide) hS_10 (fun q h => (Or.inl h)) ⟨by decide, by decide⟩ (Nat.le_of_ble_eq_true rfl) ⟨by decide, by decide⟩ rfl dX12_take_53 (fun H_12 locs_12 p_12 hT_12 hk_12 hS_12 => ?_)
    have p_12 : (AU 985 H H_12 (ρ a0 0) 294 x_11) := p_12
    have hW_12 : PW N H_12 (ρ a0 0) := PW.put hI.1 p_12 (by show (0 : Int) ≤ x_11.toInt; omega) (by show x_11.toInt ≤ (N + 1 : Int); omega)
    refine lv_aload_n hx hb dX12_take_56 rfl (lv_at hl 1 rfl) ?_
    refine lv_iload_n hx hb dX12_take_57 rfl (lv_at hl 2 rfl) ?_
    refine lv_bipush (v := 7) hx hb dX12_take_58 (by decide) ?_
    refine th_Vi (As := [.int 1, .int 7]) (rest := []) E hml hl.1 (y_get_v19 l D cI cS τ ρ hW H_12 hT_12 a0 ha0) lk_X12_99 yd_X12_get hT_12 ha0 rfl (by decide) hS_12 (fun _ h => h.elim) ⟨by decide, by decide⟩ (Nat.le_of_ble_eq_true rfl) ⟨by decide, by decide⟩ rfl dX12_take_60 (fun r_13 H_13 locs_13 p_13 hT_13 hk_13 hS_13 => ?_)
    have p_13 : H_12 = H_13 ∧ (ai H_12 (ρ a0 0) 295 = r_13) := p_13
    obtain ⟨rfl, p_13_0⟩ := p_13
    have t_13 : ai H (ρ a0 0) 295 = r_13 := (AU.o p_12 (by decide) (by decide)).symm.trans p_13_0
    have b_r_13 : 0 ≤ r_13.toInt ∧ r_13.toInt ≤ N + 33 := by rw [← t_13]; exact hI.1 295 (by decide)
    have c_r_13 := congrArg Int32.toInt t_13
    refine lv_aload_n hx hb dX12_take_63 rfl (lv_at hl 1 rfl) ?_
    refine lv_iload_n hx hb dX12_take_64 rfl (lv_at hl 2 rfl) ?_
    refine lv_iconst (v := 5) hx hb dX12_take_65 (by decide) ?_
    refine th_Vi (As := [.int 1, .int 5]) (rest := [.int r_13]) E hml hl.1 (y_get_v18 l D cI cS τ ρ hW H_12 hT_13 a0 ha0) lk_X12_99 yd_X12_get hT_13 ha0 rfl (by decide) hS_13 (fun _ h => h.elim) ⟨by decide, by decide⟩ (Nat.le_of_ble_eq_true rfl) ⟨by decide, by decide⟩ rfl dX12_take_66 (fun r_14 H_14 locs_14 p_14 hT_14 hk_14 hS_14 => ?_)
    have p_14 : H_12 = H_14 ∧ (ai H_12 (ρ a0 0) 293 = r_14) := p_14
    obtain ⟨rfl, p_14_0⟩ := p_14
    have t_14 : ai H (ρ a0 0) 293 = r_14 := (AU.o p_12 (by decide) (by decide)).symm.trans p_14_0
    have b_r_14 : 0 ≤ r_14.toInt ∧ r_14.toInt ≤ N + 33 := by rw [← t_14]; exact hI.1 293 (by decide)
    have c_r_14 := congrArg Int32.toInt t_14
    refine lv_isub hx hb dX12_take_69 ?_
    refine lv_topi (fun x_15 ex_15 => ?_)
    have q_15 : x_15.toInt = r_13.toInt - r_14.toInt := i_mi rfl rfl ex_15 (by omega) (by omega)
    refine lv_istore_n (lv' := [(3, .int x_15), (2, .int r_9), (0, .ref a0), (1, .int 1)]) hx hb dX12_take_70 rfl hl (by decide) rfl (fun ls hl => ?_)
    refine lv_aload_n hx hb dX12_take_71 rfl (lv_at hl 2 rfl) ?_
    refine lv_iload_n hx hb dX12_take_72 rfl (lv_at hl 3 rfl) ?_
    refine lv_bipush (v := 6) hx hb dX12_take_73 (by decide) ?_
    refine th_Vi (As := [.int 1, .int 6]) (rest := []) E hml hl.1 (y_get_v44 l D cI cS τ ρ hW H_12 hT_14 a0 ha0) lk_X12_99 yd_X12_get hT_14 ha0 rfl (by decide) hS_14 (fun _ h => h.elim) ⟨by decide, by decide⟩ (Nat.le_of_ble_eq_true rfl) ⟨by decide, by decide⟩ rfl dX12_take_75 (fun r_16 H_16 locs_16 p_16 hT_16 hk_16 hS_16 => ?_)
    have p_16 : H_12 = H_16 ∧ (ai H_12 (ρ a0 0) 294 = r_16) := p_16
    obtain ⟨rfl, p_16_0⟩ := p_16
    have s_16 : r_16 = x_11 := p_16_0.symm.trans (AU.s p_12 (by decide))
    refine th_topi s_16 ?_
    refine lv_aload_n hx hb dX12_take_78 rfl (lv_at hl 2 rfl) ?_
    refine gf_X12_29 E hT_16 ha0 dX12_take_79 ?_
    refine th_topi (y := fi D 12 7 H a0) (fi_q (p_12.2 _ (th_ne ha0 (hW _ 12 0 ha0 (by decide) (by decide) (by decide)) (by decide)))) ?_
    refine lv_topi (fun x_17 ex_17 => ?_)
    have b_17 : 2 ≤ x_17.toInt ∧ x_17.toInt ≤ 32 := by rw [ex_17]; exact IF.f7 hI.2.2.2.2.2
    refine lv_iadd hx hb dX12_take_82 ?_
    refine lv_topi (fun x_18 ex_18 => ?_)
    have q_18 : x_18.toInt = x_11.toInt + x_17.toInt := i_pl rfl rfl ex_18 (by omega) (by omega)
    refine lv_aload_n hx hb dX12_take_83 rfl (lv_at hl 2 rfl) ?_
    refine lv_iload_n hx hb dX12_take_84 rfl (lv_at hl 3 rfl) ?_
    refine lv_bipush (v := 7) hx hb dX12_take_85 (by decide) ?_
    refine th_Vi (As := [.int 1, .int 7]) (rest := [.int x_18]) E hml hl.1 (y_get_v19 l D cI cS τ ρ hW H_12 hT_16 a0 ha0) lk_X12_99 yd_X12_get hT_16 ha0 rfl (by decide) hS_16 (fun _ h => h.elim) ⟨by decide, by decide⟩ (Nat.le_of_ble_eq_true rfl) ⟨by decide, by decide⟩ rfl dX12_take_87 (fun r_19 H_19 locs_19 p_19 hT_19 hk_19 hS_19 => ?_)
    have p_19 : H_12 = H_19 ∧ (ai H_12 (ρ a0 0) 295 = r_19) := p_19
    obtain ⟨rfl, p_19_0⟩ := p_19
    have s_19 : r_19 = r_13 := p_19_0.symm.trans ((AU.o p_12 (by decide) (by decide)).trans t_13)
    refine th_topi s_19 ?_
    refine lv_isub hx hb dX12_take_90 ?_
    refine lv_topi (fun x_20 ex_20 => ?_)
    have q_20 : x_20.toInt = x_18.toInt - r_13.toInt := i_mi rfl rfl ex_20 (by omega) (by omega)
    refine lv_istore (lv' := [(4, .int x_20), (3, .int x_15), (2, .int r_9), (0, .ref a0), (1, .int 1)]) hx hb dX12_take_91 hl (by decide) rfl (fun ls hl => ?_)
    refine lv_iload hx hb dX12_take_93 (lv_at hl 0 rfl) ?_
    refine lv_aload_n hx hb dX12_take_95 rfl (lv_at hl 3 rfl) ?_
    refine gf_X12_25 E hT_19 ha0 dX12_take_96 ?_
    refine th_topi (y := fi D 12 6 H a0) (fi_q (p_12.2 _ (th_ne ha0 (hW _ 12 0 ha0 (by decide) (by decide) (by decide)) (by decide)))) ?_
    refine lv_topi (fun x_21 ex_21 => ?_)
    have b_21 : 1 ≤ x_21.toInt ∧ x_21.toInt ≤ 8 := by rw [ex_21]; exact IF.f6 hI.2.2.2.2.2
    refine lv_icmp_ge (tgt := 113) hx hb dX12_take_99 (by decide) (fun c_22 => ?_) (fun c_22 => ?_)
    · have f_22 : x_21.toInt ≤ x_20.toInt := r_le rfl rfl c_22
      refine lv_aload_n hx hb dX12_take_113 rfl (lv_at hl 3 rfl) ?_
      refine lv_iload_n hx hb dX12_take_114 rfl (lv_at hl 4 rfl) ?_
      refine lv_bipush (v := 7) hx hb dX12_take_115 (by decide) ?_
      refine lv_aload_n hx hb dX12_take_117 rfl (lv_at hl 3 rfl) ?_
      refine lv_iload_n hx hb dX12_take_118 rfl (lv_at hl 4 rfl) ?_
      refine lv_bipush (v := 7) hx hb dX12_take_119 (by decide) ?_
      refine th_Vi (As := [.int 1, .int 7]) (rest := [.int 7, .int 1, .ref a0]) E hml hl.1 (y_get_v19 l D cI cS τ ρ hW H_12 hT_19 a0 ha0) lk_X12_99 yd_X12_get hT_19 ha0 rfl (by decide) hS_19 (fun _ h => h.elim) ⟨by decide, by decide⟩ (Nat.le_of_ble_eq_true rfl) ⟨by decide, by decide⟩ rfl dX12_take_121 (fun r_23 H_23 locs_23 p_23 hT_23 hk_23 hS_23 => ?_)
      have p_23 : H_12 = H_23 ∧ (ai H_12 (ρ a0 0) 295 = r_23) := p_23
      obtain ⟨rfl, p_23_0⟩ := p_23
      have s_23 : r_23 = r_13 := p_23_0.symm.trans ((AU.o p_12 (by decide) (by decide)).trans t_13)
      refine th_topi s_23 ?_
      refine lv_iload hx hb dX12_take_124 (lv_at hl 0 rfl) ?_
      refine lv_iadd hx hb dX12_take_126 ?_
      refine lv_topi (fun x_24 ex_24 => ?_)
      have q_24 : x_24.toInt = r_13.toInt + x_20.toInt := i_pl rfl rfl ex_24 (by omega) (by omega)
      refine th_Vv (As := [.int 1, .int 7, .int x_24]) (rest := []) E hml hl.1 (y_set_v76 l D cI cS τ ρ hW H_12 hT_23 a0 x_24 ha0) lk_X12_95 yd_X12_set hT_23 ha0 rfl (by decide) hS_23 (fun q h => (Or.inl h)) ⟨by decide, by decide⟩ (Nat.le_of_ble_eq_true rfl) ⟨by decide, by decide⟩ rfl dX12_take_127 (fun H_25 locs_25 p_25 hT_25 hk_25 hS_25 => ?_)
      have p_25 : (AU 985 H_12 H_25 (ρ a0 0) 295 x_24) := p_25
      have hW_25 : PW N H_25 (ρ a0 0) := PW.put hW_12 p_25 (by show (0 : Int) ≤ x_24.toInt; omega) (by show x_24.toInt ≤ (N + 33 : Int); omega)
      refine lv_iload_n hx hb dX12_take_130 rfl (lv_at hl 1 rfl) ?_
      refine lv_aload_n hx hb dX12_take_131 rfl (lv_at hl 3 rfl) ?_
      refine gf_X12_25 E hT_25 ha0 dX12_take_132 ?_
      refine th_topi (y := x_21) (Eq.trans (fi_q (p_25.2 _ (th_ne ha0 (hW _ 12 0 ha0 (by decide) (by decide) (by decide)) (by decide)))) ((fi_q (p_12.2 _ (th_ne ha0 (hW _ 12 0 ha0 (by decide) (by decide) (by decide)) (by decide)))).trans ex_21.symm)) ?_
      refine lv_icmp_ge (tgt := 162) hx hb dX12_take_135 (by decide) (fun c_26 => ?_) (fun c_26 => ?_)
      · have f_26 : x_21.toInt ≤ x_15.toInt := r_le rfl rfl c_26
        exact J_162 H_25 locs_25 _ r_9 x_15 x_20 hT_25 hS_25 (lv_sub hl [3, 4, 2, 1, 0] rfl) (by omega) (by omega) (by omega) (by omega) ⟨hW_25, (QS.same (Eq.trans (AU.o p_25 (by decide) (by decide)) (AU.o p_12 (by decide) (by decide))) (Eq.trans (AU.o p_25 (by decide) (by decide)) (AU.o p_12 (by decide) (by decide))) hI.2.1), (QS.same (Eq.trans (AU.o p_25 (by decide) (by decide)) (AU.o p_12 (by decide) (by decide))) (Eq.trans (AU.o p_25 (by decide) (by decide)) (AU.o p_12 (by decide) (by decide))) hI.2.2.1), (PL.q (p_25.2 _ (th_ne (hW _ 12 2 ha0 (by decide) (by decide) (by decide)) (hW _ 12 0 ha0 (by decide) (by decide) (by decide)) (by decide))) (PL.q (p_12.2 _ (th_ne (hW _ 12 2 ha0 (by decide) (by decide) (by decide)) (hW _ 12 0 ha0 (by decide) (by decide) (by decide)) (by decide))) hI.2.2.2.1)), (PL.q (p_25.2 _ (th_ne (hW _ 12 3 ha0 (by decide) (by decide) (by decide)) (hW _ 12 0 ha0 (by decide) (by decide) (by decide)) (by decide))) (PL.q (p_12.2 _ (th_ne (hW _ 12 3 ha0 (by decide) (by decide) (by decide)) (hW _ 12 0 ha0 (by decide) (by decide) (by decide)) (by decide))) hI.2.2.2.2.1)), (IF.q (p_25.2 _ (th_ne ha0 (hW _ 12 0 ha0 (by decide) (by decide) (by decide)) (by decide))) (IF.q (p_12.2 _ (th_ne ha0 (hW _ 12 0 ha0 (by decide) (by decide) (by decide)) (by decide))) hI.2.2.2.2.2))⟩
      · have f_26 : x_15.toInt < x_21.toInt := r_nle rfl rfl c_26
        refine lv_aload_n hx hb dX12_take_138 rfl (lv_at hl 3 rfl) ?_
        refine lv_iload_n hx hb dX12_take_139 rfl (lv_at hl 4 rfl) ?_
        refine lv_iconst (v := 0) hx hb dX12_take_140 (by decide) ?_
        refine th_Vi (As := [.int 1, .int 0]) (rest := []) E hml hl.1 (y_get_v20 l D cI cS τ ρ hW H_25 hT_25 a0 ha0) lk_X12_99 yd_X12_get hT_25 ha0 rfl (by decide) hS_25 (fun _ h => h.elim) ⟨by decide, by decide⟩ (Nat.le_of_ble_eq_true rfl) ⟨by decide, by decide⟩ rfl dX12_take_141 (fun r_27 H_27 locs_27 p_27 hT_27 hk_27 hS_27 => ?_)
        have p_27 : H_25 = H_27 ∧ (ai H_25 (ρ a0 0) 288 = r_27) := p_27
        obtain ⟨rfl, p_27_0⟩ := p_27
        have t_27 : ai H (ρ a0 0) 288 = r_27 := (Eq.trans (AU.o p_25 (by decide) (by decide)) (AU.o p_12 (by decide) (by decide))).symm.trans p_27_0
        have c_r_27 := congrArg Int32.toInt t_27
        obtain ⟨x_28, ex_28⟩ : ∃ y : Int64, r_27.toInt64 = y := ⟨_, rfl⟩
        refine lv_i2l (v := x_28) hx hb dX12_take_144 ex_28 ?_
        have q_28 : x_28.toInt = r_27.toInt := by rw [← ex_28]; exact Int32.toInt_toInt64 _
        refine lv_ldc2 (v := 4) hx hb hown (hts _ qw_1211) dX12_take_145 ?_
        refine lv_ldc2 (v := 6) hx hb hown (hts _ qw_1212) dX12_take_148 ?_
        refine th_Si (As := [.long x_28, .long 4, .long 6]) (rest := []) E hml hl.1 (y_in_v2 l D cI cS τ ρ hW H_25 hT_27 x_28) lk_X12_54 yd_X12_in hS_27 (fun _ h => h.elim) ⟨by decide, by decide⟩ (Nat.le_of_ble_eq_true rfl) ⟨by decide, by decide⟩ rfl dX12_take_151 (fun r_29 H_29 locs_29 p_29 hT_29 hk_29 hS_29 => ?_)
        have p_29 : H_25 = H_29 ∧ (r_29 = 0 ∨ r_29 = 1) ∧ ((r_29.toInt = 1 ∧ 4 ≤ x_28.toInt ∧ x_28.toInt ≤ 6) ∨ (r_29.toInt = 0 ∧ (x_28.toInt < 4 ∨ 6 < x_28.toInt))) := p_29
        obtain ⟨rfl, p_29_0, p_29_1⟩ := p_29
        have z_29 := b_iv p_29_0
        refine lv_if_eq (tgt := 162) hx hb dX12_take_154 (by decide) (fun c_30 => ?_) (fun c_30 => ?_)
        · have f_30 : r_29.toInt = 0 := r_eq rfl (by decide) c_30
          exact J_162 H_25 locs_29 _ r_9 x_15 x_20 hT_29 hS_29 (lv_sub hl [3, 4, 2, 1, 0] rfl) (by omega) (by omega) (by omega) (by omega) ⟨hW_25, (QS.same (Eq.trans (AU.o p_25 (by decide) (by decide)) (AU.o p_12 (by decide) (by decide))) (Eq.trans (AU.o p_25 (by decide) (by decide)) (AU.o p_12 (by decide) (by decide))) hI.2.1), (QS.same (((Eq.trans (AU.o p_25 (by decide) (by decide)) (AU.o p_12 (by decide) (by decide))).trans t_27).trans t_27.symm) (Eq.trans (AU.o p_25 (by decide) (by decide)) (AU.o p_12 (by decide) (by decide))) hI.2.2.1), (PL.q (p_25.2 _ (th_ne (hW _ 12 2 ha0 (by decide) (by decide) (by decide)) (hW _ 12 0 ha0 (by decide) (by decide) (by decide)) (by decide))) (PL.q (p_12.2 _ (th_ne (hW _ 12 2 ha0 (by decide) (by decide) (by decide)) (hW _ 12 0 ha0 (by decide) (by decide) (by decide)) (by decide))) hI.2.2.2.1)), (PL.q (p_25.2 _ (th_ne (hW _ 12 3 ha0 (by decide) (by decide) (by decide)) (hW _ 12 0 ha0 (by decide) (by decide) (by decide)) (by decide))) (PL.q (p_12.2 _ (th_ne (hW _ 12 3 ha0 (by decide) (by decide) (by decide)) (hW _ 12 0 ha0 (by decide) (by decide) (by decide)) (by decide))) hI.2.2.2.2.1)), (IF.q (p_25.2 _ (th_ne ha0 (hW _ 12 0 ha0 (by decide) (by decide) (by decide)) (by decide))) (IF.q (p_12.2 _ (th_ne ha0 (hW _ 12 0 ha0 (by decide) (by decide) (by decide)) (by decide))) hI.2.2.2.2.2))⟩
        · have f_30 : ¬ r_29.toInt = 0 := r_ne rfl (by decide) c_30
          have nz_r_29 : ¬ r_29 = 0 := c_30
          refine lv_aload_n hx hb dX12_take_157 rfl (lv_at hl 3 rfl) ?_
          refine lv_iload_n hx hb dX12_take_158 rfl (lv_at hl 4 rfl) ?_
          refine th_Vv (As := [.int 1]) (rest := []) E hml hl.1 (y_yes_v2 l D cI cS τ ρ hW H_25 hT_29 a0 ha0 N hN0 hN1 ⟨hW_25, (QS.same (Eq.trans (AU.o p_25 (by decide) (by decide)) (AU.o p_12 (by decide) (by decide))) (Eq.trans (AU.o p_25 (by decide) (by decide)) (AU.o p_12 (by decide) (by decide))) hI.2.1), (QS.same (((Eq.trans (AU.o p_25 (by decide) (by decide)) (AU.o p_12 (by decide) (by decide))).trans t_27).trans t_27.symm) (Eq.trans (AU.o p_25 (by decide) (by decide)) (AU.o p_12 (by decide) (by decide))) hI.2.2.1), (PL.q (p_25.2 _ (th_ne (hW _ 12 2 ha0 (by decide) (by decide) (by decide)) (hW _ 12 0 ha0 (by decide) (by decide) (by decide)) (by decide))) (PL.q (p_12.2 _ (th_ne (hW _ 12 2 ha0 (by decide) (by decide) (by decide)) (hW _ 12 0 ha0 (by decide) (by decide) (by decide)) (by decide))) hI.2.2.2.1)), (PL.q (p_25.2 _ (th_ne (hW _ 12 3 ha0 (by decide) (by decide) (by decide)) (hW _ 12 0 ha0 (by decide) (by decide) (by decide)) (by decide))) (PL.q (p_12.2 _ (th_ne (hW _ 12 3 ha0 (by decide) (by decide) (by decide)) (hW _ 12 0 ha0 (by decide) (by decide) (by decide)) (by decide))) hI.2.2.2.2.1)), (IF.q (p_25.2 _ (th_ne ha0 (hW _ 12 0 ha0 (by decide) (by decide) (by decide)) (by decide))) (IF.q (p_12.2 _ (th_ne ha0 (hW _ 12 0 ha0 (by decide) (by decide) (by decide)) (by decide))) hI.2.2.2.2.2))⟩) lk_X12_193 yd_X12_yes hT_29 ha0 rfl (by decide) hS_29 (fun q => (fun h => h.elim (fun h => (Or.inr h)) (fun h => (Or.inl h)))) ⟨by decide, by decide⟩ (Nat.le_of_ble_eq_true rfl) ⟨by decide, by decide⟩ rfl dX12_take_159 (fun H_31 locs_31 p_31 hT_31 hk_31 hS_31 => ?_)
          have p_31 : (IM D ρ N H_31 a0) ∧ ((ai H_25 (ρ a0 0) 976).toInt ≤ (ai H_31 (ρ a0 0) 976).toInt) := p_31
          obtain ⟨p_31_0, p_31_1⟩ := p_31
          have mn_31 : (ai H (ρ a0 0) 976).toInt ≤ (ai H_31 (ρ a0 0) 976).toInt := by have h := p_31_1; rw [(Eq.trans (AU.o p_25 (by decide) (by decide)) (AU.o p_12 (by decide) (by decide)))] at h; exact h
          exact J_162 H_31 locs_31 _ r_9 x_15 x_20 hT_31 hS_31 (lv_sub hl [3, 4, 2, 1, 0] rfl) (by omega) (by omega) (by omega) (by omega) ⟨p_31_0.1, p_31_0.2.1, p_31_0.2.2.1, p_31_0.2.2.2.1, p_31_0.2.2.2.2.1, p_31_0.2.2.2.2.2⟩
    · have f_22 : x_20.toInt < x_21.toInt := r_nle rfl rfl c_22
      refine lv_iconst (v := 2) hx hb dX12_take_102 (by decide) ?_
      refine lv_iload hx hb dX12_take_103 (lv_at hl 0 rfl) ?_
      refine lv_imul hx hb dX12_take_105 ?_
      refine lv_topi (fun x_32 ex_32 => ?_)
      have q_32 : x_32.toInt = 2 * x_20.toInt := i_ml (by decide) rfl ex_32 (by omega) (by omega)
      refine lv_aload_n hx hb dX12_take_106 rfl (lv_at hl 3 rfl) ?_
      refine gf_X12_29 E hT_19 ha0 dX12_take_107 ?_
      refine th_topi (y := x_17) ((fi_q (p_12.2 _ (th_ne ha0 (hW _ 12 0 ha0 (by decide) (by decide) (by decide)) (by decide)))).trans ex_17.symm) ?_
      refine lv_icmp_lt (tgt := 162) hx hb dX12_take_110 (by decide) (fun c_33 => ?_) (fun c_33 => ?_)
      · have f_33 : x_32.toInt < x_17.toInt := r_lt rfl rfl c_33
        exact J_162 H_12 locs_19 _ r_9 x_15 x_20 hT_19 hS_19 (lv_sub hl [3, 4, 2, 1, 0] rfl) (by omega) (by omega) (by omega) (by omega) ⟨hW_12, (QS.same (AU.o p_12 (by decide) (by decide)) (AU.o p_12 (by decide) (by decide)) hI.2.1), (QS.same (AU.o p_12 (by decide) (by decide)) (AU.o p_12 (by decide) (by decide)) hI.2.2.1), (PL.q (p_12.2 _ (th_ne (hW _ 12 2 ha0 (by decide) (by decide) (by decide)) (hW _ 12 0 ha0 (by decide) (by decide) (by decide)) (by decide))) hI.2.2.2.1), (PL.q (p_12.2 _ (th_ne (hW _ 12 3 ha0 (by decide) (by decide) (by decide)) (hW _ 12 0 ha0 (by decide) (by decide) (by decide)) (by decide))) hI.2.2.2.2.1), (IF.q (p_12.2 _ (th_ne ha0 (hW _ 12 0 ha0 (by decide) (by decide) (by decide)) (by decide))) hI.2.2.2.2.2)⟩
      · have f_33 : x_17.toInt ≤ x_32.toInt := r_nlt rfl rfl c_33
        refine lv_aload_n hx hb dX12_take_113 rfl (lv_at hl 3 rfl) ?_
        refine lv_iload_n hx hb dX12_take_114 rfl (lv_at hl 4 rfl) ?_
        refine lv_bipush (v := 7) hx hb dX12_take_115 (by decide) ?_
        refine lv_aload_n hx hb dX12_take_117 rfl (lv_at hl 3 rfl) ?_
        refine lv_iload_n hx hb dX12_take_118 rfl (lv_at hl 4 rfl) ?_
        refine lv_bipush (v := 7) hx hb dX12_take_119 (by decide) ?_
        refine th_Vi (As := [.int 1, .int 7]) (rest := [.int 7, .int 1, .ref a0]) E hml hl.1 (y_get_v19 l D cI cS τ ρ hW H_12 hT_19 a0 ha0) lk_X12_99 yd_X12_get hT_19 ha0 rfl (by decide) hS_19 (fun _ h => h.elim) ⟨by decide, by decide⟩ (Nat.le_of_ble_eq_true rfl) ⟨by decide, by decide⟩ rfl dX12_take_121 (fun r_34 H_34 locs_34 p_34 hT_34 hk_34 hS_34 => ?_)
        have p_34 : H_12 = H_34 ∧ (ai H_12 (ρ a0 0) 295 = r_34) := p_34
        obtain ⟨rfl, p_34_0⟩ := p_34
        have s_34 : r_34 = r_13 := p_34_0.symm.trans ((AU.o p_12 (by decide) (by decide)).trans t_13)
        refine th_topi s_34 ?_
        refine lv_iload hx hb dX12_take_124 (lv_at hl 0 rfl) ?_
        refine lv_iadd hx hb dX12_take_126 ?_
        refine lv_topi (fun x_35 ex_35 => ?_)
        have q_35 : x_35.toInt = r_13.toInt + x_20.toInt := i_pl rfl rfl ex_35 (by omega) (by omega)
        refine th_Vv (As := [.int 1, .int 7, .int x_35]) (rest := []) E hml hl.1 (y_set_v76 l D cI cS τ ρ hW H_12 hT_34 a0 x_35 ha0) lk_X12_95 yd_X12_set hT_34 ha0 rfl (by decide) hS_34 (fun q h => (Or.inl h)) ⟨by decide, by decide⟩ (Nat.le_of_ble_eq_true rfl) ⟨by decide, by decide⟩ rfl dX12_take_127 (fun H_36 locs_36 p_36 hT_36 hk_36 hS_36 => ?_)
        have p_36 : (AU 985 H_12 H_36 (ρ a0 0) 295 x_35) := p_36
        have hW_36 : PW N H_36 (ρ a0 0) := PW.put hW_12 p_36 (by show (0 : Int) ≤ x_35.toInt; omega) (by show x_35.toInt ≤ (N + 33 : Int); omega)
        refine lv_iload_n hx hb dX12_take_130 rfl (lv_at hl 1 rfl) ?_
        refine lv_aload_n hx hb dX12_take_131 rfl (lv_at hl 3 rfl) ?_
        refine gf_X12_25 E hT_36 ha0 dX12_take_132 ?_
        refine th_topi (y := x_21) (Eq.trans (fi_q (p_36.2 _ (th_ne ha0 (hW _ 12 0 ha0 (by decide) (by decide) (by decide)) (by decide)))) ((fi_q (p_12.2 _ (th_ne ha0 (hW _ 12 0 ha0 (by decide) (by decide) (by decide)) (by decide)))).trans ex_21.symm)) ?_
        refine lv_icmp_ge (tgt := 162) hx hb dX12_take_135 (by decide) (fun c_37 => ?_) (fun c_37 => ?_)
        · have f_37 : x_21.toInt ≤ x_15.toInt := r_le rfl rfl c_37
          exact J_162 H_36 locs_36 _ r_9 x_15 x_20 hT_36 hS_36 (lv_sub hl [3, 4, 2, 1, 0] rfl) (by omega) (by omega) (by omega) (by omega) ⟨hW_36, (QS.same (Eq.trans (AU.o p_36 (by decide) (by decide)) (AU.o p_12 (by decide) (by decide))) (Eq.trans (AU.o p_36 (by decide) (by decide)) (AU.o p_12 (by decide) (by decide))) hI.2.1), (QS.same (Eq.trans (AU.o p_36 (by decide) (by decide)) (AU.o p_12 (by decide) (by decide))) (Eq.trans (AU.o p_36 (by decide) (by decide)) (AU.o p_12 (by decide) (by decide))) hI.2.2.1), (PL.q (p_36.2 _ (th_ne (hW _ 12 2 ha0 (by decide) (by decide) (by decide)) (hW _ 12 0 ha0 (by decide) (by decide) (by decide)) (by decide))) (PL.q (p_12.2 _ (th_ne (hW _ 12 2 ha0 (by decide) (by decide) (by decide)) (hW _ 12 0 ha0 (by decide) (by decide) (by decide)) (by decide))) hI.2.2.2.1)), (PL.q (p_36.2 _ (th_ne (hW _ 12 3 ha0 (by decide) (by decide) (by decide)) (hW _ 12 0 ha0 (by decide) (by decide) (by decide)) (by decide))) (PL.q (p_12.2 _ (th_ne (hW _ 12 3 ha0 (by decide) (by decide) (by decide)) (hW _ 12 0 ha0 (by decide) (by decide) (by decide)) (by decide))) hI.2.2.2.2.1)), (IF.q (p_36.2 _ (th_ne ha0 (hW _ 12 0 ha0 (by decide) (by decide) (by decide)) (by decide))) (IF.q (p_12.2 _ (th_ne ha0 (hW _ 12 0 ha0 (by decide) (by decide) (by decide)) (by decide))) hI.2.2.2.2.2))⟩
        · have f_37 : x_15.toInt < x_21.toInt := r_nle rfl rfl c_37
          refine lv_aload_n hx hb dX12_take_138 rfl (lv_at hl 3 rfl) ?_
          refine lv_iload_n hx hb dX12_take_139 rfl (lv_at hl 4 rfl) ?_
          refine lv_iconst (v := 0) hx hb dX12_take_140 (by decide) ?_
          refine th_Vi (As := [.int 1, .int 0]) (rest := []) E hml hl.1 (y_get_v20 l D cI cS τ ρ hW H_36 hT_36 a0 ha0) lk_X12_99 yd_X12_get hT_36 ha0 rfl (by decide) hS_36 (fun _ h => h.elim) ⟨by decide, by decide⟩ (Nat.le_of_ble_eq_true rfl) ⟨by decide, by decide⟩ rfl dX12_take_141 (fun r_38 H_38 locs_38 p_38 hT_38 hk_38 hS_38 => ?_)
          have p_38 : H_36 = H_38 ∧ (ai H_36 (ρ a0 0) 288 = r_38) := p_38
          obtain ⟨rfl, p_38_0⟩ := p_38
          have t_38 : ai H (ρ a0 0) 288 = r_38 := (Eq.trans (AU.o p_36 (by decide) (by decide)) (AU.o p_12 (by decide) (by decide))).symm.trans p_38_0
          have c_r_38 := congrArg Int32.toInt t_38
          obtain ⟨x_39, ex_39⟩ : ∃ y : Int64, r_38.toInt64 = y := ⟨_, rfl⟩
          refine lv_i2l (v := x_39) hx hb dX12_take_144 ex_39 ?_
          have q_39 : x_39.toInt = r_38.toInt := by rw [← ex_39]; exact Int32.toInt_toInt64 _
          refine lv_ldc2 (v := 4) hx hb hown (hts _ qw_1211) dX12_take_145 ?_
          refine lv_ldc2 (v := 6) hx hb hown (hts _ qw_1212) dX12_take_148 ?_
          refine th_Si (As := [.long x_39, .long 4, .long 6]) (rest := []) E hml hl.1 (y_in_v2 l D cI cS τ ρ hW H_36 hT_38 x_39) lk_X12_54 yd_X12_in hS_38 (fun _ h => h.elim) ⟨by decide, by decide⟩ (Nat.le_of_ble_eq_true rfl) ⟨by decide, by decide⟩ rfl dX12_take_151 (fun r_40 H_40 locs_40 p_40 hT_40 hk_40 hS_40 => ?_)
          have p_40 : H_36 = H_40 ∧ (r_40 = 0 ∨ r_40 = 1) ∧ ((r_40.toInt = 1 ∧ 4 ≤ x_39.toInt ∧ x_39.toInt ≤ 6) ∨ (r_40.toInt = 0 ∧ (x_39.toInt < 4 ∨ 6 < x_39.toInt))) := p_40
          obtain ⟨rfl, p_40_0, p_40_1⟩ := p_40
          have z_40 := b_iv p_40_0
          refine lv_if_eq (tgt := 162) hx hb dX12_take_154 (by decide) (fun c_41 => ?_) (fun c_41 => ?_)
          · have f_41 : r_40.toInt = 0 := r_eq rfl (by decide) c_41
            exact J_162 H_36 locs_40 _ r_9 x_15 x_20 hT_40 hS_40 (lv_sub hl [3, 4, 2, 1, 0] rfl) (by omega) (by omega) (by omega) (by omega) ⟨hW_36, (QS.same (Eq.trans (AU.o p_36 (by decide) (by decide)) (AU.o p_12 (by decide) (by decide))) (Eq.trans (AU.o p_36 (by decide) (by decide)) (AU.o p_12 (by decide) (by decide))) hI.2.1), (QS.same (((Eq.trans (AU.o p_36 (by decide) (by decide)) (AU.o p_12 (by decide) (by decide))).trans t_38).trans t_38.symm) (Eq.trans (AU.o p_36 (by decide) (by decide)) (AU.o p_12 (by decide) (by decide))) hI.2.2.1), (PL.q (p_36.2 _ (th_ne (hW _ 12 2 ha0 (by decide) (by decide) (by decide)) (hW _ 12 0 ha0 (by decide) (by decide) (by decide)) (by decide))) (PL.q (p_12.2 _ (th_ne (hW _ 12 2 ha0 (by decide) (by decide) (by decide)) (hW _ 12 0 ha0 (by decide) (by decide) (by decide)) (by decide))) hI.2.2.2.1)), (PL.q (p_36.2 _ (th_ne (hW _ 12 3 ha0 (by decide) (by decide) (by decide)) (hW _ 12 0 ha0 (by decide) (by decide) (by decide)) (by decide))) (PL.q (p_12.2 _ (th_ne (hW _ 12 3 ha0 (by decide) (by decide) (by decide)) (hW _ 12 0 ha0 (by decide) (by decide) (by decide)) (by decide))) hI.2.2.2.2.1)), (IF.q (p_36.2 _ (th_ne ha0 (hW _ 12 0 ha0 (by decide) (by decide) (by decide)) (by decide))) (IF.q (p_12.2 _ (th_ne ha0 (hW _ 12 0 ha0 (by decide) (by decide) (by decide)) (by decide))) hI.2.2.2.2.2))⟩
          · have f_41 : ¬ r_40.toInt = 0 := r_ne rfl (by decide) c_41
            have nz_r_40 : ¬ r_40 = 0 := c_41
            refine lv_aload_n hx hb dX12_take_157 rfl (lv_at hl 3 rfl) ?_
            refine lv_iload_n hx hb dX12_take_158 rfl (lv_at hl 4 rfl) ?_
            refine th_Vv (As := [.int 1]) (rest := []) E hml hl.1 (y_yes_v2 l D cI cS τ ρ hW H_36 hT_40 a0 ha0 N hN0 hN1 ⟨hW_36, (QS.same (Eq.trans (AU.o p_36 (by decide) (by decide)) (AU.o p_12 (by decide) (by decide))) (Eq.trans (AU.o p_36 (by decide) (by decide)) (AU.o p_12 (by decide) (by decide))) hI.2.1), (QS.same (((Eq.trans (AU.o p_36 (by decide) (by decide)) (AU.o p_12 (by decide) (by decide))).trans t_38).trans t_38.symm) (Eq.trans (AU.o p_36 (by decide) (by decide)) (AU.o p_12 (by decide) (by decide))) hI.2.2.1), (PL.q (p_36.2 _ (th_ne (hW _ 12 2 ha0 (by decide) (by decide) (by decide)) (hW _ 12 0 ha0 (by decide) (by decide) (by decide)) (by decide))) (PL.q (p_12.2 _ (th_ne (hW _ 12 2 ha0 (by decide) (by decide) (by decide)) (hW _ 12 0 ha0 (by decide) (by decide) (by decide)) (by decide))) hI.2.2.2.1)), (PL.q (p_36.2 _ (th_ne (hW _ 12 3 ha0 (by decide) (by decide) (by decide)) (hW _ 12 0 ha0 (by decide) (by decide) (by decide)) (by decide))) (PL.q (p_12.2 _ (th_ne (hW _ 12 3 ha0 (by decide) (by decide) (by decide)) (hW _ 12 0 ha0 (by decide) (by decide) (by decide)) (by decide))) hI.2.2.2.2.1)), (IF.q (p_36.2 _ (th_ne ha0 (hW _ 12 0 ha0 (by decide) (by decide) (by decide)) (by decide))) (IF.q (p_12.2 _ (th_ne ha0 (hW _ 12 0 ha0 (by decide) (by decide) (by decide)) (by decide))) hI.2.2.2.2.2))⟩) lk_X12_193 yd_X12_yes hT_40 ha0 rfl (by decide) hS_40 (fun q => (fun h => h.elim (fun h => (Or.inr h)) (fun h => (Or.inl h)))) ⟨by decide, by decide⟩ (Nat.le_of_ble_eq_true rfl) ⟨by decide, by decide⟩ rfl dX12_take_159 (fun H_42 locs_42 p_42 hT_42 hk_42 hS_42 => ?_)
            have p_42 : (IM D ρ N H_42 a0) ∧ ((ai H_36 (ρ a0 0) 976).toInt ≤ (ai H_42 (ρ a0 0) 976).toInt) := p_42
            obtain ⟨p_42_0, p_42_1⟩ := p_42
            have mn_42 : (ai H (ρ a0 0) 976).toInt ≤ (ai H_42 (ρ a0 0) 976).toInt := by have h := p_42_1; rw [(Eq.trans (AU.o p_36 (by decide) (by decide)) (AU.o p_12 (by decide) (by decide)))] at h; exact h
            exact J_162 H_42 locs_42 _ r_9 x_15 x_20 hT_42 hS_42 (lv_sub hl [3, 4, 2, 1, 0] rfl) (by omega) (by omega) (by omega) (by omega) ⟨p_42_0.1, p_42_0.2.1, p_42_0.2.2.1, p_42_0.2.2.2.1, p_42_0.2.2.2.2.1, p_42_0.2.2.2.2.2⟩
  · have f_5 : r_4.toInt = 0 := r_eq rfl (by decide) c_5
    refine lv_bipush (v := (-4)) hx hb dX12_take_17 (by decide) ?_
    exact th_iret E hr hlk hs hT_4 hS_4 ⟨hI.1, hI.2.1, hI.2.2.1, hI.2.2.2.1, hI.2.2.2.2.1, hI.2.2.2.2.2⟩ dX12_take_19
set_option maxHeartbeats 4000000 in
set_option maxRecDepth 100000 in
/-- the reference: take -/
theorem y_take_v3 (l : Launch) (D : va_G) (cI cS : ClassId) (τ : Nat → Option Nat) (ρ : Nat → Nat → Nat) (hW : WF τ ρ) (H : Heap) (hT : TH D cI cS τ ρ H) (a0 : Nat) (x0 : Int32) (ha0 : τ a0 = some 12) (N : Int) (hN0 : 0 ≤ N) (hN1 : N ≤ 600) (hI : IM D ρ N H a0) (hp0 : x0.toInt < 0 ∨ 1 < x0.toInt) : MI l D cI cS τ ρ yX12_take cX12_take 5 (some .int) 2 45 H [.ref a0, .int x0] (fun (r : Int32) (u : Heap) => (IM D ρ N u a0)) (fun q => False) := by
  refine MI.of (by decide) (Nat.le_of_ble_eq_true rfl) ?_
  intro p e s m args below meth c E hml hr hlk hs ls hl
  have hx := E.1
  have hb := E.2.1
  have hown := E.2.2.1
  have hts := E.2.2.2.1
  have hS : SS (fun q => False) H H [] := SS.rf
  have hl : lv_has ls 5 [(0, .ref a0), (1, .int x0)] := hl
  have n01 := hI.2.2.2.2.2.1
  have n23 := hI.2.2.2.2.2.2.1
  refine lv_iload_n hx hb dX12_take_0 rfl (lv_at hl 1 rfl) ?_
  refine th_Si (As := [.int x0]) (rest := []) E hml hl.1 (y_isEnd_v3 l D cI cS τ ρ hW H hT x0) lk_X12_160 yd_X12_isEnd hS (fun _ h => h.elim) ⟨by decide, by decide⟩ (Nat.le_of_ble_eq_true rfl) ⟨by decide, by decide⟩ rfl dX12_take_1 (fun r_1 H_1 locs_1 p_1 hT_1 hk_1 hS_1 => ?_)
  have p_1 : H = H_1 ∧ (r_1 = 0 ∨ r_1 = 1) ∧ ((r_1.toInt = 1 ∧ 0 ≤ x0.toInt ∧ x0.toInt ≤ 1) ∨ (r_1.toInt = 0 ∧ (x0.toInt < 0 ∨ 1 < x0.toInt))) := p_1
  obtain ⟨rfl, p_1_0, p_1_1⟩ := p_1
  have z_1 := b_iv p_1_0
  refine lv_if_ne (tgt := 9) hx hb dX12_take_4 (by decide) (fun c_2 => False.elim (by have f_2 : ¬ r_1.toInt = 0 := r_ne rfl (by decide) c_2; omega)) (fun c_2 => ?_)
  refine lv_iconst (v := (-1)) hx hb dX12_take_7 (by decide) ?_
  exact th_iret E hr hlk hs hT_1 hS_1 ⟨hI.1, hI.2.1, hI.2.2.1, hI.2.2.2.1, hI.2.2.2.2.1, hI.2.2.2.2.2⟩ dX12_take_8
set_option maxHeartbeats 4000000 in
set_option maxRecDepth 100000 in
/-- the reference: in -/
theorem y_in_v9 (l : Launch) (D : va_G) (cI cS : ClassId) (τ : Nat → Option Nat) (ρ : Nat → Nat → Nat) (hW : WF τ ρ) (H : Heap) (hT : TH D cI cS τ ρ H) (x0 : Int64) : MI l D cI cS τ ρ yX12_in cX12_in 6 (some .boolean) 0 0 H [.long x0, .long 0, .long 17] (fun (r : Int32) (u : Heap) => (H = u) ∧ (r = 0 ∨ r = 1) ∧ ((r.toInt = 1 ∧ 0 ≤ x0.toInt ∧ x0.toInt ≤ 17) ∨ (r.toInt = 0 ∧ (x0.toInt < 0 ∨ 17 < x0.toInt)))) (fun q => False) := by
  refine MI.of (by decide) (Nat.le_of_ble_eq_true rfl) ?_
  intro p e s m args below meth c E hml hr hlk hs ls hl
  have hx := E.1
  have hb := E.2.1
  have hown := E.2.2.1
  have hts := E.2.2.2.1
  have hS : SS (fun q => False) H H [] := SS.rf
  have hl : lv_has ls 6 [(0, .long x0), (2, .long 0), (4, .long 17)] := hl
  refine lv_lload_n hx hb dX12_in_0 rfl (lv_at hl 0 rfl) ?_
  refine lv_lload_n hx hb dX12_in_1 rfl (lv_at hl 1 rfl) ?_
  refine W.lcmp hx hb dX12_in_2 ?_
  refine lv_topi (fun x_1 ex_1 => ?_)
  have q_1 := l_cmp (a := x0) (b := (0 : Int64)) (m := x0.toInt) (n := 0) rfl (by decide) ex_1
  refine lv_if_lt (tgt := 17) hx hb dX12_in_3 (by decide) (fun c_2 => ?_) (fun c_2 => ?_)
  · have f_2 : x_1.toInt < 0 := r_lt rfl (by decide) c_2
    refine lv_iconst (v := 0) hx hb dX12_in_17 (by decide) ?_
    exact th_zret E hr hlk hs (Or.inl rfl) hT hS ⟨rfl, (Or.inl rfl), (by have : (0 : Int32).toInt = 0 := (by decide); omega)⟩ dX12_in_18
  · have f_2 : 0 ≤ x_1.toInt := r_nlt rfl (by decide) c_2
    refine lv_lload_n hx hb dX12_in_6 rfl (lv_at hl 0 rfl) ?_
    refine lv_lload hx hb dX12_in_7 (lv_at hl 2 rfl) ?_
    refine W.lcmp hx hb dX12_in_9 ?_
    refine lv_topi (fun x_3 ex_3 => ?_)
    have q_3 := l_cmp (a := x0) (b := (17 : Int64)) (m := x0.toInt) (n := 17) rfl (by decide) ex_3
    refine lv_if_gt (tgt := 17) hx hb dX12_in_10 (by decide) (fun c_4 => ?_) (fun c_4 => ?_)
    · have f_4 : 0 < x_3.toInt := r_lt (by decide) rfl c_4
      refine lv_iconst (v := 0) hx hb dX12_in_17 (by decide) ?_
      exact th_zret E hr hlk hs (Or.inl rfl) hT hS ⟨rfl, (Or.inl rfl), (by have : (0 : Int32).toInt = 0 := (by decide); omega)⟩ dX12_in_18
    · have f_4 : x_3.toInt ≤ 0 := r_nlt (by decide) rfl c_4
      refine lv_iconst (v := 1) hx hb dX12_in_13 (by decide) ?_
      refine lv_goto (tgt := 18) hx hb dX12_in_14 (by decide) ?_
      exact th_zret E hr hlk hs (Or.inr rfl) hT hS ⟨rfl, (Or.inr rfl), (by have : (1 : Int32).toInt = 1 := (by decide); omega)⟩ dX12_in_18
set_option maxHeartbeats 4000000 in
set_option maxRecDepth 100000 in
/-- the reference: end -/
theorem y_end (l : Launch) (D : va_G) (cI cS : ClassId) (τ : Nat → Option Nat) (ρ : Nat → Nat → Nat) (hW : WF τ ρ) (H : Heap) (hT : TH D cI cS τ ρ H) (a0 : Nat) (x1 : Int32) (ha0 : τ a0 = some 12) (N : Int) (hN0 : 0 ≤ N) (hN1 : N ≤ 600) (hI : IM D ρ N H a0) : MI l D cI cS τ ρ yX12_end cX12_end 3 (some .int) 2 45 H [.ref a0, .int 0, .int x1] (fun (r : Int32) (u : Heap) => (H = u)) (fun q => False) := by
  refine MI.of (by decide) (Nat.le_of_ble_eq_true rfl) ?_
  intro p e s m args below meth c E hml hr hlk hs ls hl
  have hx := E.1
  have hb := E.2.1
  have hown := E.2.2.1
  have hts := E.2.2.2.1
  have hS : SS (fun q => False) H H [] := SS.rf
  have hl : lv_has ls 3 [(0, .ref a0), (1, .int 0), (2, .int x1)] := hl
  have n01 := hI.2.2.2.2.2.1
  have n23 := hI.2.2.2.2.2.2.1
  refine lv_iload_n hx hb dX12_end_0 rfl (lv_at hl 1 rfl) ?_
  refine th_Si (As := [.int 0]) (rest := []) E hml hl.1 (y_isEnd l D cI cS τ ρ hW H hT) lk_X12_160 yd_X12_isEnd hS (fun _ h => h.elim) ⟨by decide, by decide⟩ (Nat.le_of_ble_eq_true rfl) ⟨by decide, by decide⟩ rfl dX12_end_1 (fun r_1 H_1 locs_1 p_1 hT_1 hk_1 hS_1 => ?_)
  have p_1 : H = H_1 ∧ (r_1 = 0 ∨ r_1 = 1) ∧ ((r_1.toInt = 1 ∧ 0 ≤ 0 ∧ 0 ≤ 1) ∨ (r_1.toInt = 0 ∧ (0 < 0 ∨ 1 < 0))) := p_1
  obtain ⟨rfl, p_1_0, p_1_1⟩ := p_1
  have z_1 := b_iv p_1_0
  refine lv_if_eq (tgt := 19) hx hb dX12_end_4 (by decide) (fun c_2 => False.elim (by have f_2 : r_1.toInt = 0 := r_eq rfl (by decide) c_2; omega)) (fun c_2 => ?_)
  refine lv_iload_n hx hb dX12_end_7 rfl (lv_at hl 2 rfl) ?_
  obtain ⟨x_3, ex_3⟩ : ∃ y : Int64, x1.toInt64 = y := ⟨_, rfl⟩
  refine lv_i2l (v := x_3) hx hb dX12_end_8 ex_3 ?_
  have q_3 : x_3.toInt = x1.toInt := by rw [← ex_3]; exact Int32.toInt_toInt64 _
  refine lv_lconst (v := 0) hx hb dX12_end_9 (by decide) ?_
  refine lv_ldc2 (v := 17) hx hb hown (hts _ qw_1220) dX12_end_10 ?_
  refine th_Si (As := [.long x_3, .long 0, .long 17]) (rest := []) E hml hl.1 (y_in_v9 l D cI cS τ ρ hW H hT_1 x_3) lk_X12_54 yd_X12_in hS_1 (fun _ h => h.elim) ⟨by decide, by decide⟩ (Nat.le_of_ble_eq_true rfl) ⟨by decide, by decide⟩ rfl dX12_end_13 (fun r_4 H_4 locs_4 p_4 hT_4 hk_4 hS_4 => ?_)
  have p_4 : H = H_4 ∧ (r_4 = 0 ∨ r_4 = 1) ∧ ((r_4.toInt = 1 ∧ 0 ≤ x_3.toInt ∧ x_3.toInt ≤ 17) ∨ (r_4.toInt = 0 ∧ (x_3.toInt < 0 ∨ 17 < x_3.toInt))) := p_4
  obtain ⟨rfl, p_4_0, p_4_1⟩ := p_4
  have z_4 := b_iv p_4_0
  refine lv_if_ne (tgt := 21) hx hb dX12_end_16 (by decide) (fun c_5 => ?_) (fun c_5 => ?_)
  · have f_5 : ¬ r_4.toInt = 0 := r_ne rfl (by decide) c_5
    have nz_r_4 : ¬ r_4 = 0 := c_5
    refine lv_iload_n hx hb dX12_end_21 rfl (lv_at hl 2 rfl) ?_
    by_cases k6_4 : x1 = 4
    · refine th_topi k6_4 ?_
      refine lv_lookup (tgt := 40) hx hb dX12_end_22 (by decide) rfl (by decide) ?_
      have kc6_4 : x1.toInt = 4 := r_eq rfl (by decide) k6_4
      refine lv_aload_n hx hb dX12_end_40 rfl (lv_at hl 0 rfl) ?_
      refine lv_iload_n hx hb dX12_end_41 rfl (lv_at hl 1 rfl) ?_
      refine lv_aload_n hx hb dX12_end_42 rfl (lv_at hl 0 rfl) ?_
      refine lv_iload_n hx hb dX12_end_43 rfl (lv_at hl 1 rfl) ?_
      refine lv_iconst (v := 1) hx hb dX12_end_44 (by decide) ?_
      refine th_Vi (As := [.int 0, .int 1]) (rest := [.int 0, .ref a0]) E hml hl.1 (y_get_v7 l D cI cS τ ρ hW H hT_4 a0 ha0) lk_X12_99 yd_X12_get hT_4 ha0 rfl (by decide) hS_4 (fun _ h => h.elim) ⟨by decide, by decide⟩ (Nat.le_of_ble_eq_true rfl) ⟨by decide, by decide⟩ rfl dX12_end_45 (fun r_7 H_7 locs_7 p_7 hT_7 hk_7 hS_7 => ?_)
      have p_7 : H = H_7 ∧ (ai H (ρ a0 0) 1 = r_7) := p_7
      obtain ⟨rfl, p_7_0⟩ := p_7
      have b_r_7 : 0 ≤ r_7.toInt ∧ r_7.toInt ≤ N + 2 := by rw [← p_7_0]; exact hI.1 1 (by decide)
      have c_r_7 := congrArg Int32.toInt p_7_0
      refine th_Vi (As := [.int 0, .int r_7]) (rest := []) E hml hl.1 (y_saidFrom l D cI cS τ ρ hW H hT_7 a0 r_7 ha0 N hN0 hN1 ⟨hI.1, hI.2.1, hI.2.2.1, hI.2.2.2.1, hI.2.2.2.2.1, hI.2.2.2.2.2⟩ (by omega)) lk_X12_109 yd_X12_saidFrom hT_7 ha0 rfl (by decide) hS_7 (fun _ h => h.elim) ⟨by decide, by decide⟩ (Nat.le_of_ble_eq_true rfl) ⟨by decide, by decide⟩ rfl dX12_end_48 (fun r_8 H_8 locs_8 p_8 hT_8 hk_8 hS_8 => ?_)
      have p_8 : H = H_8 ∧ (0 ≤ r_8.toInt ∧ (r_8.toInt = 0 ∨ (1 ≤ r_7.toInt ∧ r_8.toInt = (ai H (ρ a0 0) 4).toInt + 1 - r_7.toInt) ∨ (r_7.toInt < 1 ∧ r_8.toInt = (ai H (ρ a0 0) 4).toInt)) ∧ (ai H (ρ a0 0) 4).toInt ≤ N) := p_8
      obtain ⟨rfl, p_8_0⟩ := p_8
      exact th_iret E hr hlk hs hT_8 hS_8 rfl dX12_end_51
    have n6_4 := i_ne k6_4 (k := 4) (by decide)
    refine lv_lookup (tgt := 52) hx hb dX12_end_22 (off := 30) (by decide) (by show Op.lookupswitch.offset [(4, 18)] _ _ = _; rw [lv_osw k6_4 (by decide)]; rfl) (by decide) ?_
    refine lv_aload_n hx hb dX12_end_52 rfl (lv_at hl 0 rfl) ?_
    refine lv_iload_n hx hb dX12_end_53 rfl (lv_at hl 1 rfl) ?_
    refine lv_iload_n hx hb dX12_end_54 rfl (lv_at hl 2 rfl) ?_
    refine th_Vi (As := [.int 0, .int x1]) (rest := []) E hml hl.1 (y_get_v14 l D cI cS τ ρ hW H hT_4 a0 x1 ha0 (by omega)) lk_X12_99 yd_X12_get hT_4 ha0 rfl (by decide) hS_4 (fun _ h => h.elim) ⟨by decide, by decide⟩ (Nat.le_of_ble_eq_true rfl) ⟨by decide, by decide⟩ rfl dX12_end_55 (fun r_9 H_9 locs_9 p_9 hT_9 hk_9 hS_9 => ?_)
    have p_9 : H = H_9 ∧ (ai H (ρ a0 0) (0 + x1.toInt).toNat = r_9) := p_9
    obtain ⟨rfl, p_9_0⟩ := p_9
    exact th_iret E hr hlk hs hT_9 hS_9 rfl dX12_end_58
  · have f_5 : r_4.toInt = 0 := r_eq rfl (by decide) c_5
    refine lv_iconst (v := (-1)) hx hb dX12_end_19 (by decide) ?_
    exact th_iret E hr hlk hs hT_4 hS_4 rfl dX12_end_20
set_option maxHeartbeats 4000000 in
set_option maxRecDepth 100000 in
/-- the reference: end -/
theorem y_end_v2 (l : Launch) (D : va_G) (cI cS : ClassId) (τ : Nat → Option Nat) (ρ : Nat → Nat → Nat) (hW : WF τ ρ) (H : Heap) (hT : TH D cI cS τ ρ H) (a0 : Nat) (x1 : Int32) (ha0 : τ a0 = some 12) (N : Int) (hN0 : 0 ≤ N) (hN1 : N ≤ 600) (hI : IM D ρ N H a0) : MI l D cI cS τ ρ yX12_end cX12_end 3 (some .int) 2 45 H [.ref a0, .int 1, .int x1] (fun (r : Int32) (u : Heap) => (H = u)) (fun q => False) := by
  refine MI.of (by decide) (Nat.le_of_ble_eq_true rfl) ?_
  intro p e s m args below meth c E hml hr hlk hs ls hl
  have hx := E.1
  have hb := E.2.1
  have hown := E.2.2.1
  have hts := E.2.2.2.1
  have hS : SS (fun q => False) H H [] := SS.rf
  have hl : lv_has ls 3 [(0, .ref a0), (1, .int 1), (2, .int x1)] := hl
  have n01 := hI.2.2.2.2.2.1
  have n23 := hI.2.2.2.2.2.2.1
  refine lv_iload_n hx hb dX12_end_0 rfl (lv_at hl 1 rfl) ?_
  refine th_Si (As := [.int 1]) (rest := []) E hml hl.1 (y_isEnd_v2 l D cI cS τ ρ hW H hT) lk_X12_160 yd_X12_isEnd hS (fun _ h => h.elim) ⟨by decide, by decide⟩ (Nat.le_of_ble_eq_true rfl) ⟨by decide, by decide⟩ rfl dX12_end_1 (fun r_1 H_1 locs_1 p_1 hT_1 hk_1 hS_1 => ?_)
  have p_1 : H = H_1 ∧ (r_1 = 0 ∨ r_1 = 1) ∧ ((r_1.toInt = 1 ∧ 0 ≤ 1 ∧ 1 ≤ 1) ∨ (r_1.toInt = 0 ∧ (1 < 0 ∨ 1 < 1))) := p_1
  obtain ⟨rfl, p_1_0, p_1_1⟩ := p_1
  have z_1 := b_iv p_1_0
  refine lv_if_eq (tgt := 19) hx hb dX12_end_4 (by decide) (fun c_2 => False.elim (by have f_2 : r_1.toInt = 0 := r_eq rfl (by decide) c_2; omega)) (fun c_2 => ?_)
  refine lv_iload_n hx hb dX12_end_7 rfl (lv_at hl 2 rfl) ?_
  obtain ⟨x_3, ex_3⟩ : ∃ y : Int64, x1.toInt64 = y := ⟨_, rfl⟩
  refine lv_i2l (v := x_3) hx hb dX12_end_8 ex_3 ?_
  have q_3 : x_3.toInt = x1.toInt := by rw [← ex_3]; exact Int32.toInt_toInt64 _
  refine lv_lconst (v := 0) hx hb dX12_end_9 (by decide) ?_
  refine lv_ldc2 (v := 17) hx hb hown (hts _ qw_1220) dX12_end_10 ?_
  refine th_Si (As := [.long x_3, .long 0, .long 17]) (rest := []) E hml hl.1 (y_in_v9 l D cI cS τ ρ hW H hT_1 x_3) lk_X12_54 yd_X12_in hS_1 (fun _ h => h.elim) ⟨by decide, by decide⟩ (Nat.le_of_ble_eq_true rfl) ⟨by decide, by decide⟩ rfl dX12_end_13 (fun r_4 H_4 locs_4 p_4 hT_4 hk_4 hS_4 => ?_)
  have p_4 : H = H_4 ∧ (r_4 = 0 ∨ r_4 = 1) ∧ ((r_4.toInt = 1 ∧ 0 ≤ x_3.toInt ∧ x_3.toInt ≤ 17) ∨ (r_4.toInt = 0 ∧ (x_3.toInt < 0 ∨ 17 < x_3.toInt))) := p_4
  obtain ⟨rfl, p_4_0, p_4_1⟩ := p_4
  have z_4 := b_iv p_4_0
  refine lv_if_ne (tgt := 21) hx hb dX12_end_16 (by decide) (fun c_5 => ?_) (fun c_5 => ?_)
  · have f_5 : ¬ r_4.toInt = 0 := r_ne rfl (by decide) c_5
    have nz_r_4 : ¬ r_4 = 0 := c_5
    refine lv_iload_n hx hb dX12_end_21 rfl (lv_at hl 2 rfl) ?_
    by_cases k6_4 : x1 = 4
    · refine th_topi k6_4 ?_
      refine lv_lookup (tgt := 40) hx hb dX12_end_22 (by decide) rfl (by decide) ?_
      have kc6_4 : x1.toInt = 4 := r_eq rfl (by decide) k6_4
      refine lv_aload_n hx hb dX12_end_40 rfl (lv_at hl 0 rfl) ?_
      refine lv_iload_n hx hb dX12_end_41 rfl (lv_at hl 1 rfl) ?_
      refine lv_aload_n hx hb dX12_end_42 rfl (lv_at hl 0 rfl) ?_
      refine lv_iload_n hx hb dX12_end_43 rfl (lv_at hl 1 rfl) ?_
      refine lv_iconst (v := 1) hx hb dX12_end_44 (by decide) ?_
      refine th_Vi (As := [.int 1, .int 1]) (rest := [.int 1, .ref a0]) E hml hl.1 (y_get_v29 l D cI cS τ ρ hW H hT_4 a0 ha0) lk_X12_99 yd_X12_get hT_4 ha0 rfl (by decide) hS_4 (fun _ h => h.elim) ⟨by decide, by decide⟩ (Nat.le_of_ble_eq_true rfl) ⟨by decide, by decide⟩ rfl dX12_end_45 (fun r_7 H_7 locs_7 p_7 hT_7 hk_7 hS_7 => ?_)
      have p_7 : H = H_7 ∧ (ai H (ρ a0 0) 289 = r_7) := p_7
      obtain ⟨rfl, p_7_0⟩ := p_7
      have b_r_7 : 0 ≤ r_7.toInt ∧ r_7.toInt ≤ N + 2 := by rw [← p_7_0]; exact hI.1 289 (by decide)
      have c_r_7 := congrArg Int32.toInt p_7_0
      refine th_Vi (As := [.int 1, .int r_7]) (rest := []) E hml hl.1 (y_saidFrom_v2 l D cI cS τ ρ hW H hT_7 a0 r_7 ha0 N hN0 hN1 ⟨hI.1, hI.2.1, hI.2.2.1, hI.2.2.2.1, hI.2.2.2.2.1, hI.2.2.2.2.2⟩ (by omega)) lk_X12_109 yd_X12_saidFrom hT_7 ha0 rfl (by decide) hS_7 (fun _ h => h.elim) ⟨by decide, by decide⟩ (Nat.le_of_ble_eq_true rfl) ⟨by decide, by decide⟩ rfl dX12_end_48 (fun r_8 H_8 locs_8 p_8 hT_8 hk_8 hS_8 => ?_)
      have p_8 : H = H_8 ∧ (0 ≤ r_8.toInt ∧ (r_8.toInt = 0 ∨ (1 ≤ r_7.toInt ∧ r_8.toInt = (ai H (ρ a0 0) 292).toInt + 1 - r_7.toInt) ∨ (r_7.toInt < 1 ∧ r_8.toInt = (ai H (ρ a0 0) 292).toInt)) ∧ (ai H (ρ a0 0) 292).toInt ≤ N) := p_8
      obtain ⟨rfl, p_8_0⟩ := p_8
      exact th_iret E hr hlk hs hT_8 hS_8 rfl dX12_end_51
    have n6_4 := i_ne k6_4 (k := 4) (by decide)
    refine lv_lookup (tgt := 52) hx hb dX12_end_22 (off := 30) (by decide) (by show Op.lookupswitch.offset [(4, 18)] _ _ = _; rw [lv_osw k6_4 (by decide)]; rfl) (by decide) ?_
    refine lv_aload_n hx hb dX12_end_52 rfl (lv_at hl 0 rfl) ?_
    refine lv_iload_n hx hb dX12_end_53 rfl (lv_at hl 1 rfl) ?_
    refine lv_iload_n hx hb dX12_end_54 rfl (lv_at hl 2 rfl) ?_
    refine th_Vi (As := [.int 1, .int x1]) (rest := []) E hml hl.1 (y_get_v6 l D cI cS τ ρ hW H hT_4 a0 x1 ha0 (by omega)) lk_X12_99 yd_X12_get hT_4 ha0 rfl (by decide) hS_4 (fun _ h => h.elim) ⟨by decide, by decide⟩ (Nat.le_of_ble_eq_true rfl) ⟨by decide, by decide⟩ rfl dX12_end_55 (fun r_9 H_9 locs_9 p_9 hT_9 hk_9 hS_9 => ?_)
    have p_9 : H = H_9 ∧ (ai H (ρ a0 0) (288 + x1.toInt).toNat = r_9) := p_9
    obtain ⟨rfl, p_9_0⟩ := p_9
    exact th_iret E hr hlk hs hT_9 hS_9 rfl dX12_end_58
  · have f_5 : r_4.toInt = 0 := r_eq rfl (by decide) c_5
    refine lv_iconst (v := (-1)) hx hb dX12_end_19 (by decide) ?_
    exact th_iret E hr hlk hs hT_4 hS_4 rfl dX12_end_20
set_option maxHeartbeats 4000000 in
set_option maxRecDepth 100000 in
/-- the reference: end -/
theorem y_end_v3 (l : Launch) (D : va_G) (cI cS : ClassId) (τ : Nat → Option Nat) (ρ : Nat → Nat → Nat) (hW : WF τ ρ) (H : Heap) (hT : TH D cI cS τ ρ H) (a0 : Nat) (x0 : Int32) (x1 : Int32) (ha0 : τ a0 = some 12) (N : Int) (hN0 : 0 ≤ N) (hN1 : N ≤ 600) (hI : IM D ρ N H a0) (hp0 : x0.toInt < 0 ∨ 1 < x0.toInt) : MI l D cI cS τ ρ yX12_end cX12_end 3 (some .int) 2 45 H [.ref a0, .int x0, .int x1] (fun (r : Int32) (u : Heap) => (H = u)) (fun q => False) := by
  refine MI.of (by decide) (Nat.le_of_ble_eq_true rfl) ?_
  intro p e s m args below meth c E hml hr hlk hs ls hl
  have hx := E.1
  have hb := E.2.1
  have hown := E.2.2.1
  have hts := E.2.2.2.1
  have hS : SS (fun q => False) H H [] := SS.rf
  have hl : lv_has ls 3 [(0, .ref a0), (1, .int x0), (2, .int x1)] := hl
  have n01 := hI.2.2.2.2.2.1
  have n23 := hI.2.2.2.2.2.2.1
  refine lv_iload_n hx hb dX12_end_0 rfl (lv_at hl 1 rfl) ?_
  refine th_Si (As := [.int x0]) (rest := []) E hml hl.1 (y_isEnd_v3 l D cI cS τ ρ hW H hT x0) lk_X12_160 yd_X12_isEnd hS (fun _ h => h.elim) ⟨by decide, by decide⟩ (Nat.le_of_ble_eq_true rfl) ⟨by decide, by decide⟩ rfl dX12_end_1 (fun r_1 H_1 locs_1 p_1 hT_1 hk_1 hS_1 => ?_)
  have p_1 : H = H_1 ∧ (r_1 = 0 ∨ r_1 = 1) ∧ ((r_1.toInt = 1 ∧ 0 ≤ x0.toInt ∧ x0.toInt ≤ 1) ∨ (r_1.toInt = 0 ∧ (x0.toInt < 0 ∨ 1 < x0.toInt))) := p_1
  obtain ⟨rfl, p_1_0, p_1_1⟩ := p_1
  have z_1 := b_iv p_1_0
  refine lv_if_eq (tgt := 19) hx hb dX12_end_4 (by decide) (fun c_2 => ?_) (fun c_2 => False.elim (by have f_2 : ¬ r_1.toInt = 0 := r_ne rfl (by decide) c_2; omega))
  refine lv_iconst (v := (-1)) hx hb dX12_end_19 (by decide) ?_
  exact th_iret E hr hlk hs hT_1 hS_1 rfl dX12_end_20
set_option maxHeartbeats 4000000 in
set_option maxRecDepth 100000 in
/-- the reference: lesser -/
theorem y_lesser_v3 (l : Launch) (D : va_G) (cI cS : ClassId) (τ : Nat → Option Nat) (ρ : Nat → Nat → Nat) (hW : WF τ ρ) (H : Heap) (hT : TH D cI cS τ ρ H) (x1 : Int32) : MI l D cI cS τ ρ yX12_lesser cX12_lesser 2 (some .int) 0 0 H [.int 6, .int x1] (fun (r : Int32) (u : Heap) => (H = u) ∧ (r.toInt ≤ 6 ∧ r.toInt ≤ x1.toInt ∧ (r.toInt = 6 ∨ r.toInt = x1.toInt))) (fun q => False) := by
  refine MI.of (by decide) (Nat.le_of_ble_eq_true rfl) ?_
  intro p e s m args below meth c E hml hr hlk hs ls hl
  have hx := E.1
  have hb := E.2.1
  have hown := E.2.2.1
  have hts := E.2.2.2.1
  have hS : SS (fun q => False) H H [] := SS.rf
  have hl : lv_has ls 2 [(0, .int 6), (1, .int x1)] := hl
  refine lv_iload_n hx hb dX12_lesser_0 rfl (lv_at hl 0 rfl) ?_
  refine lv_iload_n hx hb dX12_lesser_1 rfl (lv_at hl 1 rfl) ?_
  refine lv_icmp_ge (tgt := 9) hx hb dX12_lesser_2 (by decide) (fun c_1 => ?_) (fun c_1 => ?_)
  · have f_1 : x1.toInt ≤ 6 := r_le rfl (by decide) c_1
    refine lv_iload_n hx hb dX12_lesser_9 rfl (lv_at hl 1 rfl) ?_
    exact th_iret E hr hlk hs hT hS ⟨rfl, (by omega)⟩ dX12_lesser_10
  · have f_1 : 6 < x1.toInt := r_nle rfl (by decide) c_1
    refine lv_iload_n hx hb dX12_lesser_5 rfl (lv_at hl 0 rfl) ?_
    refine lv_goto (tgt := 10) hx hb dX12_lesser_6 (by decide) ?_
    exact th_iret E hr hlk hs hT hS ⟨rfl, (by have : (6 : Int32).toInt = 6 := (by decide); omega)⟩ dX12_lesser_10
set_option maxHeartbeats 4000000 in
set_option maxRecDepth 100000 in
/-- the reference: sample -/
theorem y_sample (l : Launch) (D : va_G) (cI cS : ClassId) (τ : Nat → Option Nat) (ρ : Nat → Nat → Nat) (hW : WF τ ρ) (H : Heap) (hT : TH D cI cS τ ρ H) (a0 : Nat) (x1 : Int32) (ha0 : τ a0 = some 12) (N : Int) (hN0 : 0 ≤ N) (hN1 : N ≤ 600) (hI : IM D ρ N H a0) : MI l D cI cS τ ρ yX12_sample cX12_sample 3 (some .int) 2 45 H [.ref a0, .int 0, .int x1] (fun (r : Int32) (u : Heap) => (H = u)) (fun q => False) := by
  refine MI.of (by decide) (Nat.le_of_ble_eq_true rfl) ?_
  intro p e s m args below meth c E hml hr hlk hs ls hl
  have hx := E.1
  have hb := E.2.1
  have hown := E.2.2.1
  have hts := E.2.2.2.1
  have hS : SS (fun q => False) H H [] := SS.rf
  have hl : lv_has ls 3 [(0, .ref a0), (1, .int 0), (2, .int x1)] := hl
  have n01 := hI.2.2.2.2.2.1
  have n23 := hI.2.2.2.2.2.2.1
  refine lv_iload_n hx hb dX12_sample_0 rfl (lv_at hl 1 rfl) ?_
  refine th_Si (As := [.int 0]) (rest := []) E hml hl.1 (y_isEnd l D cI cS τ ρ hW H hT) lk_X12_160 yd_X12_isEnd hS (fun _ h => h.elim) ⟨by decide, by decide⟩ (Nat.le_of_ble_eq_true rfl) ⟨by decide, by decide⟩ rfl dX12_sample_1 (fun r_1 H_1 locs_1 p_1 hT_1 hk_1 hS_1 => ?_)
  have p_1 : H = H_1 ∧ (r_1 = 0 ∨ r_1 = 1) ∧ ((r_1.toInt = 1 ∧ 0 ≤ 0 ∧ 0 ≤ 1) ∨ (r_1.toInt = 0 ∧ (0 < 0 ∨ 1 < 0))) := p_1
  obtain ⟨rfl, p_1_0, p_1_1⟩ := p_1
  have z_1 := b_iv p_1_0
  refine lv_if_eq (tgt := 11) hx hb dX12_sample_4 (by decide) (fun c_2 => False.elim (by have f_2 : r_1.toInt = 0 := r_eq rfl (by decide) c_2; omega)) (fun c_2 => ?_)
  refine lv_iload_n hx hb dX12_sample_7 rfl (lv_at hl 2 rfl) ?_
  refine lv_if_ge (tgt := 13) hx hb dX12_sample_8 (by decide) (fun c_3 => ?_) (fun c_3 => ?_)
  · have f_3 : 0 ≤ x1.toInt := r_le (by decide) rfl c_3
    refine lv_iload_n hx hb dX12_sample_13 rfl (lv_at hl 2 rfl) ?_
    refine lv_bipush (v := 6) hx hb dX12_sample_14 (by decide) ?_
    refine lv_aload_n hx hb dX12_sample_16 rfl (lv_at hl 0 rfl) ?_
    refine lv_iload_n hx hb dX12_sample_17 rfl (lv_at hl 1 rfl) ?_
    refine lv_bipush (v := 19) hx hb dX12_sample_18 (by decide) ?_
    refine th_Vi (As := [.int 0, .int 19]) (rest := [.int 6, .int x1]) E hml hl.1 (y_get_v10 l D cI cS τ ρ hW H hT_1 a0 ha0) lk_X12_99 yd_X12_get hT_1 ha0 rfl (by decide) hS_1 (fun _ h => h.elim) ⟨by decide, by decide⟩ (Nat.le_of_ble_eq_true rfl) ⟨by decide, by decide⟩ rfl dX12_sample_20 (fun r_4 H_4 locs_4 p_4 hT_4 hk_4 hS_4 => ?_)
    have p_4 : H = H_4 ∧ (ai H (ρ a0 0) 19 = r_4) := p_4
    obtain ⟨rfl, p_4_0⟩ := p_4
    have c_r_4 := congrArg Int32.toInt p_4_0
    refine th_Si (As := [.int 6, .int r_4]) (rest := [.int x1]) E hml hl.1 (y_lesser_v3 l D cI cS τ ρ hW H hT_4 r_4) lk_X12_146 yd_X12_lesser hS_4 (fun _ h => h.elim) ⟨by decide, by decide⟩ (Nat.le_of_ble_eq_true rfl) ⟨by decide, by decide⟩ rfl dX12_sample_23 (fun r_5 H_5 locs_5 p_5 hT_5 hk_5 hS_5 => ?_)
    have p_5 : H = H_5 ∧ (r_5.toInt ≤ 6 ∧ r_5.toInt ≤ r_4.toInt ∧ (r_5.toInt = 6 ∨ r_5.toInt = r_4.toInt)) := p_5
    obtain ⟨rfl, p_5_0⟩ := p_5
    refine lv_icmp_ge (tgt := 41) hx hb dX12_sample_26 (by decide) (fun c_6 => ?_) (fun c_6 => ?_)
    · have f_6 : r_5.toInt ≤ x1.toInt := r_le rfl rfl c_6
      refine lv_bipush (v := (-4)) hx hb dX12_sample_41 (by decide) ?_
      exact th_iret E hr hlk hs hT_5 hS_5 rfl dX12_sample_43
    · have f_6 : x1.toInt < r_5.toInt := r_nle rfl rfl c_6
      refine lv_aload_n hx hb dX12_sample_29 rfl (lv_at hl 0 rfl) ?_
      refine lv_iload_n hx hb dX12_sample_30 rfl (lv_at hl 1 rfl) ?_
      refine lv_bipush (v := 20) hx hb dX12_sample_31 (by decide) ?_
      refine lv_iload_n hx hb dX12_sample_33 rfl (lv_at hl 2 rfl) ?_
      refine lv_iadd hx hb dX12_sample_34 ?_
      refine lv_topi (fun x_7 ex_7 => ?_)
      have q_7 : x_7.toInt = 20 + x1.toInt := i_pl (by decide) rfl ex_7 (by omega) (by omega)
      refine th_Vi (As := [.int 0, .int x_7]) (rest := []) E hml hl.1 (y_get_v14 l D cI cS τ ρ hW H hT_5 a0 x_7 ha0 (by omega)) lk_X12_99 yd_X12_get hT_5 ha0 rfl (by decide) hS_5 (fun _ h => h.elim) ⟨by decide, by decide⟩ (Nat.le_of_ble_eq_true rfl) ⟨by decide, by decide⟩ rfl dX12_sample_35 (fun r_8 H_8 locs_8 p_8 hT_8 hk_8 hS_8 => ?_)
      have p_8 : H = H_8 ∧ (ai H (ρ a0 0) (0 + x_7.toInt).toNat = r_8) := p_8
      obtain ⟨rfl, p_8_0⟩ := p_8
      refine lv_goto (tgt := 43) hx hb dX12_sample_38 (by decide) ?_
      exact th_iret E hr hlk hs hT_8 hS_8 rfl dX12_sample_43
  · have f_3 : x1.toInt < 0 := r_nle (by decide) rfl c_3
    refine lv_iconst (v := (-1)) hx hb dX12_sample_11 (by decide) ?_
    exact th_iret E hr hlk hs hT_1 hS_1 rfl dX12_sample_12
set_option maxHeartbeats 4000000 in
set_option maxRecDepth 100000 in
/-- the reference: sample -/
theorem y_sample_v2 (l : Launch) (D : va_G) (cI cS : ClassId) (τ : Nat → Option Nat) (ρ : Nat → Nat → Nat) (hW : WF τ ρ) (H : Heap) (hT : TH D cI cS τ ρ H) (a0 : Nat) (x1 : Int32) (ha0 : τ a0 = some 12) (N : Int) (hN0 : 0 ≤ N) (hN1 : N ≤ 600) (hI : IM D ρ N H a0) : MI l D cI cS τ ρ yX12_sample cX12_sample 3 (some .int) 2 45 H [.ref a0, .int 1, .int x1] (fun (r : Int32) (u : Heap) => (H = u)) (fun q => False) := by
  refine MI.of (by decide) (Nat.le_of_ble_eq_true rfl) ?_
  intro p e s m args below meth c E hml hr hlk hs ls hl
  have hx := E.1
  have hb := E.2.1
  have hown := E.2.2.1
  have hts := E.2.2.2.1
  have hS : SS (fun q => False) H H [] := SS.rf
  have hl : lv_has ls 3 [(0, .ref a0), (1, .int 1), (2, .int x1)] := hl
  have n01 := hI.2.2.2.2.2.1
  have n23 := hI.2.2.2.2.2.2.1
  refine lv_iload_n hx hb dX12_sample_0 rfl (lv_at hl 1 rfl) ?_
  refine th_Si (As := [.int 1]) (rest := []) E hml hl.1 (y_isEnd_v2 l D cI cS τ ρ hW H hT) lk_X12_160 yd_X12_isEnd hS (fun _ h => h.elim) ⟨by decide, by decide⟩ (Nat.le_of_ble_eq_true rfl) ⟨by decide, by decide⟩ rfl dX12_sample_1 (fun r_1 H_1 locs_1 p_1 hT_1 hk_1 hS_1 => ?_)
  have p_1 : H = H_1 ∧ (r_1 = 0 ∨ r_1 = 1) ∧ ((r_1.toInt = 1 ∧ 0 ≤ 1 ∧ 1 ≤ 1) ∨ (r_1.toInt = 0 ∧ (1 < 0 ∨ 1 < 1))) := p_1
  obtain ⟨rfl, p_1_0, p_1_1⟩ := p_1
  have z_1 := b_iv p_1_0
  refine lv_if_eq (tgt := 11) hx hb dX12_sample_4 (by decide) (fun c_2 => False.elim (by have f_2 : r_1.toInt = 0 := r_eq rfl (by decide) c_2; omega)) (fun c_2 => ?_)
  refine lv_iload_n hx hb dX12_sample_7 rfl (lv_at hl 2 rfl) ?_
  refine lv_if_ge (tgt := 13) hx hb dX12_sample_8 (by decide) (fun c_3 => ?_) (fun c_3 => ?_)
  · have f_3 : 0 ≤ x1.toInt := r_le (by decide) rfl c_3
    refine lv_iload_n hx hb dX12_sample_13 rfl (lv_at hl 2 rfl) ?_
    refine lv_bipush (v := 6) hx hb dX12_sample_14 (by decide) ?_
    refine lv_aload_n hx hb dX12_sample_16 rfl (lv_at hl 0 rfl) ?_
    refine lv_iload_n hx hb dX12_sample_17 rfl (lv_at hl 1 rfl) ?_
    refine lv_bipush (v := 19) hx hb dX12_sample_18 (by decide) ?_
    refine th_Vi (As := [.int 1, .int 19]) (rest := [.int 6, .int x1]) E hml hl.1 (y_get_v2 l D cI cS τ ρ hW H hT_1 a0 ha0) lk_X12_99 yd_X12_get hT_1 ha0 rfl (by decide) hS_1 (fun _ h => h.elim) ⟨by decide, by decide⟩ (Nat.le_of_ble_eq_true rfl) ⟨by decide, by decide⟩ rfl dX12_sample_20 (fun r_4 H_4 locs_4 p_4 hT_4 hk_4 hS_4 => ?_)
    have p_4 : H = H_4 ∧ (ai H (ρ a0 0) 307 = r_4) := p_4
    obtain ⟨rfl, p_4_0⟩ := p_4
    have c_r_4 := congrArg Int32.toInt p_4_0
    refine th_Si (As := [.int 6, .int r_4]) (rest := [.int x1]) E hml hl.1 (y_lesser_v3 l D cI cS τ ρ hW H hT_4 r_4) lk_X12_146 yd_X12_lesser hS_4 (fun _ h => h.elim) ⟨by decide, by decide⟩ (Nat.le_of_ble_eq_true rfl) ⟨by decide, by decide⟩ rfl dX12_sample_23 (fun r_5 H_5 locs_5 p_5 hT_5 hk_5 hS_5 => ?_)
    have p_5 : H = H_5 ∧ (r_5.toInt ≤ 6 ∧ r_5.toInt ≤ r_4.toInt ∧ (r_5.toInt = 6 ∨ r_5.toInt = r_4.toInt)) := p_5
    obtain ⟨rfl, p_5_0⟩ := p_5
    refine lv_icmp_ge (tgt := 41) hx hb dX12_sample_26 (by decide) (fun c_6 => ?_) (fun c_6 => ?_)
    · have f_6 : r_5.toInt ≤ x1.toInt := r_le rfl rfl c_6
      refine lv_bipush (v := (-4)) hx hb dX12_sample_41 (by decide) ?_
      exact th_iret E hr hlk hs hT_5 hS_5 rfl dX12_sample_43
    · have f_6 : x1.toInt < r_5.toInt := r_nle rfl rfl c_6
      refine lv_aload_n hx hb dX12_sample_29 rfl (lv_at hl 0 rfl) ?_
      refine lv_iload_n hx hb dX12_sample_30 rfl (lv_at hl 1 rfl) ?_
      refine lv_bipush (v := 20) hx hb dX12_sample_31 (by decide) ?_
      refine lv_iload_n hx hb dX12_sample_33 rfl (lv_at hl 2 rfl) ?_
      refine lv_iadd hx hb dX12_sample_34 ?_
      refine lv_topi (fun x_7 ex_7 => ?_)
      have q_7 : x_7.toInt = 20 + x1.toInt := i_pl (by decide) rfl ex_7 (by omega) (by omega)
      refine th_Vi (As := [.int 1, .int x_7]) (rest := []) E hml hl.1 (y_get_v6 l D cI cS τ ρ hW H hT_5 a0 x_7 ha0 (by omega)) lk_X12_99 yd_X12_get hT_5 ha0 rfl (by decide) hS_5 (fun _ h => h.elim) ⟨by decide, by decide⟩ (Nat.le_of_ble_eq_true rfl) ⟨by decide, by decide⟩ rfl dX12_sample_35 (fun r_8 H_8 locs_8 p_8 hT_8 hk_8 hS_8 => ?_)
      have p_8 : H = H_8 ∧ (ai H (ρ a0 0) (288 + x_7.toInt).toNat = r_8) := p_8
      obtain ⟨rfl, p_8_0⟩ := p_8
      refine lv_goto (tgt := 43) hx hb dX12_sample_38 (by decide) ?_
      exact th_iret E hr hlk hs hT_8 hS_8 rfl dX12_sample_43
  · have f_3 : x1.toInt < 0 := r_nle (by decide) rfl c_3
    refine lv_iconst (v := (-1)) hx hb dX12_sample_11 (by decide) ?_
    exact th_iret E hr hlk hs hT_1 hS_1 rfl dX12_sample_12
set_option maxHeartbeats 4000000 in
set_option maxRecDepth 100000 in
/-- the reference: sample -/
theorem y_sample_v3 (l : Launch) (D : va_G) (cI cS : ClassId) (τ : Nat → Option Nat) (ρ : Nat → Nat → Nat) (hW : WF τ ρ) (H : Heap) (hT : TH D cI cS τ ρ H) (a0 : Nat) (x0 : Int32) (x1 : Int32) (ha0 : τ a0 = some 12) (N : Int) (hN0 : 0 ≤ N) (hN1 : N ≤ 600) (hI : IM D ρ N H a0) (hp0 : x0.toInt < 0 ∨ 1 < x0.toInt) : MI l D cI cS τ ρ yX12_sample cX12_sample 3 (some .int) 2 45 H [.ref a0, .int x0, .int x1] (fun (r : Int32) (u : Heap) => (H = u)) (fun q => False) := by
  refine MI.of (by decide) (Nat.le_of_ble_eq_true rfl) ?_
  intro p e s m args below meth c E hml hr hlk hs ls hl
  have hx := E.1
  have hb := E.2.1
  have hown := E.2.2.1
  have hts := E.2.2.2.1
  have hS : SS (fun q => False) H H [] := SS.rf
  have hl : lv_has ls 3 [(0, .ref a0), (1, .int x0), (2, .int x1)] := hl
  have n01 := hI.2.2.2.2.2.1
  have n23 := hI.2.2.2.2.2.2.1
  refine lv_iload_n hx hb dX12_sample_0 rfl (lv_at hl 1 rfl) ?_
  refine th_Si (As := [.int x0]) (rest := []) E hml hl.1 (y_isEnd_v3 l D cI cS τ ρ hW H hT x0) lk_X12_160 yd_X12_isEnd hS (fun _ h => h.elim) ⟨by decide, by decide⟩ (Nat.le_of_ble_eq_true rfl) ⟨by decide, by decide⟩ rfl dX12_sample_1 (fun r_1 H_1 locs_1 p_1 hT_1 hk_1 hS_1 => ?_)
  have p_1 : H = H_1 ∧ (r_1 = 0 ∨ r_1 = 1) ∧ ((r_1.toInt = 1 ∧ 0 ≤ x0.toInt ∧ x0.toInt ≤ 1) ∨ (r_1.toInt = 0 ∧ (x0.toInt < 0 ∨ 1 < x0.toInt))) := p_1
  obtain ⟨rfl, p_1_0, p_1_1⟩ := p_1
  have z_1 := b_iv p_1_0
  refine lv_if_eq (tgt := 11) hx hb dX12_sample_4 (by decide) (fun c_2 => ?_) (fun c_2 => False.elim (by have f_2 : ¬ r_1.toInt = 0 := r_ne rfl (by decide) c_2; omega))
  refine lv_iconst (v := (-1)) hx hb dX12_sample_11 (by decide) ?_
  exact th_iret E hr hlk hs hT_1 hS_1 rfl dX12_sample_12
set_option maxHeartbeats 4000000 in
set_option maxRecDepth 100000 in
/-- the reference: span -/
theorem y_span (l : Launch) (D : va_G) (cI cS : ClassId) (τ : Nat → Option Nat) (ρ : Nat → Nat → Nat) (hW : WF τ ρ) (H : Heap) (hT : TH D cI cS τ ρ H) (a0 : Nat) (x1 : Int32) (x2 : Int32) (ha0 : τ a0 = some 12) (N : Int) (hN0 : 0 ≤ N) (hN1 : N ≤ 600) (hI : IM D ρ N H a0) : MI l D cI cS τ ρ yX12_span cX12_span 7 (some .int) 3 68 H [.ref a0, .int 0, .int x1, .int x2] (fun (r : Int32) (u : Heap) => (H = u)) (fun q => False) := by
  refine MI.of (by decide) (Nat.le_of_ble_eq_true rfl) ?_
  intro p e s m args below meth c E hml hr hlk hs ls hl
  have hx := E.1
  have hb := E.2.1
  have hown := E.2.2.1
  have hts := E.2.2.2.1
  have hS : SS (fun q => False) H H [] := SS.rf
  have hl : lv_has ls 7 [(0, .ref a0), (1, .int 0), (2, .int x1), (3, .int x2)] := hl
  have n01 := hI.2.2.2.2.2.1
  have n23 := hI.2.2.2.2.2.2.1
  have L_41 : ∀ (n : Nat) (lc_c41 : List Loc) (ls : Array Slot) (y41_4 : Int32) (y41_5 : Int32), SS (fun q => False) H H lc_c41 → lv_has ls 7 [(0, .ref a0), (1, .int 0), (2, .int x1), (3, .int x2), (4, .int y41_4), (5, .int y41_5)] → -1 ≤ x1.toInt → -4 ≤ y41_5.toInt → y41_5.toInt ≤ 700 → y41_5.toInt = -4 ∨ (0 ≤ y41_5.toInt ∧ y41_5.toInt < (ai H (ρ a0 0) 7).toInt ∧ heldP 0 H (ρ a0 0) y41_5) → ((ai H (ρ a0 0) 7).toInt - y41_5.toInt).toNat < n → W p l e (rmO 3 68) s m args below meth c H lc_c41 0 0 (MQ below (va_Qi (fun (r : Int32) (u : Heap) => (H = u)) (Bt D cI cS τ ρ H) (fun q => False)) args s 0 0 (fun q => False)) (F0 m 41 ls []) := by
    intro n
    induction n with
    | zero => intro lc_c41 ls y41_4 y41_5 hS_c41 hl ly41_2 ly41_5 uy41_5 hx41_0 hm; exact absurd hm (Nat.not_lt_zero _)
    | succ n ih_41 =>
      intro lc_c41 ls y41_4 y41_5 hS_c41 hl ly41_2 ly41_5 uy41_5 hx41_0 hm_41
      refine lv_iload hx hb dX12_span_41 (lv_at hl 5 rfl) ?_
      refine lv_bipush (v := (-4)) hx hb dX12_span_43 (by decide) ?_
      refine lv_icmp_eq (tgt := 92) hx hb dX12_span_45 (by decide) (fun c_1 => ?_) (fun c_1 => ?_)
      · have f_1 : y41_5.toInt = -4 := r_eq rfl (by decide) c_1
        refine lv_iload_n hx hb dX12_span_92 rfl (lv_at hl 2 rfl) ?_
        refine lv_if_ge (tgt := 101) hx hb dX12_span_93 (by decide) (fun c_2 => ?_) (fun c_2 => ?_)
        · have f_2 : 0 ≤ x1.toInt := r_le (by decide) rfl c_2
          refine lv_bipush (v := (-4)) hx hb dX12_span_101 (by decide) ?_
          exact th_iret E hr hlk hs hT hS_c41 rfl dX12_span_103
        · have f_2 : x1.toInt < 0 := r_nle (by decide) rfl c_2
          refine lv_iload hx hb dX12_span_96 (lv_at hl 4 rfl) ?_
          refine lv_goto (tgt := 103) hx hb dX12_span_98 (by decide) ?_
          exact th_iret E hr hlk hs hT hS_c41 rfl dX12_span_103
      · have f_1 : ¬ y41_5.toInt = -4 := r_ne rfl (by decide) c_1
        refine lv_aload_n hx hb dX12_span_48 rfl (lv_at hl 0 rfl) ?_
        refine lv_iload_n hx hb dX12_span_49 rfl (lv_at hl 1 rfl) ?_
        refine lv_iload hx hb dX12_span_50 (lv_at hl 5 rfl) ?_
        refine lv_iconst (v := 0) hx hb dX12_span_52 (by decide) ?_
        refine th_Vi (As := [.int 0, .int y41_5, .int 0]) (rest := []) E hml hl.1 (y_nextHeld_v2 l D cI cS τ ρ hW H hT a0 y41_5 ha0 N hN0 hN1 ⟨hI.1, hI.2.1, hI.2.2.1, hI.2.2.2.1, hI.2.2.2.2.1, hI.2.2.2.2.2⟩ (by omega)) lk_X12_122 yd_X12_nextHeld hT ha0 rfl (by decide) hS_c41 (fun _ h => h.elim) ⟨by decide, by decide⟩ (Nat.le_of_ble_eq_true rfl) ⟨by decide, by decide⟩ rfl dX12_span_53 (fun r_3 H_3 locs_3 p_3 hT_3 hk_3 hS_3 => ?_)
        have p_3 : H = H_3 ∧ (y41_5.toInt ≤ r_3.toInt ∧ r_3.toInt ≤ 700) ∧ ((y41_5.toInt < (ai H (ρ a0 0) 7).toInt ∧ heldP 0 H (ρ a0 0) y41_5) → y41_5.toInt + 1 ≤ r_3.toInt) := p_3
        obtain ⟨rfl, p_3_0, p_3_1⟩ := p_3
        refine lv_istore (lv' := [(6, .int r_3), (0, .ref a0), (1, .int 0), (2, .int x1), (3, .int x2), (4, .int y41_4), (5, .int y41_5)]) hx hb dX12_span_56 hl (by decide) rfl (fun ls hl => ?_)
        have w_58 := p_3_1 ⟨by omega, (hx41_0.resolve_left (by omega)).2.2⟩
        refine lv_iload hx hb dX12_span_58 (lv_at hl 5 rfl) ?_
        refine lv_iload_n hx hb dX12_span_60 rfl (lv_at hl 3 rfl) ?_
        refine lv_icmp_ne (tgt := 76) hx hb dX12_span_61 (by decide) (fun c_4 => ?_) (fun c_4 => ?_)
        · have f_4 : ¬ y41_4.toInt = x1.toInt := r_ne rfl rfl c_4
          obtain ⟨x_5, ex_5⟩ : ∃ y : Int32, y41_4 + 1 = y := ⟨_, rfl⟩
          refine lv_iinc (v := x_5) (lv' := [(4, .int x_5), (6, .int r_3), (0, .ref a0), (1, .int 0), (2, .int x1), (3, .int x2), (5, .int y41_5)]) hx hb dX12_span_76 hl (k := 5) rfl (by rw [← ex_5]; rfl) (by decide) rfl (fun ls hl => ?_)
          refine lv_aload_n hx hb dX12_span_79 rfl (lv_at hl 2 rfl) ?_
          refine lv_iload_n hx hb dX12_span_80 rfl (lv_at hl 3 rfl) ?_
          refine lv_iload hx hb dX12_span_81 (lv_at hl 1 rfl) ?_
          refine lv_iconst (v := 1) hx hb dX12_span_83 (by decide) ?_
          refine th_Vi (As := [.int 0, .int r_3, .int 1]) (rest := []) E hml hl.1 (y_nextHeld l D cI cS τ ρ hW H hT_3 a0 r_3 ha0 N hN0 hN1 ⟨hI.1, hI.2.1, hI.2.2.1, hI.2.2.2.1, hI.2.2.2.2.1, hI.2.2.2.2.2⟩ (by omega)) lk_X12_122 yd_X12_nextHeld hT_3 ha0 rfl (by decide) hS_3 (fun _ h => h.elim) ⟨by decide, by decide⟩ (Nat.le_of_ble_eq_true rfl) ⟨by decide, by decide⟩ rfl dX12_span_84 (fun r_6 H_6 locs_6 p_6 hT_6 hk_6 hS_6 => ?_)
          have p_6 : H = H_6 ∧ (r_6.toInt = -4 ∨ (r_3.toInt ≤ r_6.toInt ∧ r_6.toInt < (ai H (ρ a0 0) 7).toInt ∧ heldP 0 H (ρ a0 0) r_6)) ∧ (-4 ≤ r_6.toInt ∧ r_6.toInt ≤ 700) := p_6
          obtain ⟨rfl, p_6_0, p_6_1⟩ := p_6
          refine lv_istore (lv' := [(5, .int r_6), (4, .int x_5), (6, .int r_3), (0, .ref a0), (1, .int 0), (2, .int x1), (3, .int x2)]) hx hb dX12_span_87 hl (by decide) rfl (fun ls hl => ?_)
          by_cases d_7 : r_6.toInt = -4
          · have e_7 : r_6 = (-4) := i_eqc d_7 (by decide)
            have hl : lv_has ls 7 [(5, .int (-4)), (4, .int x_5), (6, .int r_3), (0, .ref a0), (1, .int 0), (2, .int x1), (3, .int x2)] := by rw [e_7] at hl; exact hl
            refine lv_goto (tgt := 41) hx hb dX12_span_89 (by decide) ?_
            refine lv_iload hx hb dX12_span_41 (lv_at hl 0 rfl) ?_
            refine lv_bipush (v := (-4)) hx hb dX12_span_43 (by decide) ?_
            refine lv_icmp_eq (tgt := 92) hx hb dX12_span_45 (by decide) (fun c_8 => ?_) (fun c_8 => absurd (by decide) c_8)
            refine lv_iload_n hx hb dX12_span_92 rfl (lv_at hl 5 rfl) ?_
            refine lv_if_ge (tgt := 101) hx hb dX12_span_93 (by decide) (fun c_9 => ?_) (fun c_9 => ?_)
            · have f_9 : 0 ≤ x1.toInt := r_le (by decide) rfl c_9
              refine lv_bipush (v := (-4)) hx hb dX12_span_101 (by decide) ?_
              exact th_iret E hr hlk hs hT_6 hS_6 rfl dX12_span_103
            · have f_9 : x1.toInt < 0 := r_nle (by decide) rfl c_9
              refine lv_iload hx hb dX12_span_96 (lv_at hl 1 rfl) ?_
              refine lv_goto (tgt := 103) hx hb dX12_span_98 (by decide) ?_
              exact th_iret E hr hlk hs hT_6 hS_6 rfl dX12_span_103
          refine lv_goto (tgt := 41) hx hb dX12_span_89 (by decide) ?_
          exact ih_41 locs_6 _ x_5 r_6 hS_6 (lv_sub hl [3, 4, 5, 6, 1, 0] rfl) (by omega) (by omega) (by omega) (p_6_0.imp id (fun h => ⟨by omega, h.2.1, h.2.2⟩)) (by omega)
        · have f_4 : y41_4.toInt = x1.toInt := r_eq rfl rfl c_4
          refine lv_iload_n hx hb dX12_span_64 rfl (lv_at hl 4 rfl) ?_
          refine lv_if_ne (tgt := 73) hx hb dX12_span_65 (by decide) (fun c_10 => ?_) (fun c_10 => ?_)
          · have f_10 : ¬ x2.toInt = 0 := r_ne rfl (by decide) c_10
            have nz_x2 : ¬ x2 = 0 := c_10
            refine lv_iload hx hb dX12_span_73 (lv_at hl 0 rfl) ?_
            exact th_iret E hr hlk hs hT_3 hS_3 rfl dX12_span_75
          · have f_10 : x2.toInt = 0 := r_eq rfl (by decide) c_10
            refine lv_iload hx hb dX12_span_68 (lv_at hl 6 rfl) ?_
            refine lv_goto (tgt := 75) hx hb dX12_span_70 (by decide) ?_
            exact th_iret E hr hlk hs hT_3 hS_3 rfl dX12_span_75
  refine lv_iload_n hx hb dX12_span_0 rfl (lv_at hl 1 rfl) ?_
  refine th_Si (As := [.int 0]) (rest := []) E hml hl.1 (y_isEnd l D cI cS τ ρ hW H hT) lk_X12_160 yd_X12_isEnd hS (fun _ h => h.elim) ⟨by decide, by decide⟩ (Nat.le_of_ble_eq_true rfl) ⟨by decide, by decide⟩ rfl dX12_span_1 (fun r_11 H_11 locs_11 p_11 hT_11 hk_11 hS_11 => ?_)
  have p_11 : H = H_11 ∧ (r_11 = 0 ∨ r_11 = 1) ∧ ((r_11.toInt = 1 ∧ 0 ≤ 0 ∧ 0 ≤ 1) ∨ (r_11.toInt = 0 ∧ (0 < 0 ∨ 1 < 0))) := p_11
  obtain ⟨rfl, p_11_0, p_11_1⟩ := p_11
  have z_11 := b_iv p_11_0
  refine lv_if_eq (tgt := 22) hx hb dX12_span_4 (by decide) (fun c_12 => False.elim (by have f_12 : r_11.toInt = 0 := r_eq rfl (by decide) c_12; omega)) (fun c_12 => ?_)
  refine lv_iload_n hx hb dX12_span_7 rfl (lv_at hl 2 rfl) ?_
  refine lv_iconst (v := (-1)) hx hb dX12_span_8 (by decide) ?_
  refine lv_icmp_lt (tgt := 22) hx hb dX12_span_9 (by decide) (fun c_13 => ?_) (fun c_13 => ?_)
  · have f_13 : x1.toInt < -1 := r_lt rfl (by decide) c_13
    refine lv_iconst (v := (-1)) hx hb dX12_span_22 (by decide) ?_
    exact th_iret E hr hlk hs hT_11 hS_11 rfl dX12_span_23
  · have f_13 : -1 ≤ x1.toInt := r_nlt rfl (by decide) c_13
    refine lv_iload_n hx hb dX12_span_12 rfl (lv_at hl 3 rfl) ?_
    obtain ⟨x_14, ex_14⟩ : ∃ y : Int64, x2.toInt64 = y := ⟨_, rfl⟩
    refine lv_i2l (v := x_14) hx hb dX12_span_13 ex_14 ?_
    have q_14 : x_14.toInt = x2.toInt := by rw [← ex_14]; exact Int32.toInt_toInt64 _
    refine lv_lconst (v := 0) hx hb dX12_span_14 (by decide) ?_
    refine lv_lconst (v := 1) hx hb dX12_span_15 (by decide) ?_
    refine th_Si (As := [.long x_14, .long 0, .long 1]) (rest := []) E hml hl.1 (y_in_v5 l D cI cS τ ρ hW H hT_11 x_14) lk_X12_54 yd_X12_in hS_11 (fun _ h => h.elim) ⟨by decide, by decide⟩ (Nat.le_of_ble_eq_true rfl) ⟨by decide, by decide⟩ rfl dX12_span_16 (fun r_15 H_15 locs_15 p_15 hT_15 hk_15 hS_15 => ?_)
    have p_15 : H = H_15 ∧ (r_15 = 0 ∨ r_15 = 1) ∧ ((r_15.toInt = 1 ∧ 0 ≤ x_14.toInt ∧ x_14.toInt ≤ 1) ∨ (r_15.toInt = 0 ∧ (x_14.toInt < 0 ∨ 1 < x_14.toInt))) := p_15
    obtain ⟨rfl, p_15_0, p_15_1⟩ := p_15
    have z_15 := b_iv p_15_0
    refine lv_if_ne (tgt := 24) hx hb dX12_span_19 (by decide) (fun c_16 => ?_) (fun c_16 => ?_)
    · have f_16 : ¬ r_15.toInt = 0 := r_ne rfl (by decide) c_16
      have nz_r_15 : ¬ r_15 = 0 := c_16
      refine lv_iconst (v := 0) hx hb dX12_span_24 (by decide) ?_
      refine lv_istore (lv' := [(4, .int 0), (0, .ref a0), (1, .int 0), (2, .int x1), (3, .int x2)]) hx hb dX12_span_25 hl (by decide) rfl (fun ls hl => ?_)
      refine lv_aload_n hx hb dX12_span_27 rfl (lv_at hl 1 rfl) ?_
      refine lv_iload_n hx hb dX12_span_28 rfl (lv_at hl 2 rfl) ?_
      refine lv_aload_n hx hb dX12_span_29 rfl (lv_at hl 1 rfl) ?_
      refine lv_iload_n hx hb dX12_span_30 rfl (lv_at hl 2 rfl) ?_
      refine lv_iconst (v := 5) hx hb dX12_span_31 (by decide) ?_
      refine th_Vi (As := [.int 0, .int 5]) (rest := [.int 0, .ref a0]) E hml hl.1 (y_get_v22 l D cI cS τ ρ hW H hT_15 a0 ha0) lk_X12_99 yd_X12_get hT_15 ha0 rfl (by decide) hS_15 (fun _ h => h.elim) ⟨by decide, by decide⟩ (Nat.le_of_ble_eq_true rfl) ⟨by decide, by decide⟩ rfl dX12_span_32 (fun r_17 H_17 locs_17 p_17 hT_17 hk_17 hS_17 => ?_)
      have p_17 : H = H_17 ∧ (ai H (ρ a0 0) 5 = r_17) := p_17
      obtain ⟨rfl, p_17_0⟩ := p_17
      have b_r_17 : 0 ≤ r_17.toInt ∧ r_17.toInt ≤ N + 33 := by rw [← p_17_0]; exact hI.1 5 (by decide)
      have c_r_17 := congrArg Int32.toInt p_17_0
      refine lv_iconst (v := 1) hx hb dX12_span_35 (by decide) ?_
      refine th_Vi (As := [.int 0, .int r_17, .int 1]) (rest := []) E hml hl.1 (y_nextHeld l D cI cS τ ρ hW H hT_17 a0 r_17 ha0 N hN0 hN1 ⟨hI.1, hI.2.1, hI.2.2.1, hI.2.2.2.1, hI.2.2.2.2.1, hI.2.2.2.2.2⟩ (by omega)) lk_X12_122 yd_X12_nextHeld hT_17 ha0 rfl (by decide) hS_17 (fun _ h => h.elim) ⟨by decide, by decide⟩ (Nat.le_of_ble_eq_true rfl) ⟨by decide, by decide⟩ rfl dX12_span_36 (fun r_18 H_18 locs_18 p_18 hT_18 hk_18 hS_18 => ?_)
      have p_18 : H = H_18 ∧ (r_18.toInt = -4 ∨ (r_17.toInt ≤ r_18.toInt ∧ r_18.toInt < (ai H (ρ a0 0) 7).toInt ∧ heldP 0 H (ρ a0 0) r_18)) ∧ (-4 ≤ r_18.toInt ∧ r_18.toInt ≤ 700) := p_18
      obtain ⟨rfl, p_18_0, p_18_1⟩ := p_18
      refine lv_istore (lv' := [(5, .int r_18), (4, .int 0), (0, .ref a0), (1, .int 0), (2, .int x1), (3, .int x2)]) hx hb dX12_span_39 hl (by decide) rfl (fun ls hl => ?_)
      exact L_41 _ locs_18 _ 0 r_18 hS_18 (lv_sub hl [2, 3, 4, 5, 1, 0] rfl) (by omega) (by omega) (by omega) (p_18_0.imp id (fun h => ⟨by omega, h.2.1, h.2.2⟩)) (Nat.lt_succ_self _)
    · have f_16 : r_15.toInt = 0 := r_eq rfl (by decide) c_16
      refine lv_iconst (v := (-1)) hx hb dX12_span_22 (by decide) ?_
      exact th_iret E hr hlk hs hT_15 hS_15 rfl dX12_span_23
set_option maxHeartbeats 4000000 in
set_option maxRecDepth 100000 in
/-- the reference: span -/
theorem y_span_v2 (l : Launch) (D : va_G) (cI cS : ClassId) (τ : Nat → Option Nat) (ρ : Nat → Nat → Nat) (hW : WF τ ρ) (H : Heap) (hT : TH D cI cS τ ρ H) (a0 : Nat) (x1 : Int32) (x2 : Int32) (ha0 : τ a0 = some 12) (N : Int) (hN0 : 0 ≤ N) (hN1 : N ≤ 600) (hI : IM D ρ N H a0) : MI l D cI cS τ ρ yX12_span cX12_span 7 (some .int) 3 68 H [.ref a0, .int 1, .int x1, .int x2] (fun (r : Int32) (u : Heap) => (H = u)) (fun q => False) := by
  refine MI.of (by decide) (Nat.le_of_ble_eq_true rfl) ?_
  intro p e s m args below meth c E hml hr hlk hs ls hl
  have hx := E.1
  have hb := E.2.1
  have hown := E.2.2.1
  have hts := E.2.2.2.1
  have hS : SS (fun q => False) H H [] := SS.rf
  have hl : lv_has ls 7 [(0, .ref a0), (1, .int 1), (2, .int x1), (3, .int x2)] := hl
  have n01 := hI.2.2.2.2.2.1
  have n23 := hI.2.2.2.2.2.2.1
  have L_41 : ∀ (n : Nat) (lc_c41 : List Loc) (ls : Array Slot) (y41_4 : Int32) (y41_5 : Int32), SS (fun q => False) H H lc_c41 → lv_has ls 7 [(0, .ref a0), (1, .int 1), (2, .int x1), (3, .int x2), (4, .int y41_4), (5, .int y41_5)] → -1 ≤ x1.toInt → -4 ≤ y41_5.toInt → y41_5.toInt ≤ 700 → y41_5.toInt = -4 ∨ (0 ≤ y41_5.toInt ∧ y41_5.toInt < (ai H (ρ a0 0) 295).toInt ∧ heldP 288 H (ρ a0 0) y41_5) → ((ai H (ρ a0 0) 295).toInt - y41_5.toInt).toNat < n → W p l e (rmO 3 68) s m args below meth c H lc_c41 0 0 (MQ below (va_Qi (fun (r : Int32) (u : Heap) => (H = u)) (Bt D cI cS τ ρ H) (fun q => False)) args s 0 0 (fun q => False)) (F0 m 41 ls []) := by
    intro n
    induction n with
    | zero => intro lc_c41 ls y41_4 y41_5 hS_c41 hl ly41_2 ly41_5 uy41_5 hx41_0 hm; exact absurd hm (Nat.not_lt_zero _)
    | succ n ih_41 =>
      intro lc_c41 ls y41_4 y41_5 hS_c41 hl ly41_2 ly41_5 uy41_5 hx41_0 hm_41
      refine lv_iload hx hb dX12_span_41 (lv_at hl 5 rfl) ?_
      refine lv_bipush (v := (-4)) hx hb dX12_span_43 (by decide) ?_
      refine lv_icmp_eq (tgt := 92) hx hb dX12_span_45 (by decide) (fun c_1 => ?_) (fun c_1 => ?_)
      · have f_1 : y41_5.toInt = -4 := r_eq rfl (by decide) c_1
        refine lv_iload_n hx hb dX12_span_92 rfl (lv_at hl 2 rfl) ?_
        refine lv_if_ge (tgt := 101) hx hb dX12_span_93 (by decide) (fun c_2 => ?_) (fun c_2 => ?_)
        · have f_2 : 0 ≤ x1.toInt := r_le (by decide) rfl c_2
          refine lv_bipush (v := (-4)) hx hb dX12_span_101 (by decide) ?_
          exact th_iret E hr hlk hs hT hS_c41 rfl dX12_span_103
        · have f_2 : x1.toInt < 0 := r_nle (by decide) rfl c_2
          refine lv_iload hx hb dX12_span_96 (lv_at hl 4 rfl) ?_
          refine lv_goto (tgt := 103) hx hb dX12_span_98 (by decide) ?_
          exact th_iret E hr hlk hs hT hS_c41 rfl dX12_span_103
      · have f_1 : ¬ y41_5.toInt = -4 := r_ne rfl (by decide) c_1
        refine lv_aload_n hx hb dX12_span_48 rfl (lv_at hl 0 rfl) ?_
        refine lv_iload_n hx hb dX12_span_49 rfl (lv_at hl 1 rfl) ?_
        refine lv_iload hx hb dX12_span_50 (lv_at hl 5 rfl) ?_
        refine lv_iconst (v := 0) hx hb dX12_span_52 (by decide) ?_
        refine th_Vi (As := [.int 1, .int y41_5, .int 0]) (rest := []) E hml hl.1 (y_nextHeld_v4 l D cI cS τ ρ hW H hT a0 y41_5 ha0 N hN0 hN1 ⟨hI.1, hI.2.1, hI.2.2.1, hI.2.2.2.1, hI.2.2.2.2.1, hI.2.2.2.2.2⟩ (by omega)) lk_X12_122 yd_X12_nextHeld hT ha0 rfl (by decide) hS_c41 (fun _ h => h.elim) ⟨by decide, by decide⟩ (Nat.le_of_ble_eq_true rfl) ⟨by decide, by decide⟩ rfl dX12_span_53 (fun r_3 H_3 locs_3 p_3 hT_3 hk_3 hS_3 => ?_)
        have p_3 : H = H_3 ∧ (y41_5.toInt ≤ r_3.toInt ∧ r_3.toInt ≤ 700) ∧ ((y41_5.toInt < (ai H (ρ a0 0) 295).toInt ∧ heldP 288 H (ρ a0 0) y41_5) → y41_5.toInt + 1 ≤ r_3.toInt) := p_3
        obtain ⟨rfl, p_3_0, p_3_1⟩ := p_3
        refine lv_istore (lv' := [(6, .int r_3), (0, .ref a0), (1, .int 1), (2, .int x1), (3, .int x2), (4, .int y41_4), (5, .int y41_5)]) hx hb dX12_span_56 hl (by decide) rfl (fun ls hl => ?_)
        have w_58 := p_3_1 ⟨by omega, (hx41_0.resolve_left (by omega)).2.2⟩
        refine lv_iload hx hb dX12_span_58 (lv_at hl 5 rfl) ?_
        refine lv_iload_n hx hb dX12_span_60 rfl (lv_at hl 3 rfl) ?_
        refine lv_icmp_ne (tgt := 76) hx hb dX12_span_61 (by decide) (fun c_4 => ?_) (fun c_4 => ?_)
        · have f_4 : ¬ y41_4.toInt = x1.toInt := r_ne rfl rfl c_4
          obtain ⟨x_5, ex_5⟩ : ∃ y : Int32, y41_4 + 1 = y := ⟨_, rfl⟩
          refine lv_iinc (v := x_5) (lv' := [(4, .int x_5), (6, .int r_3), (0, .ref a0), (1, .int 1), (2, .int x1), (3, .int x2), (5, .int y41_5)]) hx hb dX12_span_76 hl (k := 5) rfl (by rw [← ex_5]; rfl) (by decide) rfl (fun ls hl => ?_)
          refine lv_aload_n hx hb dX12_span_79 rfl (lv_at hl 2 rfl) ?_
          refine lv_iload_n hx hb dX12_span_80 rfl (lv_at hl 3 rfl) ?_
          refine lv_iload hx hb dX12_span_81 (lv_at hl 1 rfl) ?_
          refine lv_iconst (v := 1) hx hb dX12_span_83 (by decide) ?_
          refine th_Vi (As := [.int 1, .int r_3, .int 1]) (rest := []) E hml hl.1 (y_nextHeld_v3 l D cI cS τ ρ hW H hT_3 a0 r_3 ha0 N hN0 hN1 ⟨hI.1, hI.2.1, hI.2.2.1, hI.2.2.2.1, hI.2.2.2.2.1, hI.2.2.2.2.2⟩ (by omega)) lk_X12_122 yd_X12_nextHeld hT_3 ha0 rfl (by decide) hS_3 (fun _ h => h.elim) ⟨by decide, by decide⟩ (Nat.le_of_ble_eq_true rfl) ⟨by decide, by decide⟩ rfl dX12_span_84 (fun r_6 H_6 locs_6 p_6 hT_6 hk_6 hS_6 => ?_)
          have p_6 : H = H_6 ∧ (r_6.toInt = -4 ∨ (r_3.toInt ≤ r_6.toInt ∧ r_6.toInt < (ai H (ρ a0 0) 295).toInt ∧ heldP 288 H (ρ a0 0) r_6)) ∧ (-4 ≤ r_6.toInt ∧ r_6.toInt ≤ 700) := p_6
          obtain ⟨rfl, p_6_0, p_6_1⟩ := p_6
          refine lv_istore (lv' := [(5, .int r_6), (4, .int x_5), (6, .int r_3), (0, .ref a0), (1, .int 1), (2, .int x1), (3, .int x2)]) hx hb dX12_span_87 hl (by decide) rfl (fun ls hl => ?_)
          by_cases d_7 : r_6.toInt = -4
          · have e_7 : r_6 = (-4) := i_eqc d_7 (by decide)
            have hl : lv_has ls 7 [(5, .int (-4)), (4, .int x_5), (6, .int r_3), (0, .ref a0), (1, .int 1), (2, .int x1), (3, .int x2)] := by rw [e_7] at hl; exact hl
            refine lv_goto (tgt := 41) hx hb dX12_span_89 (by decide) ?_
            refine lv_iload hx hb dX12_span_41 (lv_at hl 0 rfl) ?_
            refine lv_bipush (v := (-4)) hx hb dX12_span_43 (by decide) ?_
            refine lv_icmp_eq (tgt := 92) hx hb dX12_span_45 (by decide) (fun c_8 => ?_) (fun c_8 => absurd (by decide) c_8)
            refine lv_iload_n hx hb dX12_span_92 rfl (lv_at hl 5 rfl) ?_
            refine lv_if_ge (tgt := 101) hx hb dX12_span_93 (by decide) (fun c_9 => ?_) (fun c_9 => ?_)
            · have f_9 : 0 ≤ x1.toInt := r_le (by decide) rfl c_9
              refine lv_bipush (v := (-4)) hx hb dX12_span_101 (by decide) ?_
              exact th_iret E hr hlk hs hT_6 hS_6 rfl dX12_span_103
            · have f_9 : x1.toInt < 0 := r_nle (by decide) rfl c_9
              refine lv_iload hx hb dX12_span_96 (lv_at hl 1 rfl) ?_
              refine lv_goto (tgt := 103) hx hb dX12_span_98 (by decide) ?_
              exact th_iret E hr hlk hs hT_6 hS_6 rfl dX12_span_103
          refine lv_goto (tgt := 41) hx hb dX12_span_89 (by decide) ?_
          exact ih_41 locs_6 _ x_5 r_6 hS_6 (lv_sub hl [3, 4, 5, 6, 1, 0] rfl) (by omega) (by omega) (by omega) (p_6_0.imp id (fun h => ⟨by omega, h.2.1, h.2.2⟩)) (by omega)
        · have f_4 : y41_4.toInt = x1.toInt := r_eq rfl rfl c_4
          refine lv_iload_n hx hb dX12_span_64 rfl (lv_at hl 4 rfl) ?_
          refine lv_if_ne (tgt := 73) hx hb dX12_span_65 (by decide) (fun c_10 => ?_) (fun c_10 => ?_)
          · have f_10 : ¬ x2.toInt = 0 := r_ne rfl (by decide) c_10
            have nz_x2 : ¬ x2 = 0 := c_10
            refine lv_iload hx hb dX12_span_73 (lv_at hl 0 rfl) ?_
            exact th_iret E hr hlk hs hT_3 hS_3 rfl dX12_span_75
          · have f_10 : x2.toInt = 0 := r_eq rfl (by decide) c_10
            refine lv_iload hx hb dX12_span_68 (lv_at hl 6 rfl) ?_
            refine lv_goto (tgt := 75) hx hb dX12_span_70 (by decide) ?_
            exact th_iret E hr hlk hs hT_3 hS_3 rfl dX12_span_75
  refine lv_iload_n hx hb dX12_span_0 rfl (lv_at hl 1 rfl) ?_
  refine th_Si (As := [.int 1]) (rest := []) E hml hl.1 (y_isEnd_v2 l D cI cS τ ρ hW H hT) lk_X12_160 yd_X12_isEnd hS (fun _ h => h.elim) ⟨by decide, by decide⟩ (Nat.le_of_ble_eq_true rfl) ⟨by decide, by decide⟩ rfl dX12_span_1 (fun r_11 H_11 locs_11 p_11 hT_11 hk_11 hS_11 => ?_)
  have p_11 : H = H_11 ∧ (r_11 = 0 ∨ r_11 = 1) ∧ ((r_11.toInt = 1 ∧ 0 ≤ 1 ∧ 1 ≤ 1) ∨ (r_11.toInt = 0 ∧ (1 < 0 ∨ 1 < 1))) := p_11
  obtain ⟨rfl, p_11_0, p_11_1⟩ := p_11
  have z_11 := b_iv p_11_0
  refine lv_if_eq (tgt := 22) hx hb dX12_span_4 (by decide) (fun c_12 => False.elim (by have f_12 : r_11.toInt = 0 := r_eq rfl (by decide) c_12; omega)) (fun c_12 => ?_)
  refine lv_iload_n hx hb dX12_span_7 rfl (lv_at hl 2 rfl) ?_
  refine lv_iconst (v := (-1)) hx hb dX12_span_8 (by decide) ?_
  refine lv_icmp_lt (tgt := 22) hx hb dX12_span_9 (by decide) (fun c_13 => ?_) (fun c_13 => ?_)
  · have f_13 : x1.toInt < -1 := r_lt rfl (by decide) c_13
    refine lv_iconst (v := (-1)) hx hb dX12_span_22 (by decide) ?_
    exact th_iret E hr hlk hs hT_11 hS_11 rfl dX12_span_23
  · have f_13 : -1 ≤ x1.toInt := r_nlt rfl (by decide) c_13
    refine lv_iload_n hx hb dX12_span_12 rfl (lv_at hl 3 rfl) ?_
    obtain ⟨x_14, ex_14⟩ : ∃ y : Int64, x2.toInt64 = y := ⟨_, rfl⟩
    refine lv_i2l (v := x_14) hx hb dX12_span_13 ex_14 ?_
    have q_14 : x_14.toInt = x2.toInt := by rw [← ex_14]; exact Int32.toInt_toInt64 _
    refine lv_lconst (v := 0) hx hb dX12_span_14 (by decide) ?_
    refine lv_lconst (v := 1) hx hb dX12_span_15 (by decide) ?_
    refine th_Si (As := [.long x_14, .long 0, .long 1]) (rest := []) E hml hl.1 (y_in_v5 l D cI cS τ ρ hW H hT_11 x_14) lk_X12_54 yd_X12_in hS_11 (fun _ h => h.elim) ⟨by decide, by decide⟩ (Nat.le_of_ble_eq_true rfl) ⟨by decide, by decide⟩ rfl dX12_span_16 (fun r_15 H_15 locs_15 p_15 hT_15 hk_15 hS_15 => ?_)
    have p_15 : H = H_15 ∧ (r_15 = 0 ∨ r_15 = 1) ∧ ((r_15.toInt = 1 ∧ 0 ≤ x_14.toInt ∧ x_14.toInt ≤ 1) ∨ (r_15.toInt = 0 ∧ (x_14.toInt < 0 ∨ 1 < x_14.toInt))) := p_15
    obtain ⟨rfl, p_15_0, p_15_1⟩ := p_15
    have z_15 := b_iv p_15_0
    refine lv_if_ne (tgt := 24) hx hb dX12_span_19 (by decide) (fun c_16 => ?_) (fun c_16 => ?_)
    · have f_16 : ¬ r_15.toInt = 0 := r_ne rfl (by decide) c_16
      have nz_r_15 : ¬ r_15 = 0 := c_16
      refine lv_iconst (v := 0) hx hb dX12_span_24 (by decide) ?_
      refine lv_istore (lv' := [(4, .int 0), (0, .ref a0), (1, .int 1), (2, .int x1), (3, .int x2)]) hx hb dX12_span_25 hl (by decide) rfl (fun ls hl => ?_)
      refine lv_aload_n hx hb dX12_span_27 rfl (lv_at hl 1 rfl) ?_
      refine lv_iload_n hx hb dX12_span_28 rfl (lv_at hl 2 rfl) ?_
      refine lv_aload_n hx hb dX12_span_29 rfl (lv_at hl 1 rfl) ?_
      refine lv_iload_n hx hb dX12_span_30 rfl (lv_at hl 2 rfl) ?_
      refine lv_iconst (v := 5) hx hb dX12_span_31 (by decide) ?_
      refine th_Vi (As := [.int 1, .int 5]) (rest := [.int 1, .ref a0]) E hml hl.1 (y_get_v18 l D cI cS τ ρ hW H hT_15 a0 ha0) lk_X12_99 yd_X12_get hT_15 ha0 rfl (by decide) hS_15 (fun _ h => h.elim) ⟨by decide, by decide⟩ (Nat.le_of_ble_eq_true rfl) ⟨by decide, by decide⟩ rfl dX12_span_32 (fun r_17 H_17 locs_17 p_17 hT_17 hk_17 hS_17 => ?_)
      have p_17 : H = H_17 ∧ (ai H (ρ a0 0) 293 = r_17) := p_17
      obtain ⟨rfl, p_17_0⟩ := p_17
      have b_r_17 : 0 ≤ r_17.toInt ∧ r_17.toInt ≤ N + 33 := by rw [← p_17_0]; exact hI.1 293 (by decide)
      have c_r_17 := congrArg Int32.toInt p_17_0
      refine lv_iconst (v := 1) hx hb dX12_span_35 (by decide) ?_
      refine th_Vi (As := [.int 1, .int r_17, .int 1]) (rest := []) E hml hl.1 (y_nextHeld_v3 l D cI cS τ ρ hW H hT_17 a0 r_17 ha0 N hN0 hN1 ⟨hI.1, hI.2.1, hI.2.2.1, hI.2.2.2.1, hI.2.2.2.2.1, hI.2.2.2.2.2⟩ (by omega)) lk_X12_122 yd_X12_nextHeld hT_17 ha0 rfl (by decide) hS_17 (fun _ h => h.elim) ⟨by decide, by decide⟩ (Nat.le_of_ble_eq_true rfl) ⟨by decide, by decide⟩ rfl dX12_span_36 (fun r_18 H_18 locs_18 p_18 hT_18 hk_18 hS_18 => ?_)
      have p_18 : H = H_18 ∧ (r_18.toInt = -4 ∨ (r_17.toInt ≤ r_18.toInt ∧ r_18.toInt < (ai H (ρ a0 0) 295).toInt ∧ heldP 288 H (ρ a0 0) r_18)) ∧ (-4 ≤ r_18.toInt ∧ r_18.toInt ≤ 700) := p_18
      obtain ⟨rfl, p_18_0, p_18_1⟩ := p_18
      refine lv_istore (lv' := [(5, .int r_18), (4, .int 0), (0, .ref a0), (1, .int 1), (2, .int x1), (3, .int x2)]) hx hb dX12_span_39 hl (by decide) rfl (fun ls hl => ?_)
      exact L_41 _ locs_18 _ 0 r_18 hS_18 (lv_sub hl [2, 3, 4, 5, 1, 0] rfl) (by omega) (by omega) (by omega) (p_18_0.imp id (fun h => ⟨by omega, h.2.1, h.2.2⟩)) (Nat.lt_succ_self _)
    · have f_16 : r_15.toInt = 0 := r_eq rfl (by decide) c_16
      refine lv_iconst (v := (-1)) hx hb dX12_span_22 (by decide) ?_
      exact th_iret E hr hlk hs hT_15 hS_15 rfl dX12_span_23
set_option maxHeartbeats 4000000 in
set_option maxRecDepth 100000 in
/-- the reference: span -/
theorem y_span_v3 (l : Launch) (D : va_G) (cI cS : ClassId) (τ : Nat → Option Nat) (ρ : Nat → Nat → Nat) (hW : WF τ ρ) (H : Heap) (hT : TH D cI cS τ ρ H) (a0 : Nat) (x0 : Int32) (x1 : Int32) (x2 : Int32) (ha0 : τ a0 = some 12) (N : Int) (hN0 : 0 ≤ N) (hN1 : N ≤ 600) (hI : IM D ρ N H a0) (hp0 : x0.toInt < 0 ∨ 1 < x0.toInt) : MI l D cI cS τ ρ yX12_span cX12_span 7 (some .int) 2 45 H [.ref a0, .int x0, .int x1, .int x2] (fun (r : Int32) (u : Heap) => (H = u)) (fun q => False) := by
  refine MI.of (by decide) (Nat.le_of_ble_eq_true rfl) ?_
  intro p e s m args below meth c E hml hr hlk hs ls hl
  have hx := E.1
  have hb := E.2.1
  have hown := E.2.2.1
  have hts := E.2.2.2.1
  have hS : SS (fun q => False) H H [] := SS.rf
  have hl : lv_has ls 7 [(0, .ref a0), (1, .int x0), (2, .int x1), (3, .int x2)] := hl
  have n01 := hI.2.2.2.2.2.1
  have n23 := hI.2.2.2.2.2.2.1
  refine lv_iload_n hx hb dX12_span_0 rfl (lv_at hl 1 rfl) ?_
  refine th_Si (As := [.int x0]) (rest := []) E hml hl.1 (y_isEnd_v3 l D cI cS τ ρ hW H hT x0) lk_X12_160 yd_X12_isEnd hS (fun _ h => h.elim) ⟨by decide, by decide⟩ (Nat.le_of_ble_eq_true rfl) ⟨by decide, by decide⟩ rfl dX12_span_1 (fun r_1 H_1 locs_1 p_1 hT_1 hk_1 hS_1 => ?_)
  have p_1 : H = H_1 ∧ (r_1 = 0 ∨ r_1 = 1) ∧ ((r_1.toInt = 1 ∧ 0 ≤ x0.toInt ∧ x0.toInt ≤ 1) ∨ (r_1.toInt = 0 ∧ (x0.toInt < 0 ∨ 1 < x0.toInt))) := p_1
  obtain ⟨rfl, p_1_0, p_1_1⟩ := p_1
  have z_1 := b_iv p_1_0
  refine lv_if_eq (tgt := 22) hx hb dX12_span_4 (by decide) (fun c_2 => ?_) (fun c_2 => False.elim (by have f_2 : ¬ r_1.toInt = 0 := r_ne rfl (by decide) c_2; omega))
  refine lv_iconst (v := (-1)) hx hb dX12_span_22 (by decide) ?_
  exact th_iret E hr hlk hs hT_1 hS_1 rfl dX12_span_23
set_option maxHeartbeats 4000000 in
set_option maxRecDepth 100000 in
/-- the reference: known -/
theorem y_known (l : Launch) (D : va_G) (cI cS : ClassId) (τ : Nat → Option Nat) (ρ : Nat → Nat → Nat) (hW : WF τ ρ) (H : Heap) (hT : TH D cI cS τ ρ H) (a0 : Nat) (x1 : Int32) (ha0 : τ a0 = some 12) (N : Int) (hN0 : 0 ≤ N) (hN1 : N ≤ 600) (hI : IM D ρ N H a0) : MI l D cI cS τ ρ yX12_known cX12_known 3 (some .int) 2 45 H [.ref a0, .int 0, .int x1] (fun (r : Int32) (u : Heap) => (H = u)) (fun q => False) := by
  refine MI.of (by decide) (Nat.le_of_ble_eq_true rfl) ?_
  intro p e s m args below meth c E hml hr hlk hs ls hl
  have hx := E.1
  have hb := E.2.1
  have hown := E.2.2.1
  have hts := E.2.2.2.1
  have hS : SS (fun q => False) H H [] := SS.rf
  have hl : lv_has ls 3 [(0, .ref a0), (1, .int 0), (2, .int x1)] := hl
  have n01 := hI.2.2.2.2.2.1
  have n23 := hI.2.2.2.2.2.2.1
  refine lv_iload_n hx hb dX12_known_0 rfl (lv_at hl 1 rfl) ?_
  refine th_Si (As := [.int 0]) (rest := []) E hml hl.1 (y_isEnd l D cI cS τ ρ hW H hT) lk_X12_160 yd_X12_isEnd hS (fun _ h => h.elim) ⟨by decide, by decide⟩ (Nat.le_of_ble_eq_true rfl) ⟨by decide, by decide⟩ rfl dX12_known_1 (fun r_1 H_1 locs_1 p_1 hT_1 hk_1 hS_1 => ?_)
  have p_1 : H = H_1 ∧ (r_1 = 0 ∨ r_1 = 1) ∧ ((r_1.toInt = 1 ∧ 0 ≤ 0 ∧ 0 ≤ 1) ∨ (r_1.toInt = 0 ∧ (0 < 0 ∨ 1 < 0))) := p_1
  obtain ⟨rfl, p_1_0, p_1_1⟩ := p_1
  have z_1 := b_iv p_1_0
  refine lv_if_eq (tgt := 11) hx hb dX12_known_4 (by decide) (fun c_2 => False.elim (by have f_2 : r_1.toInt = 0 := r_eq rfl (by decide) c_2; omega)) (fun c_2 => ?_)
  refine lv_iload_n hx hb dX12_known_7 rfl (lv_at hl 2 rfl) ?_
  refine lv_if_ge (tgt := 13) hx hb dX12_known_8 (by decide) (fun c_3 => ?_) (fun c_3 => ?_)
  · have f_3 : 0 ≤ x1.toInt := r_le (by decide) rfl c_3
    refine lv_iload_n hx hb dX12_known_13 rfl (lv_at hl 2 rfl) ?_
    refine lv_aload_n hx hb dX12_known_14 rfl (lv_at hl 0 rfl) ?_
    refine lv_iload_n hx hb dX12_known_15 rfl (lv_at hl 1 rfl) ?_
    refine lv_iconst (v := 1) hx hb dX12_known_16 (by decide) ?_
    refine th_Vi (As := [.int 0, .int 1]) (rest := [.int x1]) E hml hl.1 (y_get_v7 l D cI cS τ ρ hW H hT_1 a0 ha0) lk_X12_99 yd_X12_get hT_1 ha0 rfl (by decide) hS_1 (fun _ h => h.elim) ⟨by decide, by decide⟩ (Nat.le_of_ble_eq_true rfl) ⟨by decide, by decide⟩ rfl dX12_known_17 (fun r_4 H_4 locs_4 p_4 hT_4 hk_4 hS_4 => ?_)
    have p_4 : H = H_4 ∧ (ai H (ρ a0 0) 1 = r_4) := p_4
    obtain ⟨rfl, p_4_0⟩ := p_4
    have b_r_4 : 0 ≤ r_4.toInt ∧ r_4.toInt ≤ N + 2 := by rw [← p_4_0]; exact hI.1 1 (by decide)
    have c_r_4 := congrArg Int32.toInt p_4_0
    refine lv_icmp_lt (tgt := 36) hx hb dX12_known_20 (by decide) (fun c_5 => ?_) (fun c_5 => ?_)
    · have f_5 : x1.toInt < r_4.toInt := r_lt rfl rfl c_5
      refine lv_iconst (v := 0) hx hb dX12_known_36 (by decide) ?_
      exact th_iret E hr hlk hs hT_4 hS_4 rfl dX12_known_37
    · have f_5 : r_4.toInt ≤ x1.toInt := r_nlt rfl rfl c_5
      refine lv_aload_n hx hb dX12_known_23 rfl (lv_at hl 0 rfl) ?_
      refine lv_iload_n hx hb dX12_known_24 rfl (lv_at hl 1 rfl) ?_
      refine lv_iload_n hx hb dX12_known_25 rfl (lv_at hl 2 rfl) ?_
      refine th_Vi (As := [.int 0, .int x1]) (rest := []) E hml hl.1 (y_isKnown l D cI cS τ ρ hW H hT_4 a0 x1 ha0 (by omega)) lk_X12_260 yd_X12_isKnown hT_4 ha0 rfl (by decide) hS_4 (fun _ h => h.elim) ⟨by decide, by decide⟩ (Nat.le_of_ble_eq_true rfl) ⟨by decide, by decide⟩ rfl dX12_known_26 (fun r_6 H_6 locs_6 p_6 hT_6 hk_6 hS_6 => ?_)
      have p_6 : H = H_6 ∧ (r_6 = 0 ∨ r_6 = 1) := p_6
      obtain ⟨rfl, p_6_0⟩ := p_6
      have z_6 := b_iv p_6_0
      refine lv_if_eq (tgt := 36) hx hb dX12_known_29 (by decide) (fun c_7 => ?_) (fun c_7 => ?_)
      · have f_7 : r_6.toInt = 0 := r_eq rfl (by decide) c_7
        refine lv_iconst (v := 0) hx hb dX12_known_36 (by decide) ?_
        exact th_iret E hr hlk hs hT_6 hS_6 rfl dX12_known_37
      · have f_7 : ¬ r_6.toInt = 0 := r_ne rfl (by decide) c_7
        have nz_r_6 : ¬ r_6 = 0 := c_7
        refine lv_iconst (v := 1) hx hb dX12_known_32 (by decide) ?_
        refine lv_goto (tgt := 37) hx hb dX12_known_33 (by decide) ?_
        exact th_iret E hr hlk hs hT_6 hS_6 rfl dX12_known_37
  · have f_3 : x1.toInt < 0 := r_nle (by decide) rfl c_3
    refine lv_iconst (v := (-1)) hx hb dX12_known_11 (by decide) ?_
    exact th_iret E hr hlk hs hT_1 hS_1 rfl dX12_known_12
set_option maxHeartbeats 4000000 in
set_option maxRecDepth 100000 in
/-- the reference: known -/
theorem y_known_v2 (l : Launch) (D : va_G) (cI cS : ClassId) (τ : Nat → Option Nat) (ρ : Nat → Nat → Nat) (hW : WF τ ρ) (H : Heap) (hT : TH D cI cS τ ρ H) (a0 : Nat) (x1 : Int32) (ha0 : τ a0 = some 12) (N : Int) (hN0 : 0 ≤ N) (hN1 : N ≤ 600) (hI : IM D ρ N H a0) : MI l D cI cS τ ρ yX12_known cX12_known 3 (some .int) 2 45 H [.ref a0, .int 1, .int x1] (fun (r : Int32) (u : Heap) => (H = u)) (fun q => False) := by
  refine MI.of (by decide) (Nat.le_of_ble_eq_true rfl) ?_
  intro p e s m args below meth c E hml hr hlk hs ls hl
  have hx := E.1
  have hb := E.2.1
  have hown := E.2.2.1
  have hts := E.2.2.2.1
  have hS : SS (fun q => False) H H [] := SS.rf
  have hl : lv_has ls 3 [(0, .ref a0), (1, .int 1), (2, .int x1)] := hl
  have n01 := hI.2.2.2.2.2.1
  have n23 := hI.2.2.2.2.2.2.1
  refine lv_iload_n hx hb dX12_known_0 rfl (lv_at hl 1 rfl) ?_
  refine th_Si (As := [.int 1]) (rest := []) E hml hl.1 (y_isEnd_v2 l D cI cS τ ρ hW H hT) lk_X12_160 yd_X12_isEnd hS (fun _ h => h.elim) ⟨by decide, by decide⟩ (Nat.le_of_ble_eq_true rfl) ⟨by decide, by decide⟩ rfl dX12_known_1 (fun r_1 H_1 locs_1 p_1 hT_1 hk_1 hS_1 => ?_)
  have p_1 : H = H_1 ∧ (r_1 = 0 ∨ r_1 = 1) ∧ ((r_1.toInt = 1 ∧ 0 ≤ 1 ∧ 1 ≤ 1) ∨ (r_1.toInt = 0 ∧ (1 < 0 ∨ 1 < 1))) := p_1
  obtain ⟨rfl, p_1_0, p_1_1⟩ := p_1
  have z_1 := b_iv p_1_0
  refine lv_if_eq (tgt := 11) hx hb dX12_known_4 (by decide) (fun c_2 => False.elim (by have f_2 : r_1.toInt = 0 := r_eq rfl (by decide) c_2; omega)) (fun c_2 => ?_)
  refine lv_iload_n hx hb dX12_known_7 rfl (lv_at hl 2 rfl) ?_
  refine lv_if_ge (tgt := 13) hx hb dX12_known_8 (by decide) (fun c_3 => ?_) (fun c_3 => ?_)
  · have f_3 : 0 ≤ x1.toInt := r_le (by decide) rfl c_3
    refine lv_iload_n hx hb dX12_known_13 rfl (lv_at hl 2 rfl) ?_
    refine lv_aload_n hx hb dX12_known_14 rfl (lv_at hl 0 rfl) ?_
    refine lv_iload_n hx hb dX12_known_15 rfl (lv_at hl 1 rfl) ?_
    refine lv_iconst (v := 1) hx hb dX12_known_16 (by decide) ?_
    refine th_Vi (As := [.int 1, .int 1]) (rest := [.int x1]) E hml hl.1 (y_get_v29 l D cI cS τ ρ hW H hT_1 a0 ha0) lk_X12_99 yd_X12_get hT_1 ha0 rfl (by decide) hS_1 (fun _ h => h.elim) ⟨by decide, by decide⟩ (Nat.le_of_ble_eq_true rfl) ⟨by decide, by decide⟩ rfl dX12_known_17 (fun r_4 H_4 locs_4 p_4 hT_4 hk_4 hS_4 => ?_)
    have p_4 : H = H_4 ∧ (ai H (ρ a0 0) 289 = r_4) := p_4
    obtain ⟨rfl, p_4_0⟩ := p_4
    have b_r_4 : 0 ≤ r_4.toInt ∧ r_4.toInt ≤ N + 2 := by rw [← p_4_0]; exact hI.1 289 (by decide)
    have c_r_4 := congrArg Int32.toInt p_4_0
    refine lv_icmp_lt (tgt := 36) hx hb dX12_known_20 (by decide) (fun c_5 => ?_) (fun c_5 => ?_)
    · have f_5 : x1.toInt < r_4.toInt := r_lt rfl rfl c_5
      refine lv_iconst (v := 0) hx hb dX12_known_36 (by decide) ?_
      exact th_iret E hr hlk hs hT_4 hS_4 rfl dX12_known_37
    · have f_5 : r_4.toInt ≤ x1.toInt := r_nlt rfl rfl c_5
      refine lv_aload_n hx hb dX12_known_23 rfl (lv_at hl 0 rfl) ?_
      refine lv_iload_n hx hb dX12_known_24 rfl (lv_at hl 1 rfl) ?_
      refine lv_iload_n hx hb dX12_known_25 rfl (lv_at hl 2 rfl) ?_
      refine th_Vi (As := [.int 1, .int x1]) (rest := []) E hml hl.1 (y_isKnown_v2 l D cI cS τ ρ hW H hT_4 a0 x1 ha0 (by omega)) lk_X12_260 yd_X12_isKnown hT_4 ha0 rfl (by decide) hS_4 (fun _ h => h.elim) ⟨by decide, by decide⟩ (Nat.le_of_ble_eq_true rfl) ⟨by decide, by decide⟩ rfl dX12_known_26 (fun r_6 H_6 locs_6 p_6 hT_6 hk_6 hS_6 => ?_)
      have p_6 : H = H_6 ∧ (r_6 = 0 ∨ r_6 = 1) := p_6
      obtain ⟨rfl, p_6_0⟩ := p_6
      have z_6 := b_iv p_6_0
      refine lv_if_eq (tgt := 36) hx hb dX12_known_29 (by decide) (fun c_7 => ?_) (fun c_7 => ?_)
      · have f_7 : r_6.toInt = 0 := r_eq rfl (by decide) c_7
        refine lv_iconst (v := 0) hx hb dX12_known_36 (by decide) ?_
        exact th_iret E hr hlk hs hT_6 hS_6 rfl dX12_known_37
      · have f_7 : ¬ r_6.toInt = 0 := r_ne rfl (by decide) c_7
        have nz_r_6 : ¬ r_6 = 0 := c_7
        refine lv_iconst (v := 1) hx hb dX12_known_32 (by decide) ?_
        refine lv_goto (tgt := 37) hx hb dX12_known_33 (by decide) ?_
        exact th_iret E hr hlk hs hT_6 hS_6 rfl dX12_known_37
  · have f_3 : x1.toInt < 0 := r_nle (by decide) rfl c_3
    refine lv_iconst (v := (-1)) hx hb dX12_known_11 (by decide) ?_
    exact th_iret E hr hlk hs hT_1 hS_1 rfl dX12_known_12
set_option maxHeartbeats 4000000 in
set_option maxRecDepth 100000 in
/-- the reference: known -/
theorem y_known_v3 (l : Launch) (D : va_G) (cI cS : ClassId) (τ : Nat → Option Nat) (ρ : Nat → Nat → Nat) (hW : WF τ ρ) (H : Heap) (hT : TH D cI cS τ ρ H) (a0 : Nat) (x0 : Int32) (x1 : Int32) (ha0 : τ a0 = some 12) (N : Int) (hN0 : 0 ≤ N) (hN1 : N ≤ 600) (hI : IM D ρ N H a0) (hp0 : x0.toInt < 0 ∨ 1 < x0.toInt) : MI l D cI cS τ ρ yX12_known cX12_known 3 (some .int) 2 45 H [.ref a0, .int x0, .int x1] (fun (r : Int32) (u : Heap) => (H = u)) (fun q => False) := by
  refine MI.of (by decide) (Nat.le_of_ble_eq_true rfl) ?_
  intro p e s m args below meth c E hml hr hlk hs ls hl
  have hx := E.1
  have hb := E.2.1
  have hown := E.2.2.1
  have hts := E.2.2.2.1
  have hS : SS (fun q => False) H H [] := SS.rf
  have hl : lv_has ls 3 [(0, .ref a0), (1, .int x0), (2, .int x1)] := hl
  have n01 := hI.2.2.2.2.2.1
  have n23 := hI.2.2.2.2.2.2.1
  refine lv_iload_n hx hb dX12_known_0 rfl (lv_at hl 1 rfl) ?_
  refine th_Si (As := [.int x0]) (rest := []) E hml hl.1 (y_isEnd_v3 l D cI cS τ ρ hW H hT x0) lk_X12_160 yd_X12_isEnd hS (fun _ h => h.elim) ⟨by decide, by decide⟩ (Nat.le_of_ble_eq_true rfl) ⟨by decide, by decide⟩ rfl dX12_known_1 (fun r_1 H_1 locs_1 p_1 hT_1 hk_1 hS_1 => ?_)
  have p_1 : H = H_1 ∧ (r_1 = 0 ∨ r_1 = 1) ∧ ((r_1.toInt = 1 ∧ 0 ≤ x0.toInt ∧ x0.toInt ≤ 1) ∨ (r_1.toInt = 0 ∧ (x0.toInt < 0 ∨ 1 < x0.toInt))) := p_1
  obtain ⟨rfl, p_1_0, p_1_1⟩ := p_1
  have z_1 := b_iv p_1_0
  refine lv_if_eq (tgt := 11) hx hb dX12_known_4 (by decide) (fun c_2 => ?_) (fun c_2 => False.elim (by have f_2 : ¬ r_1.toInt = 0 := r_ne rfl (by decide) c_2; omega))
  refine lv_iconst (v := (-1)) hx hb dX12_known_11 (by decide) ?_
  exact th_iret E hr hlk hs hT_1 hS_1 rfl dX12_known_12
set_option maxHeartbeats 4000000 in
set_option maxRecDepth 100000 in
/-- the reference: in -/
theorem y_in_v10 (l : Launch) (D : va_G) (cI cS : ClassId) (τ : Nat → Option Nat) (ρ : Nat → Nat → Nat) (hW : WF τ ρ) (H : Heap) (hT : TH D cI cS τ ρ H) (x0 : Int64) (x2 : Int64) : MI l D cI cS τ ρ yX12_in cX12_in 6 (some .boolean) 0 0 H [.long x0, .long 0, .long x2] (fun (r : Int32) (u : Heap) => (H = u) ∧ (r = 0 ∨ r = 1) ∧ ((r.toInt = 1 ∧ 0 ≤ x0.toInt ∧ x0.toInt ≤ x2.toInt) ∨ (r.toInt = 0 ∧ (x0.toInt < 0 ∨ x2.toInt < x0.toInt)))) (fun q => False) := by
  refine MI.of (by decide) (Nat.le_of_ble_eq_true rfl) ?_
  intro p e s m args below meth c E hml hr hlk hs ls hl
  have hx := E.1
  have hb := E.2.1
  have hown := E.2.2.1
  have hts := E.2.2.2.1
  have hS : SS (fun q => False) H H [] := SS.rf
  have hl : lv_has ls 6 [(0, .long x0), (2, .long 0), (4, .long x2)] := hl
  refine lv_lload_n hx hb dX12_in_0 rfl (lv_at hl 0 rfl) ?_
  refine lv_lload_n hx hb dX12_in_1 rfl (lv_at hl 1 rfl) ?_
  refine W.lcmp hx hb dX12_in_2 ?_
  refine lv_topi (fun x_1 ex_1 => ?_)
  have q_1 := l_cmp (a := x0) (b := (0 : Int64)) (m := x0.toInt) (n := 0) rfl (by decide) ex_1
  refine lv_if_lt (tgt := 17) hx hb dX12_in_3 (by decide) (fun c_2 => ?_) (fun c_2 => ?_)
  · have f_2 : x_1.toInt < 0 := r_lt rfl (by decide) c_2
    refine lv_iconst (v := 0) hx hb dX12_in_17 (by decide) ?_
    exact th_zret E hr hlk hs (Or.inl rfl) hT hS ⟨rfl, (Or.inl rfl), (by have : (0 : Int32).toInt = 0 := (by decide); omega)⟩ dX12_in_18
  · have f_2 : 0 ≤ x_1.toInt := r_nlt rfl (by decide) c_2
    refine lv_lload_n hx hb dX12_in_6 rfl (lv_at hl 0 rfl) ?_
    refine lv_lload hx hb dX12_in_7 (lv_at hl 2 rfl) ?_
    refine W.lcmp hx hb dX12_in_9 ?_
    refine lv_topi (fun x_3 ex_3 => ?_)
    have q_3 := l_cmp (a := x0) (b := x2) (m := x0.toInt) (n := x2.toInt) rfl rfl ex_3
    refine lv_if_gt (tgt := 17) hx hb dX12_in_10 (by decide) (fun c_4 => ?_) (fun c_4 => ?_)
    · have f_4 : 0 < x_3.toInt := r_lt (by decide) rfl c_4
      refine lv_iconst (v := 0) hx hb dX12_in_17 (by decide) ?_
      exact th_zret E hr hlk hs (Or.inl rfl) hT hS ⟨rfl, (Or.inl rfl), (by have : (0 : Int32).toInt = 0 := (by decide); omega)⟩ dX12_in_18
    · have f_4 : x_3.toInt ≤ 0 := r_nlt (by decide) rfl c_4
      refine lv_iconst (v := 1) hx hb dX12_in_13 (by decide) ?_
      refine lv_goto (tgt := 18) hx hb dX12_in_14 (by decide) ?_
      exact th_zret E hr hlk hs (Or.inr rfl) hT hS ⟨rfl, (Or.inr rfl), (by have : (1 : Int32).toInt = 1 := (by decide); omega)⟩ dX12_in_18
