/-! lay: what it answers -/
def lyv (T : Nat → Int32) (n : Nat) : Int := if (flt T n (n + 1) 0 4 16).1 = -4 ∧ 2 * (flt T n (n + 1) 0 4 16).2.1 ≤ (flt T n (n + 1) 0 4 16).2.2 then (flt T n (n + 1) 0 4 16).2.1 else -2
section LYS
variable {T : Nat → Int32} {n s : Nat} {D : va_G} {H H1 : Heap} {a0 a1 k : Nat} {v : Value} {x : Int32}
theorem lyv_y (h : (flt T n (n + 1) 0 4 16).1 = -4) (h2 : 2 * (flt T n (n + 1) 0 4 16).2.1 ≤ (flt T n (n + 1) 0 4 16).2.2) : lyv T n = (flt T n (n + 1) 0 4 16).2.1 := by unfold lyv; rw [if_pos ⟨h, h2⟩]
theorem lyv_n (h : ¬ ((flt T n (n + 1) 0 4 16).1 = -4 ∧ 2 * (flt T n (n + 1) 0 4 16).2.1 ≤ (flt T n (n + 1) 0 4 16).2.2)) : lyv T n = -2 := by unfold lyv; rw [if_neg h]
theorem item_bd (h : 0 ≤ item T n s) : ((T s).toInt = 112 → 1 ≤ vl T (s + 1) (dc T n (s + 1) 3) ∧ vl T (s + 1) (dc T n (s + 1) 3) ≤ 8) ∧ ((T s).toInt = 98 → 2 ≤ vl T (s + 1) (dc T n (s + 1) 3) ∧ vl T (s + 1) (dc T n (s + 1) 3) ≤ 32) := by
  unfold item at h
  split at h
  · omega
  · split at h <;> omega
theorem flt_bd : ∀ (f s : Nat) (p b : Int), (1 ≤ p ∧ p ≤ 8 ∧ 2 ≤ b ∧ b ≤ 32) → 1 ≤ (flt T n f s p b).2.1 ∧ (flt T n f s p b).2.1 ≤ 8 ∧ 2 ≤ (flt T n f s p b).2.2 ∧ (flt T n f s p b).2.2 ≤ 32
  | 0, _, _, _, h => h
  | f + 1, s, p, b, h => by
    by_cases z : s < n
    · by_cases y : item T n s < 0
      · rw [flt_no z y]; exact h
      · rw [flt_go z y]
        have q := item_bd (T := T) (n := n) (s := s) (by omega)
        refine flt_bd f _ _ _ ?_
        unfold itv
        split <;> split <;> omega
    · rw [flt_ge z]; exact h
theorem cpo (hU : PU D 1 k H H1 a0 v) (hk : 0 ≠ k) : fi D 1 0 H1 a1 = fi D 1 0 H a1 := by
  by_cases z : a1 = a0
  · rw [z]; exact hU.io (j := 0) (by decide) hk
  · exact fi_q (hU.2.2 _ z)
theorem cpz (hU : PU D 1 0 H H1 a0 (.int x)) (e : x = fi D 1 0 H a1) : fi D 1 0 H1 a1 = fi D 1 0 H a1 := by
  by_cases z : a1 = a0
  · rw [z] at e ⊢; exact hU.i.trans e
  · exact fi_q (hU.2.2 _ z)
end LYS
set_option maxHeartbeats 4000000 in
set_option maxRecDepth 100000 in
theorem e_copyFrom (l : Launch) (D : va_G) (cI cS : ClassId) (τ : Nat → Option Nat) (ρ : Nat → Nat → Nat) (hW : WF τ ρ) (H : Heap) (hT : TH D cI cS τ ρ H) (a0 : Nat) (a1 : Nat) (ha0 : τ a0 = some 1) (ha1 : τ a1 = some 1) : MV l D cI cS τ ρ yX1_copyFrom cX1_copyFrom 2 none 0 0 H [.ref a0, .ref a1] (fun (u : Heap) => fi D 1 0 u a1 = fi D 1 0 H a1) (AT τ [1]) := by
  refine MV.of (by decide) (Nat.le_of_ble_eq_true rfl) ?_
  intro p e s m args below meth c E hml hr hlk hs ls hl
  have hx := E.1
  have hb := E.2.1
  have hown := E.2.2.1
  have hts := E.2.2.2.1
  have hS : SS (AT τ [1]) H H [] := SS.rf
  have hl : lv_has ls 2 [(0, .ref a0), (1, .ref a1)] := hl
  refine lv_aload_n hx hb dX1_copyFrom_0 rfl (lv_at hl 0 rfl) ?_
  refine lv_aload_n hx hb dX1_copyFrom_1 rfl (lv_at hl 1 rfl) ?_
  refine gf_X1_14 E hT ha1 dX1_copyFrom_2 ?_
  refine lv_topi (fun x_1 ex_1 => ?_)
  refine pf_X1_14 E hT hS ha0 ⟨_, ha0, by decide⟩ dX1_copyFrom_5 (fun H_2 locs_2 hT_2 hU_2 hS_2 => ?_)
  refine lv_aload_n hx hb dX1_copyFrom_8 rfl (lv_at hl 0 rfl) ?_
  refine lv_aload_n hx hb dX1_copyFrom_9 rfl (lv_at hl 1 rfl) ?_
  refine gf_X1_18 E hT_2 ha1 dX1_copyFrom_10 ?_
  refine lv_topi (fun x_3 ex_3 => ?_)
  refine pf_X1_18 E hT_2 hS_2 ha0 ⟨_, ha0, by decide⟩ dX1_copyFrom_13 (fun H_4 locs_4 hT_4 hU_4 hS_4 => ?_)
  refine lv_aload_n hx hb dX1_copyFrom_16 rfl (lv_at hl 0 rfl) ?_
  refine lv_aload_n hx hb dX1_copyFrom_17 rfl (lv_at hl 1 rfl) ?_
  refine gf_X1_21 E hT_4 ha1 dX1_copyFrom_18 ?_
  refine lv_topi (fun x_5 ex_5 => ?_)
  refine pf_X1_21 E hT_4 hS_4 ha0 ⟨_, ha0, by decide⟩ dX1_copyFrom_21 (fun H_6 locs_6 hT_6 hU_6 hS_6 => ?_)
  refine lv_aload_n hx hb dX1_copyFrom_24 rfl (lv_at hl 0 rfl) ?_
  refine lv_aload_n hx hb dX1_copyFrom_25 rfl (lv_at hl 1 rfl) ?_
  refine gf_X1_24 E hT_6 ha1 dX1_copyFrom_26 ?_
  refine lv_topi (fun x_7 ex_7 => ?_)
  refine pf_X1_24 E hT_6 hS_6 ha0 ⟨_, ha0, by decide⟩ dX1_copyFrom_29 (fun H_8 locs_8 hT_8 hU_8 hS_8 => ?_)
  refine lv_aload_n hx hb dX1_copyFrom_32 rfl (lv_at hl 0 rfl) ?_
  refine lv_aload_n hx hb dX1_copyFrom_33 rfl (lv_at hl 1 rfl) ?_
  refine gf_X1_27 E hT_8 ha1 dX1_copyFrom_34 ?_
  refine lv_topi (fun x_9 ex_9 => ?_)
  refine pf_X1_27 E hT_8 hS_8 ha0 ⟨_, ha0, by decide⟩ dX1_copyFrom_37 (fun H_10 locs_10 hT_10 hU_10 hS_10 => ?_)
  exact th_vret E hr hlk hs hT_10 hS_10 ((cpo hU_10 (by decide)).trans ((cpo hU_8 (by decide)).trans ((cpo hU_6 (by decide)).trans ((cpo hU_4 (by decide)).trans (cpz hU_2 ex_1))))) dX1_copyFrom_40
set_option maxHeartbeats 4000000 in
set_option maxRecDepth 100000 in
theorem e_hasRoom (l : Launch) (D : va_G) (cI cS : ClassId) (τ : Nat → Option Nat) (ρ : Nat → Nat → Nat) (hW : WF τ ρ) (H : Heap) (hT : TH D cI cS τ ρ H) (a0 : Nat) (ha0 : τ a0 = some 1) (hp : 1 ≤ (fi D 1 0 H a0).toInt ∧ (fi D 1 0 H a0).toInt ≤ 8) : MI l D cI cS τ ρ yX1_hasRoom cX1_hasRoom 1 (some .boolean) 0 0 H [.ref a0] (fun (r : Int32) (u : Heap) => (r = 0 ∨ r = 1) ∧ (r.toInt = 1 ↔ 2 * (fi D 1 0 H a0).toInt ≤ (fi D 1 1 H a0).toInt)) (AT τ []) := by
  refine MI.of (by decide) (Nat.le_of_ble_eq_true rfl) ?_
  intro p e s m args below meth c E hml hr hlk hs ls hl
  have hx := E.1
  have hb := E.2.1
  have hown := E.2.2.1
  have hts := E.2.2.2.1
  have hS : SS (AT τ []) H H [] := SS.rf
  have hl : lv_has ls 1 [(0, .ref a0)] := hl
  refine lv_aload_n hx hb dX1_hasRoom_0 rfl (lv_at hl 0 rfl) ?_
  refine gf_X1_18 E hT ha0 dX1_hasRoom_1 ?_
  refine lv_topi (fun x_1 ex_1 => ?_)
  have e_1 : x_1.toInt = (fi D 1 1 H a0).toInt := congrArg Int32.toInt ex_1
  refine lv_iconst (v := 2) hx hb dX1_hasRoom_4 (by decide) ?_
  refine lv_aload_n hx hb dX1_hasRoom_5 rfl (lv_at hl 0 rfl) ?_
  refine gf_X1_14 E hT ha0 dX1_hasRoom_6 ?_
  refine lv_topi (fun x_2 ex_2 => ?_)
  have e_2 : x_2.toInt = (fi D 1 0 H a0).toInt := congrArg Int32.toInt ex_2
  refine lv_imul hx hb dX1_hasRoom_9 ?_
  refine lv_topi (fun x_3 ex_3 => ?_)
  have e_3 : x_3.toInt = 2 * (fi D 1 0 H a0).toInt := i_ml (x := 2) (a := 2) (by decide) e_2 ex_3 (by omega) (by omega)
  refine lv_icmp_lt (tgt := 17) hx hb dX1_hasRoom_10 (by decide) (fun c_4 => ?_) (fun c_4 => ?_)
  · have f_4 : x_1.toInt < x_3.toInt := r_lt rfl rfl c_4
    refine lv_iconst (v := 0) hx hb dX1_hasRoom_17 (by decide) ?_
    exact th_zret E hr hlk hs (Or.inl rfl) hT hS ⟨(Or.inl rfl), ST0 (by omega)⟩ dX1_hasRoom_18
  · have f_4 : x_3.toInt ≤ x_1.toInt := r_nlt rfl rfl c_4
    refine lv_iconst (v := 1) hx hb dX1_hasRoom_13 (by decide) ?_
    refine lv_goto (tgt := 18) hx hb dX1_hasRoom_14 (by decide) ?_
    exact th_zret E hr hlk hs (Or.inr rfl) hT hS ⟨(Or.inr rfl), ST1 (by omega)⟩ dX1_hasRoom_18
set_option maxHeartbeats 4000000 in
set_option maxRecDepth 100000 in
theorem e_setUp (l : Launch) (D : va_G) (cI cS : ClassId) (τ : Nat → Option Nat) (ρ : Nat → Nat → Nat) (hW : WF τ ρ) (H : Heap) (hT : TH D cI cS τ ρ H) (a0 : Nat) (a1 : Nat) (ha0 : τ a0 = some 4) (ha1 : τ a1 = some 1) : MV l D cI cS τ ρ yX4_setUp cX4_setUp 2 none 2 41 H [.ref a0, .ref a1] (fun (u : Heap) => fi D 1 0 u a1 = fi D 1 0 H a1) (AT τ [0, 1, 2, 3, 4, 5, 7, 10]) := by
  refine MV.of (by decide) (Nat.le_of_ble_eq_true rfl) ?_
  intro p e s m args below meth c E hml hr hlk hs ls hl
  have hx := E.1
  have hb := E.2.1
  have hown := E.2.2.1
  have hts := E.2.2.2.1
  have hS : SS (AT τ [0, 1, 2, 3, 4, 5, 7, 10]) H H [] := SS.rf
  have hl : lv_has ls 2 [(0, .ref a0), (1, .ref a1)] := hl
  refine lv_aload_n hx hb dX4_setUp_0 rfl (lv_at hl 0 rfl) ?_
  refine gf_X4_12 E hT hW ha0 dX4_setUp_1 (fun h_1 => ?_)
  refine lv_aload_n hx hb dX4_setUp_4 rfl (lv_at hl 1 rfl) ?_
  refine th_Vv (As := [.ref a1]) (rest := []) E hml hl.1 (e_copyFrom l D cI cS τ ρ hW H hT (ρ a0 0) a1 h_1 ha1) lk_X4_56 yd_X1_copyFrom hT h_1 rfl (by decide) hS (AT.sub (by decide)) ⟨by decide, by decide⟩ (Nat.le_of_ble_eq_true rfl) ⟨by decide, by decide⟩ rfl dX4_setUp_5 (fun H_2 locs_2 p_2 hT_2 hk_2 hS_2 => ?_)
  refine lv_aload_n hx hb dX4_setUp_8 rfl (lv_at hl 0 rfl) ?_
  refine gf_X4_21 E hT_2 hW ha0 dX4_setUp_9 (fun h_3 => ?_)
  refine th_Vv (As := []) (rest := []) E hml hl.1 (z_X10_clear l D cI cS τ ρ hW H_2 hT_2 (ρ a0 1) h_3) lk_X4_60 yd_X10_clear hT_2 h_3 rfl (by decide) hS_2 (AT.sub (by decide)) ⟨by decide, by decide⟩ (Nat.le_of_ble_eq_true rfl) ⟨by decide, by decide⟩ rfl dX4_setUp_12 (fun H_4 locs_4 p_4 hT_4 hk_4 hS_4 => ?_)
  refine lv_aload_n hx hb dX4_setUp_15 rfl (lv_at hl 0 rfl) ?_
  refine gf_X4_28 E hT_4 hW ha0 dX4_setUp_16 (fun h_5 => ?_)
  refine lv_iconst (v := 0) hx hb dX4_setUp_19 (by decide) ?_
  refine pf_X4_63 E hT_4 hS_4 h_5 ⟨_, h_5, by decide⟩ dX4_setUp_20 (fun H_6 locs_6 hT_6 hU_6 hS_6 => ?_)
  refine lv_aload_n hx hb dX4_setUp_23 rfl (lv_at hl 0 rfl) ?_
  refine gf_X4_37 E hT_6 hW ha0 dX4_setUp_24 (fun h_7 => ?_)
  refine th_Vv (As := []) (rest := []) E hml hl.1 (z_X2_start l D cI cS τ ρ hW H_6 hT_6 (ρ a0 3) h_7) lk_X4_67 yd_X2_start hT_6 h_7 rfl (by decide) hS_6 (AT.sub (by decide)) ⟨by decide, by decide⟩ (Nat.le_of_ble_eq_true rfl) ⟨by decide, by decide⟩ rfl dX4_setUp_27 (fun H_8 locs_8 p_8 hT_8 hk_8 hS_8 => ?_)
  refine lv_aload_n hx hb dX4_setUp_30 rfl (lv_at hl 0 rfl) ?_
  refine gf_X4_41 E hT_8 hW ha0 dX4_setUp_31 (fun h_9 => ?_)
  refine th_Vv (As := []) (rest := []) E hml hl.1 (z_X2_start l D cI cS τ ρ hW H_8 hT_8 (ρ a0 4) h_9) lk_X4_67 yd_X2_start hT_8 h_9 rfl (by decide) hS_8 (AT.sub (by decide)) ⟨by decide, by decide⟩ (Nat.le_of_ble_eq_true rfl) ⟨by decide, by decide⟩ rfl dX4_setUp_34 (fun H_10 locs_10 p_10 hT_10 hk_10 hS_10 => ?_)
  refine lv_aload_n hx hb dX4_setUp_37 rfl (lv_at hl 0 rfl) ?_
  refine lv_bipush (v := (-4)) hx hb dX4_setUp_38 (by decide) ?_
  refine pf_X4_70 E hT_10 hS_10 ha0 ⟨_, ha0, by decide⟩ dX4_setUp_40 (fun H_11 locs_11 hT_11 hU_11 hS_11 => ?_)
  refine lv_aload_n hx hb dX4_setUp_43 rfl (lv_at hl 0 rfl) ?_
  refine lv_bipush (v := (-4)) hx hb dX4_setUp_44 (by decide) ?_
  refine pf_X4_73 E hT_11 hS_11 ha0 ⟨_, ha0, by decide⟩ dX4_setUp_46 (fun H_12 locs_12 hT_12 hU_12 hS_12 => ?_)
  refine lv_aload_n hx hb dX4_setUp_49 rfl (lv_at hl 0 rfl) ?_
  refine lv_iconst (v := 0) hx hb dX4_setUp_50 (by decide) ?_
  refine pf_X4_76 E hT_12 hS_12 ha0 ⟨_, ha0, by decide⟩ dX4_setUp_51 (fun H_13 locs_13 hT_13 hU_13 hS_13 => ?_)
  have p_2 : fi D 1 0 H_2 a1 = fi D 1 0 H a1 := p_2
  exact th_vret E hr hlk hs hT_13 hS_13 (Eq.trans (fi_q (hU_13.2.2 _ (th_ne ha1 ha0 (by decide)))) (Eq.trans (fi_q (hU_12.2.2 _ (th_ne ha1 ha0 (by decide)))) (Eq.trans (fi_q (hU_11.2.2 _ (th_ne ha1 ha0 (by decide)))) (Eq.trans (fi_q (hk_10 _ (AT.out ha1 (by decide)))) (Eq.trans (fi_q (hk_8 _ (AT.out ha1 (by decide)))) (Eq.trans (fi_q (hU_6.2.2 _ (th_ne ha1 h_5 (by decide)))) (Eq.trans (fi_q (hk_4 _ (AT.out ha1 (by decide)))) p_2))))))) dX4_setUp_54
set_option maxHeartbeats 4000000 in
set_option maxRecDepth 100000 in
theorem e_lay (l : Launch) (D : va_G) (cI cS : ClassId) (τ : Nat → Option Nat) (ρ : Nat → Nat → Nat) (hW : WF τ ρ) (H : Heap) (hT : TH D cI cS τ ρ H) (a0 : Nat) (ha0 : τ a0 = some 11) (T : Nat → Int32) (n : Nat) (hX : TX D ρ T n H (ρ a0 0)) : MI l D cI cS τ ρ yX11_lay cX11_lay 1 (some .int) 5 115 H [.ref a0] (fun (r : Int32) (u : Heap) => r.toInt = lyv T n) (AT τ [0, 1, 2, 3, 4, 5, 7, 10]) := by
  refine MI.of (by decide) (Nat.le_of_ble_eq_true rfl) ?_
  intro p e s m args below meth c E hml hr hlk hs ls hl
  have hx := E.1
  have hb := E.2.1
  have hown := E.2.2.1
  have hts := E.2.2.2.1
  have hS : SS (AT τ [0, 1, 2, 3, 4, 5, 7, 10]) H H [] := SS.rf
  have hl : lv_has ls 1 [(0, .ref a0)] := hl
  refine lv_aload_n hx hb dX11_lay_0 rfl (lv_at hl 0 rfl) ?_
  refine gf_X11_19 E hT hW ha0 dX11_lay_1 (fun h_1 => ?_)
  refine lv_aload_n hx hb dX11_lay_4 rfl (lv_at hl 0 rfl) ?_
  refine gf_X11_10 E hT hW ha0 dX11_lay_5 (fun h_2 => ?_)
  refine th_Vi (As := [.ref (ρ a0 0)]) (rest := []) E hml hl.1 (e_read l D cI cS τ ρ hW H hT (ρ a0 1) (ρ a0 0) h_1 h_2 T n hX) lk_X11_54 yd_X1_read hT h_1 rfl (by decide) hS (AT.sub (by decide)) ⟨by decide, by decide⟩ (Nat.le_of_ble_eq_true rfl) ⟨by decide, by decide⟩ rfl dX11_lay_8 (fun r_3 H_3 locs_3 p_3 hT_3 hk_3 hS_3 => ?_)
  obtain ⟨p_3, v_3⟩ := p_3
  refine lv_bipush (v := (-4)) hx hb dX11_lay_11 (by decide) ?_
  refine lv_icmp_ne (tgt := 26) hx hb dX11_lay_13 (by decide) (fun c_4 => ?_) (fun c_4 => ?_)
  · have f_4 : ¬ r_3.toInt = -4 := r_ne rfl (by decide) c_4
    refine lv_bipush (v := (-2)) hx hb dX11_lay_26 (by decide) ?_
    exact th_iret E hr hlk hs hT_3 hS_3 (by rw [lyv_n (by omega)]; decide) dX11_lay_28
  · have f_4 : r_3.toInt = -4 := r_eq rfl (by decide) c_4
    have v_3 := v_3 (by omega)
    have b_3 := flt_bd (T := T) (n := n) (n + 1) 0 4 16 (by decide)
    refine lv_aload_n hx hb dX11_lay_16 rfl (lv_at hl 0 rfl) ?_
    refine gf_X11_19 E hT_3 hW ha0 dX11_lay_17 (fun h_5 => ?_)
    refine th_Vi (As := []) (rest := []) E hml hl.1 (e_hasRoom l D cI cS τ ρ hW H_3 hT_3 (ρ a0 1) h_5 (by omega)) lk_X11_58 yd_X1_hasRoom hT_3 h_5 rfl (by decide) hS_3 (AT.sub (by decide)) ⟨by decide, by decide⟩ (Nat.le_of_ble_eq_true rfl) ⟨by decide, by decide⟩ rfl dX11_lay_20 (fun r_6 H_6 locs_6 p_6 hT_6 hk_6 hS_6 => ?_)
    obtain ⟨p_6, i_6⟩ := p_6
    have z_6 := b_iv p_6
    refine lv_if_ne (tgt := 29) hx hb dX11_lay_23 (by decide) (fun c_7 => ?_) (fun c_7 => ?_)
    · have f_7 : ¬ r_6.toInt = 0 := r_ne rfl (by decide) c_7
      have nz_r_6 : ¬ r_6 = 0 := c_7
      refine lv_aload_n hx hb dX11_lay_29 rfl (lv_at hl 0 rfl) ?_
      refine gf_X11_26 E hT_6 hW ha0 dX11_lay_30 (fun h_8 => ?_)
      refine lv_aload_n hx hb dX11_lay_33 rfl (lv_at hl 0 rfl) ?_
      refine gf_X11_19 E hT_6 hW ha0 dX11_lay_34 (fun h_9 => ?_)
      refine th_Vv (As := [.ref (ρ a0 1)]) (rest := []) E hml hl.1 (e_setUp l D cI cS τ ρ hW H_6 hT_6 (ρ a0 2) (ρ a0 1) h_8 h_9) lk_X11_43 yd_X4_setUp hT_6 h_8 rfl (by decide) hS_6 (AT.sub (by decide)) ⟨by decide, by decide⟩ (Nat.le_of_ble_eq_true rfl) ⟨by decide, by decide⟩ rfl dX11_lay_37 (fun H_10 locs_10 p_10 hT_10 hk_10 hS_10 => ?_)
      have p_10 : fi D 1 0 H_10 (ρ a0 1) = fi D 1 0 H_6 (ρ a0 1) := p_10
      refine lv_aload_n hx hb dX11_lay_40 rfl (lv_at hl 0 rfl) ?_
      refine gf_X11_19 E hT_10 hW ha0 dX11_lay_41 (fun h_11 => ?_)
      refine gf_X11_62 E hT_10 h_11 dX11_lay_44 ?_
      refine lv_topi (fun x_12 ex_12 => ?_)
      have e_12 : x_12.toInt = (flt T n (n + 1) 0 4 16).2.1 := (congrArg Int32.toInt (ex_12.trans (p_10.trans (fi_q (hk_6 _ AT.nil))))).trans v_3.1
      have r61 : r_6.toInt = 1 := by omega
      have i6 := i_6.mp r61
      exact th_iret E hr hlk hs hT_10 hS_10 (by rw [lyv_y (by omega) (by omega)]; exact e_12) dX11_lay_47
    · have f_7 : r_6.toInt = 0 := r_eq rfl (by decide) c_7
      refine lv_bipush (v := (-2)) hx hb dX11_lay_26 (by decide) ?_
      have i6 := mt i_6.mpr (by omega)
      exact th_iret E hr hlk hs hT_6 hS_6 (by rw [lyv_n (by omega)]; decide) dX11_lay_28
set_option maxHeartbeats 4000000 in
set_option maxRecDepth 100000 in
theorem f_lay (l : Launch) (D : va_G) (cI cS : ClassId) (τ : Nat → Option Nat) (ρ : Nat → Nat → Nat) (hW : WF τ ρ) (H : Heap) (hT : TH D cI cS τ ρ H) (a0 : Nat) (ha0 : τ a0 = some 12) (N : Int) (hN0 : 0 ≤ N) (hN1 : N ≤ 600) (hI : IM D ρ N H a0) (T : Nat → Int32) (n : Nat) (hX : RX D ρ T n H a0) : MI l D cI cS τ ρ yX12_lay cX12_lay 1 (some .int) 5 113 H [.ref a0] (fun (r : Int32) (u : Heap) => IM D ρ N u a0 ∧ r.toInt = lyv T n ∧ fi D 12 5 u a0 = fi D 12 5 H a0) (fun q => q = a0 ∨ q = ρ a0 15 ∨ q = ρ a0 9 ∨ q = ρ a0 0) := by
  refine MI.of (by decide) (Nat.le_of_ble_eq_true rfl) ?_
  intro p e s m args below meth c E hml hr hlk hs ls hl
  have hx := E.1
  have hb := E.2.1
  have hown := E.2.2.1
  have hts := E.2.2.2.1
  have hS : SS (fun q => q = a0 ∨ q = ρ a0 15 ∨ q = ρ a0 9 ∨ q = ρ a0 0) H H [] := SS.rf
  have hl : lv_has ls 1 [(0, .ref a0)] := hl
  have n01 := hI.2.2.2.2.2.1
  have n23 := hI.2.2.2.2.2.2.1
  have bL5 : 0 ≤ (fi D 12 5 H a0).toInt ∧ (fi D 12 5 H a0).toInt ≤ 200 := IF.f5 hI.2.2.2.2.2
  refine lv_aload_n hx hb dX12_lay_0 rfl (lv_at hl 0 rfl) ?_
  refine th_Vi (As := []) (rest := []) E hml hl.1 (f_reads l D cI cS τ ρ hW H hT a0 ha0 T n hX) lk_X12_87 yd_X12_reads hT ha0 rfl (by decide) hS (fun q => (fun h => h.elim (fun h => (Or.inl h)) (fun h => (Or.inr (Or.inl h))))) ⟨by decide, by decide⟩ (Nat.le_of_ble_eq_true rfl) ⟨by decide, by decide⟩ rfl dX12_lay_1 (fun r_1 H_1 locs_1 p_1 hT_1 hk_1 hS_1 => ?_)
  obtain ⟨a_1, v_1, k_1⟩ := p_1
  have p_1_0 : IM D ρ N H_1 a0 := hI.fk (hk_1 _ (fun h => h.elim (th_ne (hW _ 12 0 ha0 (by decide) (by decide) (by decide)) ha0 (by decide)) (th_ne (hW _ 12 0 ha0 (by decide) (by decide) (by decide)) (hW _ 12 15 ha0 (by decide) (by decide) (by decide)) (by decide)))) (hk_1 _ (fun h => h.elim (th_ne (hW _ 12 2 ha0 (by decide) (by decide) (by decide)) ha0 (by decide)) (th_ne (hW _ 12 2 ha0 (by decide) (by decide) (by decide)) (hW _ 12 15 ha0 (by decide) (by decide) (by decide)) (by decide)))) (hk_1 _ (fun h => h.elim (th_ne (hW _ 12 3 ha0 (by decide) (by decide) (by decide)) ha0 (by decide)) (th_ne (hW _ 12 3 ha0 (by decide) (by decide) (by decide)) (hW _ 12 15 ha0 (by decide) (by decide) (by decide)) (by decide)))) k_1
  have p_1_1 : r_1.toInt = -4 → VB D H_1 a0 := fun q => (v_1 (by omega)).2.2
  have p_1_2 : fi D 12 5 H_1 a0 = fi D 12 5 H a0 := k_1 5 (by decide)
  refine lv_bipush (v := (-4)) hx hb dX12_lay_4 (by decide) ?_
  refine lv_icmp_ne (tgt := 22) hx hb dX12_lay_6 (by decide) (fun c_2 => ?_) (fun c_2 => ?_)
  · have f_2 : ¬ r_1.toInt = -4 := r_ne rfl (by decide) c_2
    refine lv_bipush (v := (-2)) hx hb dX12_lay_22 (by decide) ?_
    exact th_iret E hr hlk hs hT_1 hS_1 ⟨⟨p_1_0.1, p_1_0.2.1, p_1_0.2.2.1, p_1_0.2.2.2.1, p_1_0.2.2.2.2.1, p_1_0.2.2.2.2.2⟩, (by rw [lyv_n (by omega)]; decide), p_1_2⟩ dX12_lay_24
  · have f_2 : r_1.toInt = -4 := r_eq rfl (by decide) c_2
    have v_1 := v_1 (by omega)
    have p_1_1 := p_1_1 f_2
    unfold VB at p_1_1
    refine lv_aload_n hx hb dX12_lay_9 rfl (lv_at hl 0 rfl) ?_
    refine gf_X12_74 E hT_1 ha0 dX12_lay_10 ?_
    refine lv_topi (fun x_3 ex_3 => ?_)
    have e_3 : x_3.toInt = (fi D 12 13 H_1 a0).toInt := congrArg Int32.toInt ex_3
    refine lv_iconst (v := 2) hx hb dX12_lay_13 (by decide) ?_
    refine lv_aload_n hx hb dX12_lay_14 rfl (lv_at hl 0 rfl) ?_
    refine gf_X12_71 E hT_1 ha0 dX12_lay_15 ?_
    refine lv_topi (fun x_4 ex_4 => ?_)
    have e_4 : x_4.toInt = (fi D 12 12 H_1 a0).toInt := congrArg Int32.toInt ex_4
    refine lv_imul hx hb dX12_lay_18 ?_
    refine lv_topi (fun x_5 ex_5 => ?_)
    have e_5 : x_5.toInt = 2 * x_4.toInt := i_ml (x := 2) (a := 2) (by decide) rfl ex_5 (by omega) (by omega)
    refine lv_icmp_ge (tgt := 25) hx hb dX12_lay_19 (by decide) (fun c_6 => ?_) (fun c_6 => ?_)
    · have f_6 : x_5.toInt ≤ x_3.toInt := r_le rfl rfl c_6
      refine lv_aload_n hx hb dX12_lay_25 rfl (lv_at hl 0 rfl) ?_
      refine lv_aload_n hx hb dX12_lay_26 rfl (lv_at hl 0 rfl) ?_
      refine gf_X12_71 E hT_1 ha0 dX12_lay_27 ?_
      refine th_topi (y := x_4) ex_4.symm ?_
      refine pf_X12_25 E hT_1 hS_1 ha0 (Or.inl rfl) dX12_lay_30 (fun H_7 locs_7 hT_7 hU_7 hS_7 => ?_)
      refine lv_aload_n hx hb dX12_lay_33 rfl (lv_at hl 0 rfl) ?_
      refine lv_aload_n hx hb dX12_lay_34 rfl (lv_at hl 0 rfl) ?_
      refine gf_X12_74 E hT_7 ha0 dX12_lay_35 ?_
      refine th_topi (y := x_3) (Eq.trans (PU.io hU_7 (j := 13) (by decide) (by decide)) ex_3.symm) ?_
      refine pf_X12_29 E hT_7 hS_7 ha0 (Or.inl rfl) dX12_lay_38 (fun H_8 locs_8 hT_8 hU_8 hS_8 => ?_)
      refine lv_aload_n hx hb dX12_lay_41 rfl (lv_at hl 0 rfl) ?_
      refine lv_aload_n hx hb dX12_lay_42 rfl (lv_at hl 0 rfl) ?_
      refine gf_X12_77 E hT_8 ha0 dX12_lay_43 ?_
      refine th_topi (y := fi D 12 14 H_1 a0) (Eq.trans (PU.io hU_8 (j := 14) (by decide) (by decide)) (PU.io hU_7 (j := 14) (by decide) (by decide))) ?_
      refine lv_topi (fun x_9 ex_9 => ?_)
      have e_9 : x_9.toInt = (fi D 12 14 H_1 a0).toInt := congrArg Int32.toInt ex_9
      refine pf_X12_32 E hT_8 hS_8 ha0 (Or.inl rfl) dX12_lay_46 (fun H_10 locs_10 hT_10 hU_10 hS_10 => ?_)
      refine lv_aload_n hx hb dX12_lay_49 rfl (lv_at hl 0 rfl) ?_
      refine gf_X12_35 E hT_10 hW ha0 dX12_lay_50 (fun h_11 => ?_)
      refine lv_iconst (v := 0) hx hb dX12_lay_53 (by decide) ?_
      refine lv_aload_n hx hb dX12_lay_54 rfl (lv_at hl 0 rfl) ?_
      refine gf_X12_38 E hT_10 hW ha0 dX12_lay_55 (fun h_12 => ?_)
      refine lv_iconst (v := 0) hx hb dX12_lay_58 (by decide) ?_
      refine th_iald E hT_10 h_12 (by decide) (vp_in_iff.mpr ⟨by decide, by decide⟩) dX12_lay_59 ?_
      refine th_topi (y := ai H_10 (ρ a0 15) 0) rfl ?_
      refine th_topi (y := ai H_1 (ρ a0 15) 0) (Eq.trans (ai_q (hU_10.2.2 _ (th_ne (hW _ 12 15 ha0 (by decide) (by decide) (by decide)) ha0 (by decide)))) (Eq.trans (ai_q (hU_8.2.2 _ (th_ne (hW _ 12 15 ha0 (by decide) (by decide) (by decide)) ha0 (by decide)))) (ai_q (hU_7.2.2 _ (th_ne (hW _ 12 15 ha0 (by decide) (by decide) (by decide)) ha0 (by decide)))))) ?_
      refine lv_topi (fun x_13 ex_13 => ?_)
      refine th_iast E hT_10 hS_10 h_11 (Or.inr (Or.inr (Or.inl rfl))) (by decide) (vp_in_iff.mpr ⟨by decide, by decide⟩) dX12_lay_60 (fun H_14 locs_14 hT_14 hU_14 hS_14 => ?_)
      have hU_14 : AU 2 H_10 H_14 (ρ a0 9) 0 x_13 := hU_14
      refine lv_aload_n hx hb dX12_lay_61 rfl (lv_at hl 0 rfl) ?_
      refine gf_X12_35 E hT_14 hW ha0 dX12_lay_62 (fun h_15 => ?_)
      refine lv_iconst (v := 1) hx hb dX12_lay_65 (by decide) ?_
      refine lv_aload_n hx hb dX12_lay_66 rfl (lv_at hl 0 rfl) ?_
      refine gf_X12_38 E hT_14 hW ha0 dX12_lay_67 (fun h_16 => ?_)
      refine lv_iconst (v := 1) hx hb dX12_lay_70 (by decide) ?_
      refine th_iald E hT_14 h_16 (by decide) (vp_in_iff.mpr ⟨by decide, by decide⟩) dX12_lay_71 ?_
      refine th_topi (y := ai H_14 (ρ a0 15) 1) rfl ?_
      refine lv_topi (fun x_17 ex_17 => ?_)
      refine th_iast E hT_14 hS_14 h_15 (Or.inr (Or.inr (Or.inl rfl))) (by decide) (vp_in_iff.mpr ⟨by decide, by decide⟩) dX12_lay_72 (fun H_18 locs_18 hT_18 hU_18 hS_18 => ?_)
      have hU_18 : AU 2 H_14 H_18 (ρ a0 9) 1 x_17 := hU_18
      refine lv_aload_n hx hb dX12_lay_73 rfl (lv_at hl 0 rfl) ?_
      refine th_Vv (As := []) (rest := []) E hml hl.1 (y_begins l D cI cS τ ρ hW H_18 hT_18 a0 ha0 N hN0 hN1 ⟨(PW.q (hU_18.2 _ (th_ne (hW _ 12 0 ha0 (by decide) (by decide) (by decide)) (hW _ 12 9 ha0 (by decide) (by decide) (by decide)) (by decide))) (PW.q (hU_14.2 _ (th_ne (hW _ 12 0 ha0 (by decide) (by decide) (by decide)) (hW _ 12 9 ha0 (by decide) (by decide) (by decide)) (by decide))) (PW.q (hU_10.2.2 _ (th_ne (hW _ 12 0 ha0 (by decide) (by decide) (by decide)) ha0 (by decide))) (PW.q (hU_8.2.2 _ (th_ne (hW _ 12 0 ha0 (by decide) (by decide) (by decide)) ha0 (by decide))) (PW.q (hU_7.2.2 _ (th_ne (hW _ 12 0 ha0 (by decide) (by decide) (by decide)) ha0 (by decide))) p_1_0.1))))), (QS.same ((Eq.trans (ai_q (hU_18.2 _ (th_ne (hW _ 12 0 ha0 (by decide) (by decide) (by decide)) (hW _ 12 9 ha0 (by decide) (by decide) (by decide)) (by decide)))) (Eq.trans (ai_q (hU_14.2 _ (th_ne (hW _ 12 0 ha0 (by decide) (by decide) (by decide)) (hW _ 12 9 ha0 (by decide) (by decide) (by decide)) (by decide)))) (Eq.trans (ai_q (hU_10.2.2 _ (th_ne (hW _ 12 0 ha0 (by decide) (by decide) (by decide)) ha0 (by decide)))) (Eq.trans (ai_q (hU_8.2.2 _ (th_ne (hW _ 12 0 ha0 (by decide) (by decide) (by decide)) ha0 (by decide)))) (Eq.trans (ai_q (hU_7.2.2 _ (th_ne (hW _ 12 0 ha0 (by decide) (by decide) (by decide)) ha0 (by decide)))) (ai_q (hk_1 _ (fun h => h.elim (th_ne (hW _ 12 0 ha0 (by decide) (by decide) (by decide)) ha0 (by decide)) (th_ne (hW _ 12 0 ha0 (by decide) (by decide) (by decide)) (hW _ 12 15 ha0 (by decide) (by decide) (by decide)) (by decide)))))))))).trans (ai_q (hk_1 _ (fun h => h.elim (th_ne (hW _ 12 0 ha0 (by decide) (by decide) (by decide)) ha0 (by decide)) (th_ne (hW _ 12 0 ha0 (by decide) (by decide) (by decide)) (hW _ 12 15 ha0 (by decide) (by decide) (by decide)) (by decide))))).symm) ((Eq.trans (ai_q (hU_18.2 _ (th_ne (hW _ 12 0 ha0 (by decide) (by decide) (by decide)) (hW _ 12 9 ha0 (by decide) (by decide) (by decide)) (by decide)))) (Eq.trans (ai_q (hU_14.2 _ (th_ne (hW _ 12 0 ha0 (by decide) (by decide) (by decide)) (hW _ 12 9 ha0 (by decide) (by decide) (by decide)) (by decide)))) (Eq.trans (ai_q (hU_10.2.2 _ (th_ne (hW _ 12 0 ha0 (by decide) (by decide) (by decide)) ha0 (by decide)))) (Eq.trans (ai_q (hU_8.2.2 _ (th_ne (hW _ 12 0 ha0 (by decide) (by decide) (by decide)) ha0 (by decide)))) (Eq.trans (ai_q (hU_7.2.2 _ (th_ne (hW _ 12 0 ha0 (by decide) (by decide) (by decide)) ha0 (by decide)))) (ai_q (hk_1 _ (fun h => h.elim (th_ne (hW _ 12 0 ha0 (by decide) (by decide) (by decide)) ha0 (by decide)) (th_ne (hW _ 12 0 ha0 (by decide) (by decide) (by decide)) (hW _ 12 15 ha0 (by decide) (by decide) (by decide)) (by decide)))))))))).trans (ai_q (hk_1 _ (fun h => h.elim (th_ne (hW _ 12 0 ha0 (by decide) (by decide) (by decide)) ha0 (by decide)) (th_ne (hW _ 12 0 ha0 (by decide) (by decide) (by decide)) (hW _ 12 15 ha0 (by decide) (by decide) (by decide)) (by decide))))).symm) p_1_0.2.1), (QS.same ((Eq.trans (ai_q (hU_18.2 _ (th_ne (hW _ 12 0 ha0 (by decide) (by decide) (by decide)) (hW _ 12 9 ha0 (by decide) (by decide) (by decide)) (by decide)))) (Eq.trans (ai_q (hU_14.2 _ (th_ne (hW _ 12 0 ha0 (by decide) (by decide) (by decide)) (hW _ 12 9 ha0 (by decide) (by decide) (by decide)) (by decide)))) (Eq.trans (ai_q (hU_10.2.2 _ (th_ne (hW _ 12 0 ha0 (by decide) (by decide) (by decide)) ha0 (by decide)))) (Eq.trans (ai_q (hU_8.2.2 _ (th_ne (hW _ 12 0 ha0 (by decide) (by decide) (by decide)) ha0 (by decide)))) (Eq.trans (ai_q (hU_7.2.2 _ (th_ne (hW _ 12 0 ha0 (by decide) (by decide) (by decide)) ha0 (by decide)))) (ai_q (hk_1 _ (fun h => h.elim (th_ne (hW _ 12 0 ha0 (by decide) (by decide) (by decide)) ha0 (by decide)) (th_ne (hW _ 12 0 ha0 (by decide) (by decide) (by decide)) (hW _ 12 15 ha0 (by decide) (by decide) (by decide)) (by decide)))))))))).trans (ai_q (hk_1 _ (fun h => h.elim (th_ne (hW _ 12 0 ha0 (by decide) (by decide) (by decide)) ha0 (by decide)) (th_ne (hW _ 12 0 ha0 (by decide) (by decide) (by decide)) (hW _ 12 15 ha0 (by decide) (by decide) (by decide)) (by decide))))).symm) ((Eq.trans (ai_q (hU_18.2 _ (th_ne (hW _ 12 0 ha0 (by decide) (by decide) (by decide)) (hW _ 12 9 ha0 (by decide) (by decide) (by decide)) (by decide)))) (Eq.trans (ai_q (hU_14.2 _ (th_ne (hW _ 12 0 ha0 (by decide) (by decide) (by decide)) (hW _ 12 9 ha0 (by decide) (by decide) (by decide)) (by decide)))) (Eq.trans (ai_q (hU_10.2.2 _ (th_ne (hW _ 12 0 ha0 (by decide) (by decide) (by decide)) ha0 (by decide)))) (Eq.trans (ai_q (hU_8.2.2 _ (th_ne (hW _ 12 0 ha0 (by decide) (by decide) (by decide)) ha0 (by decide)))) (Eq.trans (ai_q (hU_7.2.2 _ (th_ne (hW _ 12 0 ha0 (by decide) (by decide) (by decide)) ha0 (by decide)))) (ai_q (hk_1 _ (fun h => h.elim (th_ne (hW _ 12 0 ha0 (by decide) (by decide) (by decide)) ha0 (by decide)) (th_ne (hW _ 12 0 ha0 (by decide) (by decide) (by decide)) (hW _ 12 15 ha0 (by decide) (by decide) (by decide)) (by decide)))))))))).trans (ai_q (hk_1 _ (fun h => h.elim (th_ne (hW _ 12 0 ha0 (by decide) (by decide) (by decide)) ha0 (by decide)) (th_ne (hW _ 12 0 ha0 (by decide) (by decide) (by decide)) (hW _ 12 15 ha0 (by decide) (by decide) (by decide)) (by decide))))).symm) p_1_0.2.2.1), (PL.q (hU_18.2 _ (th_ne (hW _ 12 2 ha0 (by decide) (by decide) (by decide)) (hW _ 12 9 ha0 (by decide) (by decide) (by decide)) (by decide))) (PL.q (hU_14.2 _ (th_ne (hW _ 12 2 ha0 (by decide) (by decide) (by decide)) (hW _ 12 9 ha0 (by decide) (by decide) (by decide)) (by decide))) (PL.q (hU_10.2.2 _ (th_ne (hW _ 12 2 ha0 (by decide) (by decide) (by decide)) ha0 (by decide))) (PL.q (hU_8.2.2 _ (th_ne (hW _ 12 2 ha0 (by decide) (by decide) (by decide)) ha0 (by decide))) (PL.q (hU_7.2.2 _ (th_ne (hW _ 12 2 ha0 (by decide) (by decide) (by decide)) ha0 (by decide))) p_1_0.2.2.2.1))))), (PL.q (hU_18.2 _ (th_ne (hW _ 12 3 ha0 (by decide) (by decide) (by decide)) (hW _ 12 9 ha0 (by decide) (by decide) (by decide)) (by decide))) (PL.q (hU_14.2 _ (th_ne (hW _ 12 3 ha0 (by decide) (by decide) (by decide)) (hW _ 12 9 ha0 (by decide) (by decide) (by decide)) (by decide))) (PL.q (hU_10.2.2 _ (th_ne (hW _ 12 3 ha0 (by decide) (by decide) (by decide)) ha0 (by decide))) (PL.q (hU_8.2.2 _ (th_ne (hW _ 12 3 ha0 (by decide) (by decide) (by decide)) ha0 (by decide))) (PL.q (hU_7.2.2 _ (th_ne (hW _ 12 3 ha0 (by decide) (by decide) (by decide)) ha0 (by decide))) p_1_0.2.2.2.2.1))))), (IF.q (hU_18.2 _ (th_ne ha0 (hW _ 12 9 ha0 (by decide) (by decide) (by decide)) (by decide))) (IF.q (hU_14.2 _ (th_ne ha0 (hW _ 12 9 ha0 (by decide) (by decide) (by decide)) (by decide))) (IF.put8 (IF.put7 (IF.put6 p_1_0.2.2.2.2.2 hU_7 (by omega)) hU_8 (by omega)) hU_10 (by omega))))⟩) lk_X12_41 yd_X12_begins hT_18 ha0 rfl (by decide) hS_18 (fun q h => (Or.inr (Or.inr (Or.inr h)))) ⟨by decide, by decide⟩ (Nat.le_of_ble_eq_true rfl) ⟨by decide, by decide⟩ rfl dX12_lay_74 (fun H_19 locs_19 p_19 hT_19 hk_19 hS_19 => ?_)
      have p_19 : (IM D ρ N H_19 a0) := p_19
      refine lv_aload_n hx hb dX12_lay_77 rfl (lv_at hl 0 rfl) ?_
      refine gf_X12_25 E hT_19 ha0 dX12_lay_78 ?_
      refine th_topi (y := x_4) (Eq.trans (fi_q (hk_19 _ (th_ne ha0 (hW _ 12 0 ha0 (by decide) (by decide) (by decide)) (by decide)))) (Eq.trans (fi_q (hU_18.2 _ (th_ne ha0 (hW _ 12 9 ha0 (by decide) (by decide) (by decide)) (by decide)))) (Eq.trans (fi_q (hU_14.2 _ (th_ne ha0 (hW _ 12 9 ha0 (by decide) (by decide) (by decide)) (by decide)))) (Eq.trans (PU.io hU_10 (j := 6) (by decide) (by decide)) (Eq.trans (PU.io hU_8 (j := 6) (by decide) (by decide)) (PU.i hU_7)))))) ?_
      exact th_iret E hr hlk hs hT_19 hS_19 ⟨⟨p_19.1, p_19.2.1, p_19.2.2.1, p_19.2.2.2.1, p_19.2.2.2.2.1, p_19.2.2.2.2.2⟩, (by rw [lyv_y (by omega) (by omega)]; omega), (Eq.trans (fi_q (hk_19 _ (th_ne ha0 (hW _ 12 0 ha0 (by decide) (by decide) (by decide)) (by decide)))) (Eq.trans (fi_q (hU_18.2 _ (th_ne ha0 (hW _ 12 9 ha0 (by decide) (by decide) (by decide)) (by decide)))) (Eq.trans (fi_q (hU_14.2 _ (th_ne ha0 (hW _ 12 9 ha0 (by decide) (by decide) (by decide)) (by decide)))) (Eq.trans (PU.io hU_10 (j := 5) (by decide) (by decide)) (Eq.trans (PU.io hU_8 (j := 5) (by decide) (by decide)) (Eq.trans (PU.io hU_7 (j := 5) (by decide) (by decide)) p_1_2))))))⟩ dX12_lay_81
    · have f_6 : x_3.toInt < x_5.toInt := r_nle rfl rfl c_6
      refine lv_bipush (v := (-2)) hx hb dX12_lay_22 (by decide) ?_
      exact th_iret E hr hlk hs hT_1 hS_1 ⟨⟨p_1_0.1, p_1_0.2.1, p_1_0.2.2.1, p_1_0.2.2.2.1, p_1_0.2.2.2.2.1, p_1_0.2.2.2.2.2⟩, (by rw [lyv_n (by omega)]; decide), p_1_2⟩ dX12_lay_24
