/-! contracts of the class on a fresh object (written by wip/gen) -/
set_option maxHeartbeats 4000000 in
set_option maxRecDepth 100000 in
/-- StreamEnds.write -/
theorem c_X11_write (l : Launch) (D : va_G) (cI cS : ClassId) (τ : Nat → Option Nat) (ρ : Nat → Nat → Nat) (hW : WF τ ρ) (H : Heap) (hT : TH D cI cS τ ρ H) (a0 : Nat) (x0 : Int32) (ha0 : τ a0 = some 11) (bh_x0 : x0.toInt ≤ 31) : MI l D cI cS τ ρ yX11_write cX11_write 2 (some .int) 0 0 H [.ref a0, .int x0] (fun (r : Int32) (u : Heap) => H = u ∧ (-1) = r) (fun q => False) := by
  refine MI.of (by decide) (Nat.le_of_ble_eq_true rfl) ?_
  intro p e s m args below meth c E hml hr hlk hs ls hl
  have hx := E.1
  have hb := E.2.1
  have hown := E.2.2.1
  have hts := E.2.2.2.1
  have hS : SS (fun q => False) H H [] := SS.rf
  have hl : lv_has ls 2 [(0, .ref a0), (1, .int x0)] := hl
  refine lv_iload_n hx hb dX11_write_0 rfl (lv_at hl 1 rfl) ?_
  refine lv_bipush (v := 32) hx hb dX11_write_1 (by decide) ?_
  refine lv_icmp_lt (tgt := 12) hx hb dX11_write_3 (by decide) (fun c_1 => ?_) (fun c_1 => False.elim (by (have : (32 : Int32).toInt = 32 := (by decide); have : ¬ x0.toInt < (32 : Int32).toInt := fun q => c_1 (Int32.lt_iff_toInt_lt.mpr q); omega)))
  refine lv_iconst (v := (-1)) hx hb dX11_write_12 (by decide) ?_
  exact th_iret E hr hlk hs hT hS ⟨rfl, rfl⟩ dX11_write_13
set_option maxHeartbeats 4000000 in
set_option maxRecDepth 100000 in
/-- StreamEnds$Text.append -/
theorem c_X9_append (l : Launch) (D : va_G) (cI cS : ClassId) (τ : Nat → Option Nat) (ρ : Nat → Nat → Nat) (hW : WF τ ρ) (H : Heap) (hT : TH D cI cS τ ρ H) (a0 : Nat) (x0 : Int32) (ha0 : τ a0 = some 9) (bl_x0 : 32 ≤ x0.toInt) (bh_x0 : x0.toInt ≤ 126) (hf_1 : fi D 9 1 H a0 = 0) : MI l D cI cS τ ρ yX9_append cX9_append 2 (some .boolean) 0 0 H [.ref a0, .int x0] (fun (r : Int32) (u : Heap) => 1 = r ∧ ai u (ρ a0 0) 0 = x0 ∧ fi D 9 1 u a0 = 1 ∧ (∀ j, j < 200 → ai u (ρ a0 0) j = if j = 0 then x0 else ai H (ρ a0 0) j)) (fun q => q = ρ a0 0 ∨ q = a0) := by
  refine MI.of (by decide) (Nat.le_of_ble_eq_true rfl) ?_
  intro p e s m args below meth c E hml hr hlk hs ls hl
  have hx := E.1
  have hb := E.2.1
  have hown := E.2.2.1
  have hts := E.2.2.2.1
  have hS : SS (fun q => q = ρ a0 0 ∨ q = a0) H H [] := SS.rf
  have hl : lv_has ls 2 [(0, .ref a0), (1, .int x0)] := hl
  refine lv_aload_n hx hb dX9_append_0 rfl (lv_at hl 0 rfl) ?_
  refine gf_X9_15 E hT ha0 dX9_append_1 ?_
  refine th_topi (y := 0) hf_1 ?_
  refine lv_if_lt (tgt := 17) hx hb dX9_append_4 (by decide) (fun c_1 => absurd c_1 (by decide)) (fun c_1 => ?_)
  refine lv_aload_n hx hb dX9_append_7 rfl (lv_at hl 0 rfl) ?_
  refine gf_X9_15 E hT ha0 dX9_append_8 ?_
  refine th_topi (y := 0) hf_1 ?_
  refine lv_sipush (v := 200) hx hb dX9_append_11 (by decide) ?_
  refine lv_icmp_lt (tgt := 19) hx hb dX9_append_14 (by decide) (fun c_2 => ?_) (fun c_2 => absurd (by decide) c_2)
  refine lv_aload_n hx hb dX9_append_19 rfl (lv_at hl 0 rfl) ?_
  refine gf_X9_9 E hT hW ha0 dX9_append_20 (fun h_3 => ?_)
  refine lv_aload_n hx hb dX9_append_23 rfl (lv_at hl 0 rfl) ?_
  refine gf_X9_15 E hT ha0 dX9_append_24 ?_
  refine th_topi (y := 0) hf_1 ?_
  refine lv_iload_n hx hb dX9_append_27 rfl (lv_at hl 1 rfl) ?_
  refine th_iast E hT hS h_3 (Or.inl rfl) (by decide) (vp_in_iff.mpr ⟨by decide, by decide⟩) dX9_append_28 (fun H_4 locs_4 hT_4 hU_4 hS_4 => ?_)
  have hU_4 : AU 200 H H_4 (ρ a0 0) 0 x0 := hU_4
  refine lv_aload_n hx hb dX9_append_29 rfl (lv_at hl 0 rfl) ?_
  refine lv_dup hx hb dX9_append_30 rfl ?_
  refine gf_X9_15 E hT_4 ha0 dX9_append_31 ?_
  refine th_topi (y := 0) (Eq.trans (fi_q (hU_4.2 _ (th_ne ha0 h_3 (by decide)))) hf_1) ?_
  refine lv_iconst (v := 1) hx hb dX9_append_34 (by decide) ?_
  refine lv_iadd hx hb dX9_append_35 ?_
  refine th_topi (y := 1) (by decide) ?_
  refine pf_X9_15 E hT_4 hS_4 ha0 (Or.inr rfl) dX9_append_36 (fun H_5 locs_5 hT_5 hU_5 hS_5 => ?_)
  refine lv_iconst (v := 1) hx hb dX9_append_39 (by decide) ?_
  exact th_zret E hr hlk hs (Or.inr rfl) hT_5 hS_5 ⟨rfl, (Eq.trans (ai_q (hU_5.2.2 _ (th_ne h_3 ha0 (by decide)))) (AU.s hU_4 (by decide))), (PU.i hU_5), (fun j hj => by rw [ai_q (hU_5.2.2 _ (th_ne h_3 ha0 (by decide))), hU_4.1 j hj])⟩ dX9_append_40
set_option maxHeartbeats 4000000 in
set_option maxRecDepth 100000 in
/-- StreamEnds.write -/
theorem c_X11_write_v2 (l : Launch) (D : va_G) (cI cS : ClassId) (τ : Nat → Option Nat) (ρ : Nat → Nat → Nat) (hW : WF τ ρ) (H : Heap) (hT : TH D cI cS τ ρ H) (a0 : Nat) (x0 : Int32) (ha0 : τ a0 = some 11) (bl_x0 : 32 ≤ x0.toInt) (bh_x0 : x0.toInt ≤ 126) (hf_1 : fi D 9 1 H (ρ a0 0) = 0) : MI l D cI cS τ ρ yX11_write cX11_write 2 (some .int) 1 21 H [.ref a0, .int x0] (fun (r : Int32) (u : Heap) => 1 = r ∧ fi D 9 1 u (ρ a0 0) = 1 ∧ ai u (ρ (ρ a0 0) 0) 0 = x0 ∧ (∀ j, j < 200 → ai u (ρ (ρ a0 0) 0) j = if j = 0 then x0 else ai H (ρ (ρ a0 0) 0) j)) (fun q => q = ρ (ρ a0 0) 0 ∨ q = ρ a0 0) := by
  refine MI.of (by decide) (Nat.le_of_ble_eq_true rfl) ?_
  intro p e s m args below meth c E hml hr hlk hs ls hl
  have hx := E.1
  have hb := E.2.1
  have hown := E.2.2.1
  have hts := E.2.2.2.1
  have hS : SS (fun q => q = ρ (ρ a0 0) 0 ∨ q = ρ a0 0) H H [] := SS.rf
  have hl : lv_has ls 2 [(0, .ref a0), (1, .int x0)] := hl
  refine lv_iload_n hx hb dX11_write_0 rfl (lv_at hl 1 rfl) ?_
  refine lv_bipush (v := 32) hx hb dX11_write_1 (by decide) ?_
  refine lv_icmp_lt (tgt := 12) hx hb dX11_write_3 (by decide) (fun c_1 => False.elim (by (have : (32 : Int32).toInt = 32 := (by decide); have : x0.toInt < (32 : Int32).toInt := Int32.lt_iff_toInt_lt.mp c_1; omega))) (fun c_1 => ?_)
  refine lv_iload_n hx hb dX11_write_6 rfl (lv_at hl 1 rfl) ?_
  refine lv_bipush (v := 126) hx hb dX11_write_7 (by decide) ?_
  refine lv_icmp_le (tgt := 14) hx hb dX11_write_9 (by decide) (fun c_2 => ?_) (fun c_2 => False.elim (by (have : (126 : Int32).toInt = 126 := (by decide); have : ¬ x0.toInt ≤ (126 : Int32).toInt := fun q => c_2 (Int32.le_iff_toInt_le.mpr q); omega)))
  refine lv_aload_n hx hb dX11_write_14 rfl (lv_at hl 0 rfl) ?_
  refine gf_X11_10 E hT hW ha0 dX11_write_15 (fun h_3 => ?_)
  refine lv_iload_n hx hb dX11_write_18 rfl (lv_at hl 1 rfl) ?_
  refine th_Vi (As := [.int x0]) (rest := []) E hml hl.1 (c_X9_append l D cI cS τ ρ hW H hT (ρ a0 0) x0 h_3 (by (omega)) (by (omega)) hf_1) lk_X11_47 yd_X9_append hT h_3 rfl (by decide) hS (fun q => (fun h => h.elim (fun h => (Or.inl h)) (fun h => (Or.inr h)))) ⟨by decide, by decide⟩ (Nat.le_of_ble_eq_true rfl) ⟨by decide, by decide⟩ rfl dX11_write_19 (fun r_4 H_4 locs_4 p_4 hT_4 hk_4 hS_4 => ?_)
  have p_4 : 1 = r_4 ∧ ai H_4 (ρ (ρ a0 0) 0) 0 = x0 ∧ fi D 9 1 H_4 (ρ a0 0) = 1 ∧ (∀ j, j < 200 → ai H_4 (ρ (ρ a0 0) 0) j = if j = 0 then x0 else ai H (ρ (ρ a0 0) 0) j) := p_4
  obtain ⟨rfl, p_4_1, p_4_2, p_4_3⟩ := p_4
  refine lv_if_eq (tgt := 35) hx hb dX11_write_22 (by decide) (fun c_5 => absurd c_5 (by decide)) (fun c_5 => ?_)
  refine lv_aload_n hx hb dX11_write_25 rfl (lv_at hl 0 rfl) ?_
  refine gf_X11_10 E hT_4 hW ha0 dX11_write_26 (fun h_6 => ?_)
  refine gf_X11_51 E hT_4 h_3 dX11_write_29 ?_
  refine th_topi (y := 1) p_4_2 ?_
  refine lv_goto (tgt := 37) hx hb dX11_write_32 (by decide) ?_
  exact th_iret E hr hlk hs hT_4 hS_4 ⟨rfl, p_4_2, p_4_1, (fun j hj => by rw [p_4_3 j hj])⟩ dX11_write_37
set_option maxHeartbeats 4000000 in
set_option maxRecDepth 100000 in
/-- StreamEnds.write -/
theorem c_X11_write_v3 (l : Launch) (D : va_G) (cI cS : ClassId) (τ : Nat → Option Nat) (ρ : Nat → Nat → Nat) (hW : WF τ ρ) (H : Heap) (hT : TH D cI cS τ ρ H) (a0 : Nat) (x0 : Int32) (ha0 : τ a0 = some 11) (bl_x0 : 127 ≤ x0.toInt) : MI l D cI cS τ ρ yX11_write cX11_write 2 (some .int) 0 0 H [.ref a0, .int x0] (fun (r : Int32) (u : Heap) => H = u ∧ (-1) = r) (fun q => False) := by
  refine MI.of (by decide) (Nat.le_of_ble_eq_true rfl) ?_
  intro p e s m args below meth c E hml hr hlk hs ls hl
  have hx := E.1
  have hb := E.2.1
  have hown := E.2.2.1
  have hts := E.2.2.2.1
  have hS : SS (fun q => False) H H [] := SS.rf
  have hl : lv_has ls 2 [(0, .ref a0), (1, .int x0)] := hl
  refine lv_iload_n hx hb dX11_write_0 rfl (lv_at hl 1 rfl) ?_
  refine lv_bipush (v := 32) hx hb dX11_write_1 (by decide) ?_
  refine lv_icmp_lt (tgt := 12) hx hb dX11_write_3 (by decide) (fun c_1 => False.elim (by (have : (32 : Int32).toInt = 32 := (by decide); have : x0.toInt < (32 : Int32).toInt := Int32.lt_iff_toInt_lt.mp c_1; omega))) (fun c_1 => ?_)
  refine lv_iload_n hx hb dX11_write_6 rfl (lv_at hl 1 rfl) ?_
  refine lv_bipush (v := 126) hx hb dX11_write_7 (by decide) ?_
  refine lv_icmp_le (tgt := 14) hx hb dX11_write_9 (by decide) (fun c_2 => False.elim (by (have : (126 : Int32).toInt = 126 := (by decide); have : x0.toInt ≤ (126 : Int32).toInt := Int32.le_iff_toInt_le.mp c_2; omega))) (fun c_2 => ?_)
  refine lv_iconst (v := (-1)) hx hb dX11_write_12 (by decide) ?_
  exact th_iret E hr hlk hs hT hS ⟨rfl, rfl⟩ dX11_write_13
set_option maxHeartbeats 4000000 in
set_option maxRecDepth 100000 in
/-- StreamEnds.wipe -/
theorem c_X11_wipe (l : Launch) (D : va_G) (cI cS : ClassId) (τ : Nat → Option Nat) (ρ : Nat → Nat → Nat) (hW : WF τ ρ) (H : Heap) (hT : TH D cI cS τ ρ H) (a0 : Nat) (ha0 : τ a0 = some 11) (hf_1 : fi D 9 1 H (ρ a0 0) = 0) : MI l D cI cS τ ρ yX11_wipe cX11_wipe 2 (some .int) 0 0 H [.ref a0] (fun (r : Int32) (u : Heap) => 0 = r ∧ fi D 9 1 u (ρ a0 0) = 0) (fun q => q = ρ a0 0) := by
  refine MI.of (by decide) (Nat.le_of_ble_eq_true rfl) ?_
  intro p e s m args below meth c E hml hr hlk hs ls hl
  have hx := E.1
  have hb := E.2.1
  have hown := E.2.2.1
  have hts := E.2.2.2.1
  have hS : SS (fun q => q = ρ a0 0) H H [] := SS.rf
  have hl : lv_has ls 2 [(0, .ref a0)] := hl
  refine lv_aload_n hx hb dX11_wipe_0 rfl (lv_at hl 0 rfl) ?_
  refine gf_X11_10 E hT hW ha0 dX11_wipe_1 (fun h_1 => ?_)
  refine gf_X11_51 E hT h_1 dX11_wipe_4 ?_
  refine th_topi (y := 0) hf_1 ?_
  refine lv_istore_n (lv' := [(1, .int 0), (0, .ref a0)]) hx hb dX11_wipe_7 rfl hl (by decide) rfl (fun ls hl => ?_)
  refine lv_aload_n hx hb dX11_wipe_8 rfl (lv_at hl 1 rfl) ?_
  refine gf_X11_10 E hT hW ha0 dX11_wipe_9 (fun h_2 => ?_)
  refine lv_iconst (v := 0) hx hb dX11_wipe_12 (by decide) ?_
  refine pf_X11_51 E hT hS h_1 rfl dX11_wipe_13 (fun H_3 locs_3 hT_3 hU_3 hS_3 => ?_)
  refine lv_iload_n hx hb dX11_wipe_16 rfl (lv_at hl 0 rfl) ?_
  exact th_iret E hr hlk hs hT_3 hS_3 ⟨rfl, (PU.i hU_3)⟩ dX11_wipe_17
set_option maxHeartbeats 4000000 in
set_option maxRecDepth 100000 in
/-- StreamEnds$Config.setDefaults -/
theorem c_X1_setDefaults (l : Launch) (D : va_G) (cI cS : ClassId) (τ : Nat → Option Nat) (ρ : Nat → Nat → Nat) (hW : WF τ ρ) (H : Heap) (hT : TH D cI cS τ ρ H) (a0 : Nat) (ha0 : τ a0 = some 1) : MV l D cI cS τ ρ yX1_setDefaults cX1_setDefaults 1 none 0 0 H [.ref a0] (fun (u : Heap) => fi D 1 0 u a0 = 4 ∧ fi D 1 1 u a0 = 16 ∧ fi D 1 2 u a0 = 0 ∧ fi D 1 3 u a0 = 0 ∧ fi D 1 4 u a0 = 5) (fun q => q = a0) := by
  refine MV.of (by decide) (Nat.le_of_ble_eq_true rfl) ?_
  intro p e s m args below meth c E hml hr hlk hs ls hl
  have hx := E.1
  have hb := E.2.1
  have hown := E.2.2.1
  have hts := E.2.2.2.1
  have hS : SS (fun q => q = a0) H H [] := SS.rf
  have hl : lv_has ls 1 [(0, .ref a0)] := hl
  refine lv_aload_n hx hb dX1_setDefaults_0 rfl (lv_at hl 0 rfl) ?_
  refine lv_iconst (v := 4) hx hb dX1_setDefaults_1 (by decide) ?_
  refine pf_X1_14 E hT hS ha0 rfl dX1_setDefaults_2 (fun H_1 locs_1 hT_1 hU_1 hS_1 => ?_)
  refine lv_aload_n hx hb dX1_setDefaults_5 rfl (lv_at hl 0 rfl) ?_
  refine lv_bipush (v := 16) hx hb dX1_setDefaults_6 (by decide) ?_
  refine pf_X1_18 E hT_1 hS_1 ha0 rfl dX1_setDefaults_8 (fun H_2 locs_2 hT_2 hU_2 hS_2 => ?_)
  refine lv_aload_n hx hb dX1_setDefaults_11 rfl (lv_at hl 0 rfl) ?_
  refine lv_iconst (v := 0) hx hb dX1_setDefaults_12 (by decide) ?_
  refine pf_X1_21 E hT_2 hS_2 ha0 rfl dX1_setDefaults_13 (fun H_3 locs_3 hT_3 hU_3 hS_3 => ?_)
  refine lv_aload_n hx hb dX1_setDefaults_16 rfl (lv_at hl 0 rfl) ?_
  refine lv_iconst (v := 0) hx hb dX1_setDefaults_17 (by decide) ?_
  refine pf_X1_24 E hT_3 hS_3 ha0 rfl dX1_setDefaults_18 (fun H_4 locs_4 hT_4 hU_4 hS_4 => ?_)
  refine lv_aload_n hx hb dX1_setDefaults_21 rfl (lv_at hl 0 rfl) ?_
  refine lv_iconst (v := 5) hx hb dX1_setDefaults_22 (by decide) ?_
  refine pf_X1_27 E hT_4 hS_4 ha0 rfl dX1_setDefaults_23 (fun H_5 locs_5 hT_5 hU_5 hS_5 => ?_)
  exact th_vret E hr hlk hs hT_5 hS_5 ⟨(Eq.trans (PU.io hU_5 (j := 0) (by decide) (by decide)) (Eq.trans (PU.io hU_4 (j := 0) (by decide) (by decide)) (Eq.trans (PU.io hU_3 (j := 0) (by decide) (by decide)) (Eq.trans (PU.io hU_2 (j := 0) (by decide) (by decide)) (PU.i hU_1))))), (Eq.trans (PU.io hU_5 (j := 1) (by decide) (by decide)) (Eq.trans (PU.io hU_4 (j := 1) (by decide) (by decide)) (Eq.trans (PU.io hU_3 (j := 1) (by decide) (by decide)) (PU.i hU_2)))), (Eq.trans (PU.io hU_5 (j := 2) (by decide) (by decide)) (Eq.trans (PU.io hU_4 (j := 2) (by decide) (by decide)) (PU.i hU_3))), (Eq.trans (PU.io hU_5 (j := 3) (by decide) (by decide)) (PU.i hU_4)), (PU.i hU_5)⟩ dX1_setDefaults_26
set_option maxHeartbeats 4000000 in
set_option maxRecDepth 100000 in
/-- StreamEnds$Config.read -/
theorem c_X1_read (l : Launch) (D : va_G) (cI cS : ClassId) (τ : Nat → Option Nat) (ρ : Nat → Nat → Nat) (hW : WF τ ρ) (H : Heap) (hT : TH D cI cS τ ρ H) (a0 : Nat) (a1 : Nat) (ha0 : τ a0 = some 1) (ha1 : τ a1 = some 9) (hf_1 : fi D 9 1 H a1 = 0) : MI l D cI cS τ ρ yX1_read cX1_read 4 (some .int) 1 20 H [.ref a0, .ref a1] (fun (r : Int32) (u : Heap) => (-4) = r ∧ fi D 1 4 u a0 = 5 ∧ fi D 1 3 u a0 = 0 ∧ fi D 1 2 u a0 = 0 ∧ fi D 1 1 u a0 = 16 ∧ fi D 1 0 u a0 = 4) (fun q => q = a0) := by
  refine MI.of (by decide) (Nat.le_of_ble_eq_true rfl) ?_
  intro p e s m args below meth c E hml hr hlk hs ls hl
  have hx := E.1
  have hb := E.2.1
  have hown := E.2.2.1
  have hts := E.2.2.2.1
  have hS : SS (fun q => q = a0) H H [] := SS.rf
  have hl : lv_has ls 4 [(0, .ref a0), (1, .ref a1)] := hl
  refine lv_aload_n hx hb dX1_read_0 rfl (lv_at hl 0 rfl) ?_
  refine th_Vv (As := []) (rest := []) E hml hl.1 (c_X1_setDefaults l D cI cS τ ρ hW H hT a0 ha0) lk_X1_9 yd_X1_setDefaults hT ha0 rfl (by decide) hS (fun q h => h) ⟨by decide, by decide⟩ (Nat.le_of_ble_eq_true rfl) ⟨by decide, by decide⟩ rfl dX1_read_1 (fun H_1 locs_1 p_1 hT_1 hk_1 hS_1 => ?_)
  have p_1 : fi D 1 0 H_1 a0 = 4 ∧ fi D 1 1 H_1 a0 = 16 ∧ fi D 1 2 H_1 a0 = 0 ∧ fi D 1 3 H_1 a0 = 0 ∧ fi D 1 4 H_1 a0 = 5 := p_1
  obtain ⟨p_1_0, p_1_1, p_1_2, p_1_3, p_1_4⟩ := p_1
  refine lv_iconst (v := 0) hx hb dX1_read_4 (by decide) ?_
  refine lv_istore_n (lv' := [(2, .int 0), (0, .ref a0), (1, .ref a1)]) hx hb dX1_read_5 rfl hl (by decide) rfl (fun ls hl => ?_)
  refine lv_iload_n hx hb dX1_read_6 rfl (lv_at hl 0 rfl) ?_
  refine lv_aload_n hx hb dX1_read_7 rfl (lv_at hl 2 rfl) ?_
  refine gf_X1_30 E hT_1 ha1 dX1_read_8 ?_
  refine th_topi (y := 0) (Eq.trans (fi_q (hk_1 _ (th_ne ha1 ha0 (by decide)))) hf_1) ?_
  refine lv_icmp_ge (tgt := 33) hx hb dX1_read_11 (by decide) (fun c_2 => ?_) (fun c_2 => absurd (by decide) c_2)
  refine lv_bipush (v := (-4)) hx hb dX1_read_33 (by decide) ?_
  exact th_iret E hr hlk hs hT_1 hS_1 ⟨rfl, p_1_4, p_1_3, p_1_2, p_1_1, p_1_0⟩ dX1_read_35
set_option maxHeartbeats 4000000 in
set_option maxRecDepth 100000 in
/-- StreamEnds.fault -/
theorem c_X11_fault (l : Launch) (D : va_G) (cI cS : ClassId) (τ : Nat → Option Nat) (ρ : Nat → Nat → Nat) (hW : WF τ ρ) (H : Heap) (hT : TH D cI cS τ ρ H) (a0 : Nat) (ha0 : τ a0 = some 11) (hf_1 : fi D 9 1 H (ρ a0 0) = 0) : MI l D cI cS τ ρ yX11_fault cX11_fault 1 (some .int) 2 43 H [.ref a0] (fun (r : Int32) (u : Heap) => (-4) = r ∧ fi D 1 0 u (ρ a0 1) = 4 ∧ fi D 1 1 u (ρ a0 1) = 16 ∧ fi D 1 2 u (ρ a0 1) = 0 ∧ fi D 1 3 u (ρ a0 1) = 0 ∧ fi D 1 4 u (ρ a0 1) = 5) (fun q => q = ρ a0 1) := by
  refine MI.of (by decide) (Nat.le_of_ble_eq_true rfl) ?_
  intro p e s m args below meth c E hml hr hlk hs ls hl
  have hx := E.1
  have hb := E.2.1
  have hown := E.2.2.1
  have hts := E.2.2.2.1
  have hS : SS (fun q => q = ρ a0 1) H H [] := SS.rf
  have hl : lv_has ls 1 [(0, .ref a0)] := hl
  refine lv_aload_n hx hb dX11_fault_0 rfl (lv_at hl 0 rfl) ?_
  refine gf_X11_19 E hT hW ha0 dX11_fault_1 (fun h_1 => ?_)
  refine lv_aload_n hx hb dX11_fault_4 rfl (lv_at hl 0 rfl) ?_
  refine gf_X11_10 E hT hW ha0 dX11_fault_5 (fun h_2 => ?_)
  refine th_Vi (As := [.ref (ρ a0 0)]) (rest := []) E hml hl.1 (c_X1_read l D cI cS τ ρ hW H hT (ρ a0 1) (ρ a0 0) h_1 h_2 hf_1) lk_X11_54 yd_X1_read hT h_1 rfl (by decide) hS (fun q h => h) ⟨by decide, by decide⟩ (Nat.le_of_ble_eq_true rfl) ⟨by decide, by decide⟩ rfl dX11_fault_8 (fun r_3 H_3 locs_3 p_3 hT_3 hk_3 hS_3 => ?_)
  have p_3 : (-4) = r_3 ∧ fi D 1 4 H_3 (ρ a0 1) = 5 ∧ fi D 1 3 H_3 (ρ a0 1) = 0 ∧ fi D 1 2 H_3 (ρ a0 1) = 0 ∧ fi D 1 1 H_3 (ρ a0 1) = 16 ∧ fi D 1 0 H_3 (ρ a0 1) = 4 := p_3
  obtain ⟨rfl, p_3_1, p_3_2, p_3_3, p_3_4, p_3_5⟩ := p_3
  exact th_iret E hr hlk hs hT_3 hS_3 ⟨rfl, p_3_5, p_3_4, p_3_3, p_3_2, p_3_1⟩ dX11_fault_11
set_option maxHeartbeats 4000000 in
set_option maxRecDepth 100000 in
/-- StreamEnds$Config.hasRoom -/
theorem c_X1_hasRoom (l : Launch) (D : va_G) (cI cS : ClassId) (τ : Nat → Option Nat) (ρ : Nat → Nat → Nat) (hW : WF τ ρ) (H : Heap) (hT : TH D cI cS τ ρ H) (a0 : Nat) (ha0 : τ a0 = some 1) (hf_1 : fi D 1 1 H a0 = 16) (hf_2 : fi D 1 0 H a0 = 4) : MI l D cI cS τ ρ yX1_hasRoom cX1_hasRoom 1 (some .boolean) 0 0 H [.ref a0] (fun (r : Int32) (u : Heap) => H = u ∧ 1 = r) (fun q => False) := by
  refine MI.of (by decide) (Nat.le_of_ble_eq_true rfl) ?_
  intro p e s m args below meth c E hml hr hlk hs ls hl
  have hx := E.1
  have hb := E.2.1
  have hown := E.2.2.1
  have hts := E.2.2.2.1
  have hS : SS (fun q => False) H H [] := SS.rf
  have hl : lv_has ls 1 [(0, .ref a0)] := hl
  refine lv_aload_n hx hb dX1_hasRoom_0 rfl (lv_at hl 0 rfl) ?_
  refine gf_X1_18 E hT ha0 dX1_hasRoom_1 ?_
  refine th_topi (y := 16) hf_1 ?_
  refine lv_iconst (v := 2) hx hb dX1_hasRoom_4 (by decide) ?_
  refine lv_aload_n hx hb dX1_hasRoom_5 rfl (lv_at hl 0 rfl) ?_
  refine gf_X1_14 E hT ha0 dX1_hasRoom_6 ?_
  refine th_topi (y := 4) hf_2 ?_
  refine lv_imul hx hb dX1_hasRoom_9 ?_
  refine th_topi (y := 8) (by decide) ?_
  refine lv_icmp_lt (tgt := 17) hx hb dX1_hasRoom_10 (by decide) (fun c_1 => absurd c_1 (by decide)) (fun c_1 => ?_)
  refine lv_iconst (v := 1) hx hb dX1_hasRoom_13 (by decide) ?_
  refine lv_goto (tgt := 18) hx hb dX1_hasRoom_14 (by decide) ?_
  exact th_zret E hr hlk hs (Or.inr rfl) hT hS ⟨rfl, rfl⟩ dX1_hasRoom_18
set_option maxHeartbeats 4000000 in
set_option maxRecDepth 100000 in
/-- StreamEnds$Config.copyFrom -/
theorem c_X1_copyFrom (l : Launch) (D : va_G) (cI cS : ClassId) (τ : Nat → Option Nat) (ρ : Nat → Nat → Nat) (hW : WF τ ρ) (H : Heap) (hT : TH D cI cS τ ρ H) (a0 : Nat) (a1 : Nat) (ha0 : τ a0 = some 1) (ha1 : τ a1 = some 1) (hf_1 : fi D 1 0 H a1 = 4) (hn_2 : a1 ≠ a0) (hf_3 : fi D 1 1 H a1 = 16) (hf_4 : fi D 1 2 H a1 = 0) (hf_5 : fi D 1 3 H a1 = 0) (hf_6 : fi D 1 4 H a1 = 5) : MV l D cI cS τ ρ yX1_copyFrom cX1_copyFrom 2 none 0 0 H [.ref a0, .ref a1] (fun (u : Heap) => fi D 1 0 u a0 = 4 ∧ fi D 1 1 u a0 = 16 ∧ fi D 1 2 u a0 = 0 ∧ fi D 1 3 u a0 = 0 ∧ fi D 1 4 u a0 = 5) (fun q => q = a0) := by
  refine MV.of (by decide) (Nat.le_of_ble_eq_true rfl) ?_
  intro p e s m args below meth c E hml hr hlk hs ls hl
  have hx := E.1
  have hb := E.2.1
  have hown := E.2.2.1
  have hts := E.2.2.2.1
  have hS : SS (fun q => q = a0) H H [] := SS.rf
  have hl : lv_has ls 2 [(0, .ref a0), (1, .ref a1)] := hl
  refine lv_aload_n hx hb dX1_copyFrom_0 rfl (lv_at hl 0 rfl) ?_
  refine lv_aload_n hx hb dX1_copyFrom_1 rfl (lv_at hl 1 rfl) ?_
  refine gf_X1_14 E hT ha1 dX1_copyFrom_2 ?_
  refine th_topi (y := 4) hf_1 ?_
  refine pf_X1_14 E hT hS ha0 rfl dX1_copyFrom_5 (fun H_1 locs_1 hT_1 hU_1 hS_1 => ?_)
  refine lv_aload_n hx hb dX1_copyFrom_8 rfl (lv_at hl 0 rfl) ?_
  refine lv_aload_n hx hb dX1_copyFrom_9 rfl (lv_at hl 1 rfl) ?_
  refine gf_X1_18 E hT_1 ha1 dX1_copyFrom_10 ?_
  refine th_topi (y := 16) (Eq.trans (fi_q (hU_1.2.2 _ hn_2)) hf_3) ?_
  refine pf_X1_18 E hT_1 hS_1 ha0 rfl dX1_copyFrom_13 (fun H_2 locs_2 hT_2 hU_2 hS_2 => ?_)
  refine lv_aload_n hx hb dX1_copyFrom_16 rfl (lv_at hl 0 rfl) ?_
  refine lv_aload_n hx hb dX1_copyFrom_17 rfl (lv_at hl 1 rfl) ?_
  refine gf_X1_21 E hT_2 ha1 dX1_copyFrom_18 ?_
  refine th_topi (y := 0) (Eq.trans (fi_q (hU_2.2.2 _ hn_2)) (Eq.trans (fi_q (hU_1.2.2 _ hn_2)) hf_4)) ?_
  refine pf_X1_21 E hT_2 hS_2 ha0 rfl dX1_copyFrom_21 (fun H_3 locs_3 hT_3 hU_3 hS_3 => ?_)
  refine lv_aload_n hx hb dX1_copyFrom_24 rfl (lv_at hl 0 rfl) ?_
  refine lv_aload_n hx hb dX1_copyFrom_25 rfl (lv_at hl 1 rfl) ?_
  refine gf_X1_24 E hT_3 ha1 dX1_copyFrom_26 ?_
  refine th_topi (y := 0) (Eq.trans (fi_q (hU_3.2.2 _ hn_2)) (Eq.trans (fi_q (hU_2.2.2 _ hn_2)) (Eq.trans (fi_q (hU_1.2.2 _ hn_2)) hf_5))) ?_
  refine pf_X1_24 E hT_3 hS_3 ha0 rfl dX1_copyFrom_29 (fun H_4 locs_4 hT_4 hU_4 hS_4 => ?_)
  refine lv_aload_n hx hb dX1_copyFrom_32 rfl (lv_at hl 0 rfl) ?_
  refine lv_aload_n hx hb dX1_copyFrom_33 rfl (lv_at hl 1 rfl) ?_
  refine gf_X1_27 E hT_4 ha1 dX1_copyFrom_34 ?_
  refine th_topi (y := 5) (Eq.trans (fi_q (hU_4.2.2 _ hn_2)) (Eq.trans (fi_q (hU_3.2.2 _ hn_2)) (Eq.trans (fi_q (hU_2.2.2 _ hn_2)) (Eq.trans (fi_q (hU_1.2.2 _ hn_2)) hf_6)))) ?_
  refine pf_X1_27 E hT_4 hS_4 ha0 rfl dX1_copyFrom_37 (fun H_5 locs_5 hT_5 hU_5 hS_5 => ?_)
  exact th_vret E hr hlk hs hT_5 hS_5 ⟨(Eq.trans (PU.io hU_5 (j := 0) (by decide) (by decide)) (Eq.trans (PU.io hU_4 (j := 0) (by decide) (by decide)) (Eq.trans (PU.io hU_3 (j := 0) (by decide) (by decide)) (Eq.trans (PU.io hU_2 (j := 0) (by decide) (by decide)) (PU.i hU_1))))), (Eq.trans (PU.io hU_5 (j := 1) (by decide) (by decide)) (Eq.trans (PU.io hU_4 (j := 1) (by decide) (by decide)) (Eq.trans (PU.io hU_3 (j := 1) (by decide) (by decide)) (PU.i hU_2)))), (Eq.trans (PU.io hU_5 (j := 2) (by decide) (by decide)) (Eq.trans (PU.io hU_4 (j := 2) (by decide) (by decide)) (PU.i hU_3))), (Eq.trans (PU.io hU_5 (j := 3) (by decide) (by decide)) (PU.i hU_4)), (PU.i hU_5)⟩ dX1_copyFrom_40
set_option maxHeartbeats 4000000 in
set_option maxRecDepth 100000 in
/-- StreamEnds$Wire.clear -/
theorem c_X10_clear (l : Launch) (D : va_G) (cI cS : ClassId) (τ : Nat → Option Nat) (ρ : Nat → Nat → Nat) (hW : WF τ ρ) (H : Heap) (hT : TH D cI cS τ ρ H) (a0 : Nat) (ha0 : τ a0 = some 10) : MV l D cI cS τ ρ yX10_clear cX10_clear 1 none 0 0 H [.ref a0] (fun (u : Heap) => fi D 10 2 u a0 = 0 ∧ fi D 10 3 u a0 = 0 ∧ fi D 10 4 u a0 = 0 ∧ fi D 10 5 u a0 = 0) (fun q => q = a0) := by
  refine MV.of (by decide) (Nat.le_of_ble_eq_true rfl) ?_
  intro p e s m args below meth c E hml hr hlk hs ls hl
  have hx := E.1
  have hb := E.2.1
  have hown := E.2.2.1
  have hts := E.2.2.2.1
  have hS : SS (fun q => q = a0) H H [] := SS.rf
  have hl : lv_has ls 1 [(0, .ref a0)] := hl
  refine lv_aload_n hx hb dX10_clear_0 rfl (lv_at hl 0 rfl) ?_
  refine lv_iconst (v := 0) hx hb dX10_clear_1 (by decide) ?_
  refine pf_X10_22 E hT hS ha0 rfl dX10_clear_2 (fun H_1 locs_1 hT_1 hU_1 hS_1 => ?_)
  refine lv_aload_n hx hb dX10_clear_5 rfl (lv_at hl 0 rfl) ?_
  refine lv_iconst (v := 0) hx hb dX10_clear_6 (by decide) ?_
  refine pf_X10_26 E hT_1 hS_1 ha0 rfl dX10_clear_7 (fun H_2 locs_2 hT_2 hU_2 hS_2 => ?_)
  refine lv_aload_n hx hb dX10_clear_10 rfl (lv_at hl 0 rfl) ?_
  refine lv_iconst (v := 0) hx hb dX10_clear_11 (by decide) ?_
  refine pf_X10_29 E hT_2 hS_2 ha0 rfl dX10_clear_12 (fun H_3 locs_3 hT_3 hU_3 hS_3 => ?_)
  refine lv_aload_n hx hb dX10_clear_15 rfl (lv_at hl 0 rfl) ?_
  refine lv_iconst (v := 0) hx hb dX10_clear_16 (by decide) ?_
  refine pf_X10_32 E hT_3 hS_3 ha0 rfl dX10_clear_17 (fun H_4 locs_4 hT_4 hU_4 hS_4 => ?_)
  exact th_vret E hr hlk hs hT_4 hS_4 ⟨(Eq.trans (PU.io hU_4 (j := 2) (by decide) (by decide)) (Eq.trans (PU.io hU_3 (j := 2) (by decide) (by decide)) (Eq.trans (PU.io hU_2 (j := 2) (by decide) (by decide)) (PU.i hU_1)))), (Eq.trans (PU.io hU_4 (j := 3) (by decide) (by decide)) (Eq.trans (PU.io hU_3 (j := 3) (by decide) (by decide)) (PU.i hU_2))), (Eq.trans (PU.io hU_4 (j := 4) (by decide) (by decide)) (PU.i hU_3)), (PU.i hU_4)⟩ dX10_clear_20
set_option maxHeartbeats 4000000 in
set_option maxRecDepth 100000 in
/-- StreamEnds$Endpoint.close -/
theorem c_X2_close (l : Launch) (D : va_G) (cI cS : ClassId) (τ : Nat → Option Nat) (ρ : Nat → Nat → Nat) (hW : WF τ ρ) (H : Heap) (hT : TH D cI cS τ ρ H) (a0 : Nat) (ha0 : τ a0 = some 2) : MV l D cI cS τ ρ yX2_close cX2_close 1 none 0 0 H [.ref a0] (fun (u : Heap) => fi D 2 7 u a0 = 0 ∧ fi D 2 8 u a0 = 0 ∧ fi D 2 9 u a0 = 0) (fun q => q = a0) := by
  refine MV.of (by decide) (Nat.le_of_ble_eq_true rfl) ?_
  intro p e s m args below meth c E hml hr hlk hs ls hl
  have hx := E.1
  have hb := E.2.1
  have hown := E.2.2.1
  have hts := E.2.2.2.1
  have hS : SS (fun q => q = a0) H H [] := SS.rf
  have hl : lv_has ls 1 [(0, .ref a0)] := hl
  refine lv_aload_n hx hb dX2_close_0 rfl (lv_at hl 0 rfl) ?_
  refine lv_iconst (v := 0) hx hb dX2_close_1 (by decide) ?_
  refine pf_X2_63 E hT hS ha0 rfl dX2_close_2 (fun H_1 locs_1 hT_1 hU_1 hS_1 => ?_)
  refine lv_aload_n hx hb dX2_close_5 rfl (lv_at hl 0 rfl) ?_
  refine lv_iconst (v := 0) hx hb dX2_close_6 (by decide) ?_
  refine pf_X2_66 E hT_1 hS_1 ha0 rfl dX2_close_7 (fun H_2 locs_2 hT_2 hU_2 hS_2 => ?_)
  refine lv_aload_n hx hb dX2_close_10 rfl (lv_at hl 0 rfl) ?_
  refine lv_iconst (v := 0) hx hb dX2_close_11 (by decide) ?_
  refine pf_X2_69 E hT_2 hS_2 ha0 rfl dX2_close_12 (fun H_3 locs_3 hT_3 hU_3 hS_3 => ?_)
  exact th_vret E hr hlk hs hT_3 hS_3 ⟨(Eq.trans (PU.io hU_3 (j := 7) (by decide) (by decide)) (Eq.trans (PU.io hU_2 (j := 7) (by decide) (by decide)) (PU.i hU_1))), (Eq.trans (PU.io hU_3 (j := 8) (by decide) (by decide)) (PU.i hU_2)), (PU.i hU_3)⟩ dX2_close_15
set_option maxHeartbeats 4000000 in
set_option maxRecDepth 100000 in
/-- StreamEnds$Outgoing.start -/
theorem c_X5_start (l : Launch) (D : va_G) (cI cS : ClassId) (τ : Nat → Option Nat) (ρ : Nat → Nat → Nat) (hW : WF τ ρ) (H : Heap) (hT : TH D cI cS τ ρ H) (a0 : Nat) (ha0 : τ a0 = some 5) : MV l D cI cS τ ρ yX5_start cX5_start 1 none 0 0 H [.ref a0] (fun (u : Heap) => fi D 5 0 u a0 = 0 ∧ fi D 5 1 u a0 = 0 ∧ fi D 5 2 u a0 = 1 ∧ fi D 5 3 u a0 = 0 ∧ fi D 5 4 u a0 = 0 ∧ fi D 5 5 u a0 = 0 ∧ fl D 5 6 u a0 = 0) (fun q => q = a0) := by
  refine MV.of (by decide) (Nat.le_of_ble_eq_true rfl) ?_
  intro p e s m args below meth c E hml hr hlk hs ls hl
  have hx := E.1
  have hb := E.2.1
  have hown := E.2.2.1
  have hts := E.2.2.2.1
  have hS : SS (fun q => q = a0) H H [] := SS.rf
  have hl : lv_has ls 1 [(0, .ref a0)] := hl
  refine lv_aload_n hx hb dX5_start_0 rfl (lv_at hl 0 rfl) ?_
  refine lv_iconst (v := 0) hx hb dX5_start_1 (by decide) ?_
  refine pf_X5_15 E hT hS ha0 rfl dX5_start_2 (fun H_1 locs_1 hT_1 hU_1 hS_1 => ?_)
  refine lv_aload_n hx hb dX5_start_5 rfl (lv_at hl 0 rfl) ?_
  refine lv_iconst (v := 0) hx hb dX5_start_6 (by decide) ?_
  refine pf_X5_19 E hT_1 hS_1 ha0 rfl dX5_start_7 (fun H_2 locs_2 hT_2 hU_2 hS_2 => ?_)
  refine lv_aload_n hx hb dX5_start_10 rfl (lv_at hl 0 rfl) ?_
  refine lv_iconst (v := 1) hx hb dX5_start_11 (by decide) ?_
  refine pf_X5_22 E hT_2 hS_2 ha0 rfl dX5_start_12 (fun H_3 locs_3 hT_3 hU_3 hS_3 => ?_)
  refine lv_aload_n hx hb dX5_start_15 rfl (lv_at hl 0 rfl) ?_
  refine lv_iconst (v := 0) hx hb dX5_start_16 (by decide) ?_
  refine pf_X5_25 E hT_3 hS_3 ha0 rfl dX5_start_17 (fun H_4 locs_4 hT_4 hU_4 hS_4 => ?_)
  refine lv_aload_n hx hb dX5_start_20 rfl (lv_at hl 0 rfl) ?_
  refine lv_iconst (v := 0) hx hb dX5_start_21 (by decide) ?_
  refine pf_X5_28 E hT_4 hS_4 ha0 rfl dX5_start_22 (fun H_5 locs_5 hT_5 hU_5 hS_5 => ?_)
  refine lv_aload_n hx hb dX5_start_25 rfl (lv_at hl 0 rfl) ?_
  refine lv_iconst (v := 0) hx hb dX5_start_26 (by decide) ?_
  refine pf_X5_31 E hT_5 hS_5 ha0 rfl (Or.inl rfl) dX5_start_27 (fun H_6 locs_6 hT_6 hU_6 hS_6 => ?_)
  refine lv_aload_n hx hb dX5_start_30 rfl (lv_at hl 0 rfl) ?_
  refine lv_lconst (v := 0) hx hb dX5_start_31 (by decide) ?_
  refine pf_X5_35 E hT_6 hS_6 ha0 rfl dX5_start_32 (fun H_7 locs_7 hT_7 hU_7 hS_7 => ?_)
  exact th_vret E hr hlk hs hT_7 hS_7 ⟨(Eq.trans (PU.io hU_7 (j := 0) (by decide) (by decide)) (Eq.trans (PU.io hU_6 (j := 0) (by decide) (by decide)) (Eq.trans (PU.io hU_5 (j := 0) (by decide) (by decide)) (Eq.trans (PU.io hU_4 (j := 0) (by decide) (by decide)) (Eq.trans (PU.io hU_3 (j := 0) (by decide) (by decide)) (Eq.trans (PU.io hU_2 (j := 0) (by decide) (by decide)) (PU.i hU_1))))))), (Eq.trans (PU.io hU_7 (j := 1) (by decide) (by decide)) (Eq.trans (PU.io hU_6 (j := 1) (by decide) (by decide)) (Eq.trans (PU.io hU_5 (j := 1) (by decide) (by decide)) (Eq.trans (PU.io hU_4 (j := 1) (by decide) (by decide)) (Eq.trans (PU.io hU_3 (j := 1) (by decide) (by decide)) (PU.i hU_2)))))), (Eq.trans (PU.io hU_7 (j := 2) (by decide) (by decide)) (Eq.trans (PU.io hU_6 (j := 2) (by decide) (by decide)) (Eq.trans (PU.io hU_5 (j := 2) (by decide) (by decide)) (Eq.trans (PU.io hU_4 (j := 2) (by decide) (by decide)) (PU.i hU_3))))), (Eq.trans (PU.io hU_7 (j := 3) (by decide) (by decide)) (Eq.trans (PU.io hU_6 (j := 3) (by decide) (by decide)) (Eq.trans (PU.io hU_5 (j := 3) (by decide) (by decide)) (PU.i hU_4)))), (Eq.trans (PU.io hU_7 (j := 4) (by decide) (by decide)) (Eq.trans (PU.io hU_6 (j := 4) (by decide) (by decide)) (PU.i hU_5))), (Eq.trans (PU.io hU_7 (j := 5) (by decide) (by decide)) (PU.i hU_6)), (PU.l hU_7)⟩ dX5_start_35
set_option maxHeartbeats 4000000 in
set_option maxRecDepth 100000 in
/-- StreamEnds$Incoming.start -/
theorem c_X3_start (l : Launch) (D : va_G) (cI cS : ClassId) (τ : Nat → Option Nat) (ρ : Nat → Nat → Nat) (hW : WF τ ρ) (H : Heap) (hT : TH D cI cS τ ρ H) (a0 : Nat) (x0 : Int32) (ha0 : τ a0 = some 3) : MV l D cI cS τ ρ yX3_start cX3_start 2 none 0 0 H [.ref a0, .int x0] (fun (u : Heap) => fi D 3 0 u a0 = 0 ∧ fi D 3 1 u a0 = 1 ∧ fi D 3 2 u a0 = x0 + 1 ∧ fi D 3 3 u a0 = (-4) ∧ fi D 3 4 u a0 = 0 ∧ fl D 3 5 u a0 = 0) (fun q => q = a0) := by
  refine MV.of (by decide) (Nat.le_of_ble_eq_true rfl) ?_
  intro p e s m args below meth c E hml hr hlk hs ls hl
  have hx := E.1
  have hb := E.2.1
  have hown := E.2.2.1
  have hts := E.2.2.2.1
  have hS : SS (fun q => q = a0) H H [] := SS.rf
  have hl : lv_has ls 2 [(0, .ref a0), (1, .int x0)] := hl
  refine lv_aload_n hx hb dX3_start_0 rfl (lv_at hl 0 rfl) ?_
  refine lv_iconst (v := 0) hx hb dX3_start_1 (by decide) ?_
  refine pf_X3_15 E hT hS ha0 rfl dX3_start_2 (fun H_1 locs_1 hT_1 hU_1 hS_1 => ?_)
  refine lv_aload_n hx hb dX3_start_5 rfl (lv_at hl 0 rfl) ?_
  refine lv_iconst (v := 1) hx hb dX3_start_6 (by decide) ?_
  refine pf_X3_19 E hT_1 hS_1 ha0 rfl dX3_start_7 (fun H_2 locs_2 hT_2 hU_2 hS_2 => ?_)
  refine lv_aload_n hx hb dX3_start_10 rfl (lv_at hl 0 rfl) ?_
  refine lv_iload_n hx hb dX3_start_11 rfl (lv_at hl 1 rfl) ?_
  refine lv_iconst (v := 1) hx hb dX3_start_12 (by decide) ?_
  refine lv_iadd hx hb dX3_start_13 ?_
  refine pf_X3_22 E hT_2 hS_2 ha0 rfl dX3_start_14 (fun H_3 locs_3 hT_3 hU_3 hS_3 => ?_)
  refine lv_aload_n hx hb dX3_start_17 rfl (lv_at hl 0 rfl) ?_
  refine lv_bipush (v := (-4)) hx hb dX3_start_18 (by decide) ?_
  refine pf_X3_25 E hT_3 hS_3 ha0 rfl dX3_start_20 (fun H_4 locs_4 hT_4 hU_4 hS_4 => ?_)
  refine lv_aload_n hx hb dX3_start_23 rfl (lv_at hl 0 rfl) ?_
  refine lv_iconst (v := 0) hx hb dX3_start_24 (by decide) ?_
  refine pf_X3_28 E hT_4 hS_4 ha0 rfl dX3_start_25 (fun H_5 locs_5 hT_5 hU_5 hS_5 => ?_)
  refine lv_aload_n hx hb dX3_start_28 rfl (lv_at hl 0 rfl) ?_
  refine lv_lconst (v := 0) hx hb dX3_start_29 (by decide) ?_
  refine pf_X3_31 E hT_5 hS_5 ha0 rfl dX3_start_30 (fun H_6 locs_6 hT_6 hU_6 hS_6 => ?_)
  exact th_vret E hr hlk hs hT_6 hS_6 ⟨(Eq.trans (PU.io hU_6 (j := 0) (by decide) (by decide)) (Eq.trans (PU.io hU_5 (j := 0) (by decide) (by decide)) (Eq.trans (PU.io hU_4 (j := 0) (by decide) (by decide)) (Eq.trans (PU.io hU_3 (j := 0) (by decide) (by decide)) (Eq.trans (PU.io hU_2 (j := 0) (by decide) (by decide)) (PU.i hU_1)))))), (Eq.trans (PU.io hU_6 (j := 1) (by decide) (by decide)) (Eq.trans (PU.io hU_5 (j := 1) (by decide) (by decide)) (Eq.trans (PU.io hU_4 (j := 1) (by decide) (by decide)) (Eq.trans (PU.io hU_3 (j := 1) (by decide) (by decide)) (PU.i hU_2))))), (Eq.trans (PU.io hU_6 (j := 2) (by decide) (by decide)) (Eq.trans (PU.io hU_5 (j := 2) (by decide) (by decide)) (Eq.trans (PU.io hU_4 (j := 2) (by decide) (by decide)) (PU.i hU_3)))), (Eq.trans (PU.io hU_6 (j := 3) (by decide) (by decide)) (Eq.trans (PU.io hU_5 (j := 3) (by decide) (by decide)) (PU.i hU_4))), (Eq.trans (PU.io hU_6 (j := 4) (by decide) (by decide)) (PU.i hU_5)), (PU.l hU_6)⟩ dX3_start_33
set_option maxHeartbeats 4000000 in
set_option maxRecDepth 100000 in
/-- StreamEnds$RoundTrips.start -/
theorem c_X7_start (l : Launch) (D : va_G) (cI cS : ClassId) (τ : Nat → Option Nat) (ρ : Nat → Nat → Nat) (hW : WF τ ρ) (H : Heap) (hT : TH D cI cS τ ρ H) (a0 : Nat) (ha0 : τ a0 = some 7) : MV l D cI cS τ ρ yX7_start cX7_start 1 none 0 0 H [.ref a0] (fun (u : Heap) => fi D 7 0 u a0 = 6 ∧ fi D 7 1 u a0 = 0 ∧ fi D 7 2 u a0 = 0 ∧ fi D 7 3 u a0 = (-4) ∧ fi D 7 4 u a0 = 0 ∧ fi D 7 5 u a0 = 0) (fun q => q = a0) := by
  refine MV.of (by decide) (Nat.le_of_ble_eq_true rfl) ?_
  intro p e s m args below meth c E hml hr hlk hs ls hl
  have hx := E.1
  have hb := E.2.1
  have hown := E.2.2.1
  have hts := E.2.2.2.1
  have hS : SS (fun q => q = a0) H H [] := SS.rf
  have hl : lv_has ls 1 [(0, .ref a0)] := hl
  refine lv_aload_n hx hb dX7_start_0 rfl (lv_at hl 0 rfl) ?_
  refine lv_bipush (v := 6) hx hb dX7_start_1 (by decide) ?_
  refine pf_X7_15 E hT hS ha0 rfl dX7_start_3 (fun H_1 locs_1 hT_1 hU_1 hS_1 => ?_)
  refine lv_aload_n hx hb dX7_start_6 rfl (lv_at hl 0 rfl) ?_
  refine lv_iconst (v := 0) hx hb dX7_start_7 (by decide) ?_
  refine pf_X7_19 E hT_1 hS_1 ha0 rfl dX7_start_8 (fun H_2 locs_2 hT_2 hU_2 hS_2 => ?_)
  refine lv_aload_n hx hb dX7_start_11 rfl (lv_at hl 0 rfl) ?_
  refine lv_iconst (v := 0) hx hb dX7_start_12 (by decide) ?_
  refine pf_X7_22 E hT_2 hS_2 ha0 rfl dX7_start_13 (fun H_3 locs_3 hT_3 hU_3 hS_3 => ?_)
  refine lv_aload_n hx hb dX7_start_16 rfl (lv_at hl 0 rfl) ?_
  refine lv_bipush (v := (-4)) hx hb dX7_start_17 (by decide) ?_
  refine pf_X7_25 E hT_3 hS_3 ha0 rfl dX7_start_19 (fun H_4 locs_4 hT_4 hU_4 hS_4 => ?_)
  refine lv_aload_n hx hb dX7_start_22 rfl (lv_at hl 0 rfl) ?_
  refine lv_iconst (v := 0) hx hb dX7_start_23 (by decide) ?_
  refine pf_X7_28 E hT_4 hS_4 ha0 rfl dX7_start_24 (fun H_5 locs_5 hT_5 hU_5 hS_5 => ?_)
  refine lv_aload_n hx hb dX7_start_27 rfl (lv_at hl 0 rfl) ?_
  refine lv_iconst (v := 0) hx hb dX7_start_28 (by decide) ?_
  refine pf_X7_31 E hT_5 hS_5 ha0 rfl dX7_start_29 (fun H_6 locs_6 hT_6 hU_6 hS_6 => ?_)
  exact th_vret E hr hlk hs hT_6 hS_6 ⟨(Eq.trans (PU.io hU_6 (j := 0) (by decide) (by decide)) (Eq.trans (PU.io hU_5 (j := 0) (by decide) (by decide)) (Eq.trans (PU.io hU_4 (j := 0) (by decide) (by decide)) (Eq.trans (PU.io hU_3 (j := 0) (by decide) (by decide)) (Eq.trans (PU.io hU_2 (j := 0) (by decide) (by decide)) (PU.i hU_1)))))), (Eq.trans (PU.io hU_6 (j := 1) (by decide) (by decide)) (Eq.trans (PU.io hU_5 (j := 1) (by decide) (by decide)) (Eq.trans (PU.io hU_4 (j := 1) (by decide) (by decide)) (Eq.trans (PU.io hU_3 (j := 1) (by decide) (by decide)) (PU.i hU_2))))), (Eq.trans (PU.io hU_6 (j := 2) (by decide) (by decide)) (Eq.trans (PU.io hU_5 (j := 2) (by decide) (by decide)) (Eq.trans (PU.io hU_4 (j := 2) (by decide) (by decide)) (PU.i hU_3)))), (Eq.trans (PU.io hU_6 (j := 3) (by decide) (by decide)) (Eq.trans (PU.io hU_5 (j := 3) (by decide) (by decide)) (PU.i hU_4))), (Eq.trans (PU.io hU_6 (j := 4) (by decide) (by decide)) (PU.i hU_5)), (PU.i hU_6)⟩ dX7_start_32
set_option maxHeartbeats 4000000 in
set_option maxRecDepth 100000 in
/-- StreamEnds$Endpoint.start -/
theorem c_X2_start (l : Launch) (D : va_G) (cI cS : ClassId) (τ : Nat → Option Nat) (ρ : Nat → Nat → Nat) (hW : WF τ ρ) (H : Heap) (hT : TH D cI cS τ ρ H) (a0 : Nat) (ha0 : τ a0 = some 2) : MV l D cI cS τ ρ yX2_start cX2_start 1 none 1 21 H [.ref a0] (fun (u : Heap) => fi D 2 9 u a0 = 0 ∧ fi D 2 8 u a0 = 0 ∧ fi D 2 7 u a0 = 0 ∧ fl D 5 6 u (ρ a0 4) = 0 ∧ fi D 5 5 u (ρ a0 4) = 0 ∧ fi D 5 4 u (ρ a0 4) = 0 ∧ fi D 5 3 u (ρ a0 4) = 0 ∧ fi D 5 2 u (ρ a0 4) = 1 ∧ fi D 5 1 u (ρ a0 4) = 0 ∧ fi D 5 0 u (ρ a0 4) = 0 ∧ fl D 3 5 u (ρ a0 5) = 0 ∧ fi D 3 4 u (ρ a0 5) = 0 ∧ fi D 3 3 u (ρ a0 5) = (-4) ∧ fi D 3 2 u (ρ a0 5) = (fi D 1 1 H (ρ a0 1)) + 1 ∧ fi D 3 1 u (ρ a0 5) = 1 ∧ fi D 3 0 u (ρ a0 5) = 0 ∧ fi D 7 5 u (ρ a0 6) = 0 ∧ fi D 7 4 u (ρ a0 6) = 0 ∧ fi D 7 3 u (ρ a0 6) = (-4) ∧ fi D 7 2 u (ρ a0 6) = 0 ∧ fi D 7 1 u (ρ a0 6) = 0 ∧ fi D 7 0 u (ρ a0 6) = 6) (fun q => q = a0 ∨ q = ρ a0 4 ∨ q = ρ a0 5 ∨ q = ρ a0 6) := by
  refine MV.of (by decide) (Nat.le_of_ble_eq_true rfl) ?_
  intro p e s m args below meth c E hml hr hlk hs ls hl
  have hx := E.1
  have hb := E.2.1
  have hown := E.2.2.1
  have hts := E.2.2.2.1
  have hS : SS (fun q => q = a0 ∨ q = ρ a0 4 ∨ q = ρ a0 5 ∨ q = ρ a0 6) H H [] := SS.rf
  have hl : lv_has ls 1 [(0, .ref a0)] := hl
  refine lv_aload_n hx hb dX2_start_0 rfl (lv_at hl 0 rfl) ?_
  refine th_Vv (As := []) (rest := []) E hml hl.1 (c_X2_close l D cI cS τ ρ hW H hT a0 ha0) lk_X2_48 yd_X2_close hT ha0 rfl (by decide) hS (fun q h => (Or.inl h)) ⟨by decide, by decide⟩ (Nat.le_of_ble_eq_true rfl) ⟨by decide, by decide⟩ rfl dX2_start_1 (fun H_1 locs_1 p_1 hT_1 hk_1 hS_1 => ?_)
  have p_1 : fi D 2 7 H_1 a0 = 0 ∧ fi D 2 8 H_1 a0 = 0 ∧ fi D 2 9 H_1 a0 = 0 := p_1
  obtain ⟨p_1_0, p_1_1, p_1_2⟩ := p_1
  refine lv_aload_n hx hb dX2_start_4 rfl (lv_at hl 0 rfl) ?_
  refine gf_X2_12 E hT_1 hW ha0 dX2_start_5 (fun h_2 => ?_)
  refine th_Vv (As := []) (rest := []) E hml hl.1 (c_X5_start l D cI cS τ ρ hW H_1 hT_1 (ρ a0 4) h_2) lk_X2_51 yd_X5_start hT_1 h_2 rfl (by decide) hS_1 (fun q h => (Or.inr (Or.inl h))) ⟨by decide, by decide⟩ (Nat.le_of_ble_eq_true rfl) ⟨by decide, by decide⟩ rfl dX2_start_8 (fun H_3 locs_3 p_3 hT_3 hk_3 hS_3 => ?_)
  have p_3 : fi D 5 0 H_3 (ρ a0 4) = 0 ∧ fi D 5 1 H_3 (ρ a0 4) = 0 ∧ fi D 5 2 H_3 (ρ a0 4) = 1 ∧ fi D 5 3 H_3 (ρ a0 4) = 0 ∧ fi D 5 4 H_3 (ρ a0 4) = 0 ∧ fi D 5 5 H_3 (ρ a0 4) = 0 ∧ fl D 5 6 H_3 (ρ a0 4) = 0 := p_3
  obtain ⟨p_3_0, p_3_1, p_3_2, p_3_3, p_3_4, p_3_5, p_3_6⟩ := p_3
  refine lv_aload_n hx hb dX2_start_11 rfl (lv_at hl 0 rfl) ?_
  refine gf_X2_21 E hT_3 hW ha0 dX2_start_12 (fun h_4 => ?_)
  refine lv_aload_n hx hb dX2_start_15 rfl (lv_at hl 0 rfl) ?_
  refine gf_X2_36 E hT_3 hW ha0 dX2_start_16 (fun h_5 => ?_)
  refine gf_X2_54 E hT_3 h_5 dX2_start_19 ?_
  refine th_topi (y := fi D 1 1 H (ρ a0 1)) (Eq.trans (fi_q (hk_3 _ (th_ne h_5 h_2 (by decide)))) (fi_q (hk_1 _ (th_ne h_5 ha0 (by decide))))) ?_
  refine th_Vv (As := [.int (fi D 1 1 H (ρ a0 1))]) (rest := []) E hml hl.1 (c_X3_start l D cI cS τ ρ hW H_3 hT_3 (ρ a0 5) (fi D 1 1 H (ρ a0 1)) h_4) lk_X2_59 yd_X3_start hT_3 h_4 rfl (by decide) hS_3 (fun q h => (Or.inr (Or.inr (Or.inl h)))) ⟨by decide, by decide⟩ (Nat.le_of_ble_eq_true rfl) ⟨by decide, by decide⟩ rfl dX2_start_22 (fun H_6 locs_6 p_6 hT_6 hk_6 hS_6 => ?_)
  have p_6 : fi D 3 0 H_6 (ρ a0 5) = 0 ∧ fi D 3 1 H_6 (ρ a0 5) = 1 ∧ fi D 3 2 H_6 (ρ a0 5) = (fi D 1 1 H (ρ a0 1)) + 1 ∧ fi D 3 3 H_6 (ρ a0 5) = (-4) ∧ fi D 3 4 H_6 (ρ a0 5) = 0 ∧ fl D 3 5 H_6 (ρ a0 5) = 0 := p_6
  obtain ⟨p_6_0, p_6_1, p_6_2, p_6_3, p_6_4, p_6_5⟩ := p_6
  refine lv_aload_n hx hb dX2_start_25 rfl (lv_at hl 0 rfl) ?_
  refine gf_X2_28 E hT_6 hW ha0 dX2_start_26 (fun h_7 => ?_)
  refine th_Vv (As := []) (rest := []) E hml hl.1 (c_X7_start l D cI cS τ ρ hW H_6 hT_6 (ρ a0 6) h_7) lk_X2_62 yd_X7_start hT_6 h_7 rfl (by decide) hS_6 (fun q h => (Or.inr (Or.inr (Or.inr h)))) ⟨by decide, by decide⟩ (Nat.le_of_ble_eq_true rfl) ⟨by decide, by decide⟩ rfl dX2_start_29 (fun H_8 locs_8 p_8 hT_8 hk_8 hS_8 => ?_)
  have p_8 : fi D 7 0 H_8 (ρ a0 6) = 6 ∧ fi D 7 1 H_8 (ρ a0 6) = 0 ∧ fi D 7 2 H_8 (ρ a0 6) = 0 ∧ fi D 7 3 H_8 (ρ a0 6) = (-4) ∧ fi D 7 4 H_8 (ρ a0 6) = 0 ∧ fi D 7 5 H_8 (ρ a0 6) = 0 := p_8
  obtain ⟨p_8_0, p_8_1, p_8_2, p_8_3, p_8_4, p_8_5⟩ := p_8
  exact th_vret E hr hlk hs hT_8 hS_8 ⟨(Eq.trans (fi_q (hk_8 _ (th_ne ha0 h_7 (by decide)))) (Eq.trans (fi_q (hk_6 _ (th_ne ha0 h_4 (by decide)))) (Eq.trans (fi_q (hk_3 _ (th_ne ha0 h_2 (by decide)))) p_1_2))), (Eq.trans (fi_q (hk_8 _ (th_ne ha0 h_7 (by decide)))) (Eq.trans (fi_q (hk_6 _ (th_ne ha0 h_4 (by decide)))) (Eq.trans (fi_q (hk_3 _ (th_ne ha0 h_2 (by decide)))) p_1_1))), (Eq.trans (fi_q (hk_8 _ (th_ne ha0 h_7 (by decide)))) (Eq.trans (fi_q (hk_6 _ (th_ne ha0 h_4 (by decide)))) (Eq.trans (fi_q (hk_3 _ (th_ne ha0 h_2 (by decide)))) p_1_0))), (Eq.trans (fl_q (hk_8 _ (th_ne h_2 h_7 (by decide)))) (Eq.trans (fl_q (hk_6 _ (th_ne h_2 h_4 (by decide)))) p_3_6)), (Eq.trans (fi_q (hk_8 _ (th_ne h_2 h_7 (by decide)))) (Eq.trans (fi_q (hk_6 _ (th_ne h_2 h_4 (by decide)))) p_3_5)), (Eq.trans (fi_q (hk_8 _ (th_ne h_2 h_7 (by decide)))) (Eq.trans (fi_q (hk_6 _ (th_ne h_2 h_4 (by decide)))) p_3_4)), (Eq.trans (fi_q (hk_8 _ (th_ne h_2 h_7 (by decide)))) (Eq.trans (fi_q (hk_6 _ (th_ne h_2 h_4 (by decide)))) p_3_3)), (Eq.trans (fi_q (hk_8 _ (th_ne h_2 h_7 (by decide)))) (Eq.trans (fi_q (hk_6 _ (th_ne h_2 h_4 (by decide)))) p_3_2)), (Eq.trans (fi_q (hk_8 _ (th_ne h_2 h_7 (by decide)))) (Eq.trans (fi_q (hk_6 _ (th_ne h_2 h_4 (by decide)))) p_3_1)), (Eq.trans (fi_q (hk_8 _ (th_ne h_2 h_7 (by decide)))) (Eq.trans (fi_q (hk_6 _ (th_ne h_2 h_4 (by decide)))) p_3_0)), (Eq.trans (fl_q (hk_8 _ (th_ne h_4 h_7 (by decide)))) p_6_5), (Eq.trans (fi_q (hk_8 _ (th_ne h_4 h_7 (by decide)))) p_6_4), (Eq.trans (fi_q (hk_8 _ (th_ne h_4 h_7 (by decide)))) p_6_3), (Eq.trans (fi_q (hk_8 _ (th_ne h_4 h_7 (by decide)))) p_6_2), (Eq.trans (fi_q (hk_8 _ (th_ne h_4 h_7 (by decide)))) p_6_1), (Eq.trans (fi_q (hk_8 _ (th_ne h_4 h_7 (by decide)))) p_6_0), p_8_5, p_8_4, p_8_3, p_8_2, p_8_1, p_8_0⟩ dX2_start_32
set_option maxHeartbeats 4000000 in
set_option maxRecDepth 100000 in
/-- StreamEnds$Network.setUp -/
theorem c_X4_setUp (l : Launch) (D : va_G) (cI cS : ClassId) (τ : Nat → Option Nat) (ρ : Nat → Nat → Nat) (hW : WF τ ρ) (H : Heap) (hT : TH D cI cS τ ρ H) (a0 : Nat) (a1 : Nat) (ha0 : τ a0 = some 4) (ha1 : τ a1 = some 1) (hf_1 : fi D 1 0 H a1 = 4) (hn_2 : a1 ≠ ρ a0 0) (hf_3 : fi D 1 1 H a1 = 16) (hf_4 : fi D 1 2 H a1 = 0) (hf_5 : fi D 1 3 H a1 = 0) (hf_6 : fi D 1 4 H a1 = 5) (hn_7 : ρ (ρ a0 3) 1 ≠ ρ a0 2) (hn_8 : ρ (ρ a0 3) 1 ≠ ρ a0 1) (hn_9 : ρ (ρ a0 3) 6 ≠ ρ (ρ a0 4) 6) (hn_10 : ρ (ρ a0 3) 5 ≠ ρ (ρ a0 4) 5) (hn_11 : ρ (ρ a0 3) 4 ≠ ρ (ρ a0 4) 4) (hn_12 : ρ a0 3 ≠ ρ a0 4) : MV l D cI cS τ ρ yX4_setUp cX4_setUp 2 none 2 41 H [.ref a0, .ref a1] (fun (u : Heap) => fi D 1 4 u (ρ a0 0) = 5 ∧ fi D 1 3 u (ρ a0 0) = 0 ∧ fi D 1 2 u (ρ a0 0) = 0 ∧ fi D 1 1 u (ρ a0 0) = 16 ∧ fi D 1 0 u (ρ a0 0) = 4 ∧ fi D 10 5 u (ρ a0 1) = 0 ∧ fi D 10 4 u (ρ a0 1) = 0 ∧ fi D 10 3 u (ρ a0 1) = 0 ∧ fi D 10 2 u (ρ a0 1) = 0 ∧ fi D 0 0 u (ρ a0 2) = 0 ∧ fi D 7 0 u (ρ (ρ a0 3) 6) = 6 ∧ fi D 7 1 u (ρ (ρ a0 3) 6) = 0 ∧ fi D 7 2 u (ρ (ρ a0 3) 6) = 0 ∧ fi D 7 3 u (ρ (ρ a0 3) 6) = (-4) ∧ fi D 7 4 u (ρ (ρ a0 3) 6) = 0 ∧ fi D 7 5 u (ρ (ρ a0 3) 6) = 0 ∧ fi D 3 0 u (ρ (ρ a0 3) 5) = 0 ∧ fi D 3 1 u (ρ (ρ a0 3) 5) = 1 ∧ fi D 3 3 u (ρ (ρ a0 3) 5) = (-4) ∧ fi D 3 4 u (ρ (ρ a0 3) 5) = 0 ∧ fl D 3 5 u (ρ (ρ a0 3) 5) = 0 ∧ fi D 5 0 u (ρ (ρ a0 3) 4) = 0 ∧ fi D 5 1 u (ρ (ρ a0 3) 4) = 0 ∧ fi D 5 2 u (ρ (ρ a0 3) 4) = 1 ∧ fi D 5 3 u (ρ (ρ a0 3) 4) = 0 ∧ fi D 5 4 u (ρ (ρ a0 3) 4) = 0 ∧ fi D 5 5 u (ρ (ρ a0 3) 4) = 0 ∧ fl D 5 6 u (ρ (ρ a0 3) 4) = 0 ∧ fi D 2 7 u (ρ a0 3) = 0 ∧ fi D 2 8 u (ρ a0 3) = 0 ∧ fi D 2 9 u (ρ a0 3) = 0 ∧ fi D 7 0 u (ρ (ρ a0 4) 6) = 6 ∧ fi D 7 1 u (ρ (ρ a0 4) 6) = 0 ∧ fi D 7 2 u (ρ (ρ a0 4) 6) = 0 ∧ fi D 7 3 u (ρ (ρ a0 4) 6) = (-4) ∧ fi D 7 4 u (ρ (ρ a0 4) 6) = 0 ∧ fi D 7 5 u (ρ (ρ a0 4) 6) = 0 ∧ fi D 3 0 u (ρ (ρ a0 4) 5) = 0 ∧ fi D 3 1 u (ρ (ρ a0 4) 5) = 1 ∧ fi D 3 3 u (ρ (ρ a0 4) 5) = (-4) ∧ fi D 3 4 u (ρ (ρ a0 4) 5) = 0 ∧ fl D 3 5 u (ρ (ρ a0 4) 5) = 0 ∧ fi D 5 0 u (ρ (ρ a0 4) 4) = 0 ∧ fi D 5 1 u (ρ (ρ a0 4) 4) = 0 ∧ fi D 5 2 u (ρ (ρ a0 4) 4) = 1 ∧ fi D 5 3 u (ρ (ρ a0 4) 4) = 0 ∧ fi D 5 4 u (ρ (ρ a0 4) 4) = 0 ∧ fi D 5 5 u (ρ (ρ a0 4) 4) = 0 ∧ fl D 5 6 u (ρ (ρ a0 4) 4) = 0 ∧ fi D 2 7 u (ρ a0 4) = 0 ∧ fi D 2 8 u (ρ a0 4) = 0 ∧ fi D 2 9 u (ρ a0 4) = 0 ∧ fi D 4 7 u a0 = (-4) ∧ fi D 4 8 u a0 = (-4) ∧ fi D 4 9 u a0 = 0) (fun q => q = ρ a0 0 ∨ q = ρ a0 1 ∨ q = ρ a0 2 ∨ q = ρ a0 3 ∨ q = ρ (ρ a0 3) 4 ∨ q = ρ (ρ a0 3) 5 ∨ q = ρ (ρ a0 3) 6 ∨ q = ρ a0 4 ∨ q = ρ (ρ a0 4) 4 ∨ q = ρ (ρ a0 4) 5 ∨ q = ρ (ρ a0 4) 6 ∨ q = a0) := by
  refine MV.of (by decide) (Nat.le_of_ble_eq_true rfl) ?_
  intro p e s m args below meth c E hml hr hlk hs ls hl
  have hx := E.1
  have hb := E.2.1
  have hown := E.2.2.1
  have hts := E.2.2.2.1
  have hS : SS (fun q => q = ρ a0 0 ∨ q = ρ a0 1 ∨ q = ρ a0 2 ∨ q = ρ a0 3 ∨ q = ρ (ρ a0 3) 4 ∨ q = ρ (ρ a0 3) 5 ∨ q = ρ (ρ a0 3) 6 ∨ q = ρ a0 4 ∨ q = ρ (ρ a0 4) 4 ∨ q = ρ (ρ a0 4) 5 ∨ q = ρ (ρ a0 4) 6 ∨ q = a0) H H [] := SS.rf
  have hl : lv_has ls 2 [(0, .ref a0), (1, .ref a1)] := hl
  refine lv_aload_n hx hb dX4_setUp_0 rfl (lv_at hl 0 rfl) ?_
  refine gf_X4_12 E hT hW ha0 dX4_setUp_1 (fun h_1 => ?_)
  refine lv_aload_n hx hb dX4_setUp_4 rfl (lv_at hl 1 rfl) ?_
  refine th_Vv (As := [.ref a1]) (rest := []) E hml hl.1 (c_X1_copyFrom l D cI cS τ ρ hW H hT (ρ a0 0) a1 h_1 ha1 hf_1 hn_2 hf_3 hf_4 hf_5 hf_6) lk_X4_56 yd_X1_copyFrom hT h_1 rfl (by decide) hS (fun q h => (Or.inl h)) ⟨by decide, by decide⟩ (Nat.le_of_ble_eq_true rfl) ⟨by decide, by decide⟩ rfl dX4_setUp_5 (fun H_2 locs_2 p_2 hT_2 hk_2 hS_2 => ?_)
  have p_2 : fi D 1 0 H_2 (ρ a0 0) = 4 ∧ fi D 1 1 H_2 (ρ a0 0) = 16 ∧ fi D 1 2 H_2 (ρ a0 0) = 0 ∧ fi D 1 3 H_2 (ρ a0 0) = 0 ∧ fi D 1 4 H_2 (ρ a0 0) = 5 := p_2
  obtain ⟨p_2_0, p_2_1, p_2_2, p_2_3, p_2_4⟩ := p_2
  refine lv_aload_n hx hb dX4_setUp_8 rfl (lv_at hl 0 rfl) ?_
  refine gf_X4_21 E hT_2 hW ha0 dX4_setUp_9 (fun h_3 => ?_)
  refine th_Vv (As := []) (rest := []) E hml hl.1 (c_X10_clear l D cI cS τ ρ hW H_2 hT_2 (ρ a0 1) h_3) lk_X4_60 yd_X10_clear hT_2 h_3 rfl (by decide) hS_2 (fun q h => (Or.inr (Or.inl h))) ⟨by decide, by decide⟩ (Nat.le_of_ble_eq_true rfl) ⟨by decide, by decide⟩ rfl dX4_setUp_12 (fun H_4 locs_4 p_4 hT_4 hk_4 hS_4 => ?_)
  have p_4 : fi D 10 2 H_4 (ρ a0 1) = 0 ∧ fi D 10 3 H_4 (ρ a0 1) = 0 ∧ fi D 10 4 H_4 (ρ a0 1) = 0 ∧ fi D 10 5 H_4 (ρ a0 1) = 0 := p_4
  obtain ⟨p_4_0, p_4_1, p_4_2, p_4_3⟩ := p_4
  refine lv_aload_n hx hb dX4_setUp_15 rfl (lv_at hl 0 rfl) ?_
  refine gf_X4_28 E hT_4 hW ha0 dX4_setUp_16 (fun h_5 => ?_)
  refine lv_iconst (v := 0) hx hb dX4_setUp_19 (by decide) ?_
  refine pf_X4_63 E hT_4 hS_4 h_5 (Or.inr (Or.inr (Or.inl rfl))) dX4_setUp_20 (fun H_6 locs_6 hT_6 hU_6 hS_6 => ?_)
  refine lv_aload_n hx hb dX4_setUp_23 rfl (lv_at hl 0 rfl) ?_
  refine gf_X4_37 E hT_6 hW ha0 dX4_setUp_24 (fun h_7 => ?_)
  refine th_Vv (As := []) (rest := []) E hml hl.1 (c_X2_start l D cI cS τ ρ hW H_6 hT_6 (ρ a0 3) h_7) lk_X4_67 yd_X2_start hT_6 h_7 rfl (by decide) hS_6 (fun q => (fun h => h.elim (fun h => (Or.inr (Or.inr (Or.inr (Or.inl h))))) (fun h => h.elim (fun h => (Or.inr (Or.inr (Or.inr (Or.inr (Or.inl h)))))) (fun h => h.elim (fun h => (Or.inr (Or.inr (Or.inr (Or.inr (Or.inr (Or.inl h))))))) (fun h => (Or.inr (Or.inr (Or.inr (Or.inr (Or.inr (Or.inr (Or.inl h)))))))))))) ⟨by decide, by decide⟩ (Nat.le_of_ble_eq_true rfl) ⟨by decide, by decide⟩ rfl dX4_setUp_27 (fun H_8 locs_8 p_8 hT_8 hk_8 hS_8 => ?_)
  have p_8 : fi D 2 9 H_8 (ρ a0 3) = 0 ∧ fi D 2 8 H_8 (ρ a0 3) = 0 ∧ fi D 2 7 H_8 (ρ a0 3) = 0 ∧ fl D 5 6 H_8 (ρ (ρ a0 3) 4) = 0 ∧ fi D 5 5 H_8 (ρ (ρ a0 3) 4) = 0 ∧ fi D 5 4 H_8 (ρ (ρ a0 3) 4) = 0 ∧ fi D 5 3 H_8 (ρ (ρ a0 3) 4) = 0 ∧ fi D 5 2 H_8 (ρ (ρ a0 3) 4) = 1 ∧ fi D 5 1 H_8 (ρ (ρ a0 3) 4) = 0 ∧ fi D 5 0 H_8 (ρ (ρ a0 3) 4) = 0 ∧ fl D 3 5 H_8 (ρ (ρ a0 3) 5) = 0 ∧ fi D 3 4 H_8 (ρ (ρ a0 3) 5) = 0 ∧ fi D 3 3 H_8 (ρ (ρ a0 3) 5) = (-4) ∧ fi D 3 2 H_8 (ρ (ρ a0 3) 5) = (fi D 1 1 H_6 (ρ (ρ a0 3) 1)) + 1 ∧ fi D 3 1 H_8 (ρ (ρ a0 3) 5) = 1 ∧ fi D 3 0 H_8 (ρ (ρ a0 3) 5) = 0 ∧ fi D 7 5 H_8 (ρ (ρ a0 3) 6) = 0 ∧ fi D 7 4 H_8 (ρ (ρ a0 3) 6) = 0 ∧ fi D 7 3 H_8 (ρ (ρ a0 3) 6) = (-4) ∧ fi D 7 2 H_8 (ρ (ρ a0 3) 6) = 0 ∧ fi D 7 1 H_8 (ρ (ρ a0 3) 6) = 0 ∧ fi D 7 0 H_8 (ρ (ρ a0 3) 6) = 6 := p_8
  obtain ⟨p_8_0, p_8_1, p_8_2, p_8_3, p_8_4, p_8_5, p_8_6, p_8_7, p_8_8, p_8_9, p_8_10, p_8_11, p_8_12, p_8_13, p_8_14, p_8_15, p_8_16, p_8_17, p_8_18, p_8_19, p_8_20, p_8_21⟩ := p_8
  refine lv_aload_n hx hb dX4_setUp_30 rfl (lv_at hl 0 rfl) ?_
  refine gf_X4_41 E hT_8 hW ha0 dX4_setUp_31 (fun h_9 => ?_)
  refine th_Vv (As := []) (rest := []) E hml hl.1 (c_X2_start l D cI cS τ ρ hW H_8 hT_8 (ρ a0 4) h_9) lk_X4_67 yd_X2_start hT_8 h_9 rfl (by decide) hS_8 (fun q => (fun h => h.elim (fun h => (Or.inr (Or.inr (Or.inr (Or.inr (Or.inr (Or.inr (Or.inr (Or.inl h))))))))) (fun h => h.elim (fun h => (Or.inr (Or.inr (Or.inr (Or.inr (Or.inr (Or.inr (Or.inr (Or.inr (Or.inl h)))))))))) (fun h => h.elim (fun h => (Or.inr (Or.inr (Or.inr (Or.inr (Or.inr (Or.inr (Or.inr (Or.inr (Or.inr (Or.inl h))))))))))) (fun h => (Or.inr (Or.inr (Or.inr (Or.inr (Or.inr (Or.inr (Or.inr (Or.inr (Or.inr (Or.inr (Or.inl h)))))))))))))))) ⟨by decide, by decide⟩ (Nat.le_of_ble_eq_true rfl) ⟨by decide, by decide⟩ rfl dX4_setUp_34 (fun H_10 locs_10 p_10 hT_10 hk_10 hS_10 => ?_)
  have p_10 : fi D 2 9 H_10 (ρ a0 4) = 0 ∧ fi D 2 8 H_10 (ρ a0 4) = 0 ∧ fi D 2 7 H_10 (ρ a0 4) = 0 ∧ fl D 5 6 H_10 (ρ (ρ a0 4) 4) = 0 ∧ fi D 5 5 H_10 (ρ (ρ a0 4) 4) = 0 ∧ fi D 5 4 H_10 (ρ (ρ a0 4) 4) = 0 ∧ fi D 5 3 H_10 (ρ (ρ a0 4) 4) = 0 ∧ fi D 5 2 H_10 (ρ (ρ a0 4) 4) = 1 ∧ fi D 5 1 H_10 (ρ (ρ a0 4) 4) = 0 ∧ fi D 5 0 H_10 (ρ (ρ a0 4) 4) = 0 ∧ fl D 3 5 H_10 (ρ (ρ a0 4) 5) = 0 ∧ fi D 3 4 H_10 (ρ (ρ a0 4) 5) = 0 ∧ fi D 3 3 H_10 (ρ (ρ a0 4) 5) = (-4) ∧ fi D 3 2 H_10 (ρ (ρ a0 4) 5) = (fi D 1 1 H_8 (ρ (ρ a0 4) 1)) + 1 ∧ fi D 3 1 H_10 (ρ (ρ a0 4) 5) = 1 ∧ fi D 3 0 H_10 (ρ (ρ a0 4) 5) = 0 ∧ fi D 7 5 H_10 (ρ (ρ a0 4) 6) = 0 ∧ fi D 7 4 H_10 (ρ (ρ a0 4) 6) = 0 ∧ fi D 7 3 H_10 (ρ (ρ a0 4) 6) = (-4) ∧ fi D 7 2 H_10 (ρ (ρ a0 4) 6) = 0 ∧ fi D 7 1 H_10 (ρ (ρ a0 4) 6) = 0 ∧ fi D 7 0 H_10 (ρ (ρ a0 4) 6) = 6 := p_10
  obtain ⟨p_10_0, p_10_1, p_10_2, p_10_3, p_10_4, p_10_5, p_10_6, p_10_7, p_10_8, p_10_9, p_10_10, p_10_11, p_10_12, p_10_13, p_10_14, p_10_15, p_10_16, p_10_17, p_10_18, p_10_19, p_10_20, p_10_21⟩ := p_10
  refine lv_aload_n hx hb dX4_setUp_37 rfl (lv_at hl 0 rfl) ?_
  refine lv_bipush (v := (-4)) hx hb dX4_setUp_38 (by decide) ?_
  refine pf_X4_70 E hT_10 hS_10 ha0 (Or.inr (Or.inr (Or.inr (Or.inr (Or.inr (Or.inr (Or.inr (Or.inr (Or.inr (Or.inr (Or.inr rfl))))))))))) dX4_setUp_40 (fun H_11 locs_11 hT_11 hU_11 hS_11 => ?_)
  refine lv_aload_n hx hb dX4_setUp_43 rfl (lv_at hl 0 rfl) ?_
  refine lv_bipush (v := (-4)) hx hb dX4_setUp_44 (by decide) ?_
  refine pf_X4_73 E hT_11 hS_11 ha0 (Or.inr (Or.inr (Or.inr (Or.inr (Or.inr (Or.inr (Or.inr (Or.inr (Or.inr (Or.inr (Or.inr rfl))))))))))) dX4_setUp_46 (fun H_12 locs_12 hT_12 hU_12 hS_12 => ?_)
  refine lv_aload_n hx hb dX4_setUp_49 rfl (lv_at hl 0 rfl) ?_
  refine lv_iconst (v := 0) hx hb dX4_setUp_50 (by decide) ?_
  refine pf_X4_76 E hT_12 hS_12 ha0 (Or.inr (Or.inr (Or.inr (Or.inr (Or.inr (Or.inr (Or.inr (Or.inr (Or.inr (Or.inr (Or.inr rfl))))))))))) dX4_setUp_51 (fun H_13 locs_13 hT_13 hU_13 hS_13 => ?_)
  exact th_vret E hr hlk hs hT_13 hS_13 ⟨(Eq.trans (fi_q (hU_13.2.2 _ (th_ne h_1 ha0 (by decide)))) (Eq.trans (fi_q (hU_12.2.2 _ (th_ne h_1 ha0 (by decide)))) (Eq.trans (fi_q (hU_11.2.2 _ (th_ne h_1 ha0 (by decide)))) (Eq.trans (fi_q (hk_10 _ (fun h => h.elim (th_ne h_1 h_9 (by decide)) (fun h => h.elim (th_ne h_1 (hW _ 2 4 h_9 (by decide) (by decide) (by decide)) (by decide)) (fun h => h.elim (th_ne h_1 (hW _ 2 5 h_9 (by decide) (by decide) (by decide)) (by decide)) (th_ne h_1 (hW _ 2 6 h_9 (by decide) (by decide) (by decide)) (by decide))))))) (Eq.trans (fi_q (hk_8 _ (fun h => h.elim (th_ne h_1 h_7 (by decide)) (fun h => h.elim (th_ne h_1 (hW _ 2 4 h_7 (by decide) (by decide) (by decide)) (by decide)) (fun h => h.elim (th_ne h_1 (hW _ 2 5 h_7 (by decide) (by decide) (by decide)) (by decide)) (th_ne h_1 (hW _ 2 6 h_7 (by decide) (by decide) (by decide)) (by decide))))))) (Eq.trans (fi_q (hU_6.2.2 _ (th_ne h_1 h_5 (by decide)))) (Eq.trans (fi_q (hk_4 _ (th_ne h_1 h_3 (by decide)))) p_2_4))))))), (Eq.trans (fi_q (hU_13.2.2 _ (th_ne h_1 ha0 (by decide)))) (Eq.trans (fi_q (hU_12.2.2 _ (th_ne h_1 ha0 (by decide)))) (Eq.trans (fi_q (hU_11.2.2 _ (th_ne h_1 ha0 (by decide)))) (Eq.trans (fi_q (hk_10 _ (fun h => h.elim (th_ne h_1 h_9 (by decide)) (fun h => h.elim (th_ne h_1 (hW _ 2 4 h_9 (by decide) (by decide) (by decide)) (by decide)) (fun h => h.elim (th_ne h_1 (hW _ 2 5 h_9 (by decide) (by decide) (by decide)) (by decide)) (th_ne h_1 (hW _ 2 6 h_9 (by decide) (by decide) (by decide)) (by decide))))))) (Eq.trans (fi_q (hk_8 _ (fun h => h.elim (th_ne h_1 h_7 (by decide)) (fun h => h.elim (th_ne h_1 (hW _ 2 4 h_7 (by decide) (by decide) (by decide)) (by decide)) (fun h => h.elim (th_ne h_1 (hW _ 2 5 h_7 (by decide) (by decide) (by decide)) (by decide)) (th_ne h_1 (hW _ 2 6 h_7 (by decide) (by decide) (by decide)) (by decide))))))) (Eq.trans (fi_q (hU_6.2.2 _ (th_ne h_1 h_5 (by decide)))) (Eq.trans (fi_q (hk_4 _ (th_ne h_1 h_3 (by decide)))) p_2_3))))))), (Eq.trans (fi_q (hU_13.2.2 _ (th_ne h_1 ha0 (by decide)))) (Eq.trans (fi_q (hU_12.2.2 _ (th_ne h_1 ha0 (by decide)))) (Eq.trans (fi_q (hU_11.2.2 _ (th_ne h_1 ha0 (by decide)))) (Eq.trans (fi_q (hk_10 _ (fun h => h.elim (th_ne h_1 h_9 (by decide)) (fun h => h.elim (th_ne h_1 (hW _ 2 4 h_9 (by decide) (by decide) (by decide)) (by decide)) (fun h => h.elim (th_ne h_1 (hW _ 2 5 h_9 (by decide) (by decide) (by decide)) (by decide)) (th_ne h_1 (hW _ 2 6 h_9 (by decide) (by decide) (by decide)) (by decide))))))) (Eq.trans (fi_q (hk_8 _ (fun h => h.elim (th_ne h_1 h_7 (by decide)) (fun h => h.elim (th_ne h_1 (hW _ 2 4 h_7 (by decide) (by decide) (by decide)) (by decide)) (fun h => h.elim (th_ne h_1 (hW _ 2 5 h_7 (by decide) (by decide) (by decide)) (by decide)) (th_ne h_1 (hW _ 2 6 h_7 (by decide) (by decide) (by decide)) (by decide))))))) (Eq.trans (fi_q (hU_6.2.2 _ (th_ne h_1 h_5 (by decide)))) (Eq.trans (fi_q (hk_4 _ (th_ne h_1 h_3 (by decide)))) p_2_2))))))), (Eq.trans (fi_q (hU_13.2.2 _ (th_ne h_1 ha0 (by decide)))) (Eq.trans (fi_q (hU_12.2.2 _ (th_ne h_1 ha0 (by decide)))) (Eq.trans (fi_q (hU_11.2.2 _ (th_ne h_1 ha0 (by decide)))) (Eq.trans (fi_q (hk_10 _ (fun h => h.elim (th_ne h_1 h_9 (by decide)) (fun h => h.elim (th_ne h_1 (hW _ 2 4 h_9 (by decide) (by decide) (by decide)) (by decide)) (fun h => h.elim (th_ne h_1 (hW _ 2 5 h_9 (by decide) (by decide) (by decide)) (by decide)) (th_ne h_1 (hW _ 2 6 h_9 (by decide) (by decide) (by decide)) (by decide))))))) (Eq.trans (fi_q (hk_8 _ (fun h => h.elim (th_ne h_1 h_7 (by decide)) (fun h => h.elim (th_ne h_1 (hW _ 2 4 h_7 (by decide) (by decide) (by decide)) (by decide)) (fun h => h.elim (th_ne h_1 (hW _ 2 5 h_7 (by decide) (by decide) (by decide)) (by decide)) (th_ne h_1 (hW _ 2 6 h_7 (by decide) (by decide) (by decide)) (by decide))))))) (Eq.trans (fi_q (hU_6.2.2 _ (th_ne h_1 h_5 (by decide)))) (Eq.trans (fi_q (hk_4 _ (th_ne h_1 h_3 (by decide)))) p_2_1))))))), (Eq.trans (fi_q (hU_13.2.2 _ (th_ne h_1 ha0 (by decide)))) (Eq.trans (fi_q (hU_12.2.2 _ (th_ne h_1 ha0 (by decide)))) (Eq.trans (fi_q (hU_11.2.2 _ (th_ne h_1 ha0 (by decide)))) (Eq.trans (fi_q (hk_10 _ (fun h => h.elim (th_ne h_1 h_9 (by decide)) (fun h => h.elim (th_ne h_1 (hW _ 2 4 h_9 (by decide) (by decide) (by decide)) (by decide)) (fun h => h.elim (th_ne h_1 (hW _ 2 5 h_9 (by decide) (by decide) (by decide)) (by decide)) (th_ne h_1 (hW _ 2 6 h_9 (by decide) (by decide) (by decide)) (by decide))))))) (Eq.trans (fi_q (hk_8 _ (fun h => h.elim (th_ne h_1 h_7 (by decide)) (fun h => h.elim (th_ne h_1 (hW _ 2 4 h_7 (by decide) (by decide) (by decide)) (by decide)) (fun h => h.elim (th_ne h_1 (hW _ 2 5 h_7 (by decide) (by decide) (by decide)) (by decide)) (th_ne h_1 (hW _ 2 6 h_7 (by decide) (by decide) (by decide)) (by decide))))))) (Eq.trans (fi_q (hU_6.2.2 _ (th_ne h_1 h_5 (by decide)))) (Eq.trans (fi_q (hk_4 _ (th_ne h_1 h_3 (by decide)))) p_2_0))))))), (Eq.trans (fi_q (hU_13.2.2 _ (th_ne h_3 ha0 (by decide)))) (Eq.trans (fi_q (hU_12.2.2 _ (th_ne h_3 ha0 (by decide)))) (Eq.trans (fi_q (hU_11.2.2 _ (th_ne h_3 ha0 (by decide)))) (Eq.trans (fi_q (hk_10 _ (fun h => h.elim (th_ne h_3 h_9 (by decide)) (fun h => h.elim (th_ne h_3 (hW _ 2 4 h_9 (by decide) (by decide) (by decide)) (by decide)) (fun h => h.elim (th_ne h_3 (hW _ 2 5 h_9 (by decide) (by decide) (by decide)) (by decide)) (th_ne h_3 (hW _ 2 6 h_9 (by decide) (by decide) (by decide)) (by decide))))))) (Eq.trans (fi_q (hk_8 _ (fun h => h.elim (th_ne h_3 h_7 (by decide)) (fun h => h.elim (th_ne h_3 (hW _ 2 4 h_7 (by decide) (by decide) (by decide)) (by decide)) (fun h => h.elim (th_ne h_3 (hW _ 2 5 h_7 (by decide) (by decide) (by decide)) (by decide)) (th_ne h_3 (hW _ 2 6 h_7 (by decide) (by decide) (by decide)) (by decide))))))) (Eq.trans (fi_q (hU_6.2.2 _ (th_ne h_3 h_5 (by decide)))) p_4_3)))))), (Eq.trans (fi_q (hU_13.2.2 _ (th_ne h_3 ha0 (by decide)))) (Eq.trans (fi_q (hU_12.2.2 _ (th_ne h_3 ha0 (by decide)))) (Eq.trans (fi_q (hU_11.2.2 _ (th_ne h_3 ha0 (by decide)))) (Eq.trans (fi_q (hk_10 _ (fun h => h.elim (th_ne h_3 h_9 (by decide)) (fun h => h.elim (th_ne h_3 (hW _ 2 4 h_9 (by decide) (by decide) (by decide)) (by decide)) (fun h => h.elim (th_ne h_3 (hW _ 2 5 h_9 (by decide) (by decide) (by decide)) (by decide)) (th_ne h_3 (hW _ 2 6 h_9 (by decide) (by decide) (by decide)) (by decide))))))) (Eq.trans (fi_q (hk_8 _ (fun h => h.elim (th_ne h_3 h_7 (by decide)) (fun h => h.elim (th_ne h_3 (hW _ 2 4 h_7 (by decide) (by decide) (by decide)) (by decide)) (fun h => h.elim (th_ne h_3 (hW _ 2 5 h_7 (by decide) (by decide) (by decide)) (by decide)) (th_ne h_3 (hW _ 2 6 h_7 (by decide) (by decide) (by decide)) (by decide))))))) (Eq.trans (fi_q (hU_6.2.2 _ (th_ne h_3 h_5 (by decide)))) p_4_2)))))), (Eq.trans (fi_q (hU_13.2.2 _ (th_ne h_3 ha0 (by decide)))) (Eq.trans (fi_q (hU_12.2.2 _ (th_ne h_3 ha0 (by decide)))) (Eq.trans (fi_q (hU_11.2.2 _ (th_ne h_3 ha0 (by decide)))) (Eq.trans (fi_q (hk_10 _ (fun h => h.elim (th_ne h_3 h_9 (by decide)) (fun h => h.elim (th_ne h_3 (hW _ 2 4 h_9 (by decide) (by decide) (by decide)) (by decide)) (fun h => h.elim (th_ne h_3 (hW _ 2 5 h_9 (by decide) (by decide) (by decide)) (by decide)) (th_ne h_3 (hW _ 2 6 h_9 (by decide) (by decide) (by decide)) (by decide))))))) (Eq.trans (fi_q (hk_8 _ (fun h => h.elim (th_ne h_3 h_7 (by decide)) (fun h => h.elim (th_ne h_3 (hW _ 2 4 h_7 (by decide) (by decide) (by decide)) (by decide)) (fun h => h.elim (th_ne h_3 (hW _ 2 5 h_7 (by decide) (by decide) (by decide)) (by decide)) (th_ne h_3 (hW _ 2 6 h_7 (by decide) (by decide) (by decide)) (by decide))))))) (Eq.trans (fi_q (hU_6.2.2 _ (th_ne h_3 h_5 (by decide)))) p_4_1)))))), (Eq.trans (fi_q (hU_13.2.2 _ (th_ne h_3 ha0 (by decide)))) (Eq.trans (fi_q (hU_12.2.2 _ (th_ne h_3 ha0 (by decide)))) (Eq.trans (fi_q (hU_11.2.2 _ (th_ne h_3 ha0 (by decide)))) (Eq.trans (fi_q (hk_10 _ (fun h => h.elim (th_ne h_3 h_9 (by decide)) (fun h => h.elim (th_ne h_3 (hW _ 2 4 h_9 (by decide) (by decide) (by decide)) (by decide)) (fun h => h.elim (th_ne h_3 (hW _ 2 5 h_9 (by decide) (by decide) (by decide)) (by decide)) (th_ne h_3 (hW _ 2 6 h_9 (by decide) (by decide) (by decide)) (by decide))))))) (Eq.trans (fi_q (hk_8 _ (fun h => h.elim (th_ne h_3 h_7 (by decide)) (fun h => h.elim (th_ne h_3 (hW _ 2 4 h_7 (by decide) (by decide) (by decide)) (by decide)) (fun h => h.elim (th_ne h_3 (hW _ 2 5 h_7 (by decide) (by decide) (by decide)) (by decide)) (th_ne h_3 (hW _ 2 6 h_7 (by decide) (by decide) (by decide)) (by decide))))))) (Eq.trans (fi_q (hU_6.2.2 _ (th_ne h_3 h_5 (by decide)))) p_4_0)))))), (Eq.trans (fi_q (hU_13.2.2 _ (th_ne h_5 ha0 (by decide)))) (Eq.trans (fi_q (hU_12.2.2 _ (th_ne h_5 ha0 (by decide)))) (Eq.trans (fi_q (hU_11.2.2 _ (th_ne h_5 ha0 (by decide)))) (Eq.trans (fi_q (hk_10 _ (fun h => h.elim (th_ne h_5 h_9 (by decide)) (fun h => h.elim (th_ne h_5 (hW _ 2 4 h_9 (by decide) (by decide) (by decide)) (by decide)) (fun h => h.elim (th_ne h_5 (hW _ 2 5 h_9 (by decide) (by decide) (by decide)) (by decide)) (th_ne h_5 (hW _ 2 6 h_9 (by decide) (by decide) (by decide)) (by decide))))))) (Eq.trans (fi_q (hk_8 _ (fun h => h.elim (th_ne h_5 h_7 (by decide)) (fun h => h.elim (th_ne h_5 (hW _ 2 4 h_7 (by decide) (by decide) (by decide)) (by decide)) (fun h => h.elim (th_ne h_5 (hW _ 2 5 h_7 (by decide) (by decide) (by decide)) (by decide)) (th_ne h_5 (hW _ 2 6 h_7 (by decide) (by decide) (by decide)) (by decide))))))) (PU.i hU_6)))))), (Eq.trans (fi_q (hU_13.2.2 _ (th_ne (hW _ 2 6 h_7 (by decide) (by decide) (by decide)) ha0 (by decide)))) (Eq.trans (fi_q (hU_12.2.2 _ (th_ne (hW _ 2 6 h_7 (by decide) (by decide) (by decide)) ha0 (by decide)))) (Eq.trans (fi_q (hU_11.2.2 _ (th_ne (hW _ 2 6 h_7 (by decide) (by decide) (by decide)) ha0 (by decide)))) (Eq.trans (fi_q (hk_10 _ (fun h => h.elim (th_ne (hW _ 2 6 h_7 (by decide) (by decide) (by decide)) h_9 (by decide)) (fun h => h.elim (th_ne (hW _ 2 6 h_7 (by decide) (by decide) (by decide)) (hW _ 2 4 h_9 (by decide) (by decide) (by decide)) (by decide)) (fun h => h.elim (th_ne (hW _ 2 6 h_7 (by decide) (by decide) (by decide)) (hW _ 2 5 h_9 (by decide) (by decide) (by decide)) (by decide)) hn_9))))) p_8_21)))), (Eq.trans (fi_q (hU_13.2.2 _ (th_ne (hW _ 2 6 h_7 (by decide) (by decide) (by decide)) ha0 (by decide)))) (Eq.trans (fi_q (hU_12.2.2 _ (th_ne (hW _ 2 6 h_7 (by decide) (by decide) (by decide)) ha0 (by decide)))) (Eq.trans (fi_q (hU_11.2.2 _ (th_ne (hW _ 2 6 h_7 (by decide) (by decide) (by decide)) ha0 (by decide)))) (Eq.trans (fi_q (hk_10 _ (fun h => h.elim (th_ne (hW _ 2 6 h_7 (by decide) (by decide) (by decide)) h_9 (by decide)) (fun h => h.elim (th_ne (hW _ 2 6 h_7 (by decide) (by decide) (by decide)) (hW _ 2 4 h_9 (by decide) (by decide) (by decide)) (by decide)) (fun h => h.elim (th_ne (hW _ 2 6 h_7 (by decide) (by decide) (by decide)) (hW _ 2 5 h_9 (by decide) (by decide) (by decide)) (by decide)) hn_9))))) p_8_20)))), (Eq.trans (fi_q (hU_13.2.2 _ (th_ne (hW _ 2 6 h_7 (by decide) (by decide) (by decide)) ha0 (by decide)))) (Eq.trans (fi_q (hU_12.2.2 _ (th_ne (hW _ 2 6 h_7 (by decide) (by decide) (by decide)) ha0 (by decide)))) (Eq.trans (fi_q (hU_11.2.2 _ (th_ne (hW _ 2 6 h_7 (by decide) (by decide) (by decide)) ha0 (by decide)))) (Eq.trans (fi_q (hk_10 _ (fun h => h.elim (th_ne (hW _ 2 6 h_7 (by decide) (by decide) (by decide)) h_9 (by decide)) (fun h => h.elim (th_ne (hW _ 2 6 h_7 (by decide) (by decide) (by decide)) (hW _ 2 4 h_9 (by decide) (by decide) (by decide)) (by decide)) (fun h => h.elim (th_ne (hW _ 2 6 h_7 (by decide) (by decide) (by decide)) (hW _ 2 5 h_9 (by decide) (by decide) (by decide)) (by decide)) hn_9))))) p_8_19)))), (Eq.trans (fi_q (hU_13.2.2 _ (th_ne (hW _ 2 6 h_7 (by decide) (by decide) (by decide)) ha0 (by decide)))) (Eq.trans (fi_q (hU_12.2.2 _ (th_ne (hW _ 2 6 h_7 (by decide) (by decide) (by decide)) ha0 (by decide)))) (Eq.trans (fi_q (hU_11.2.2 _ (th_ne (hW _ 2 6 h_7 (by decide) (by decide) (by decide)) ha0 (by decide)))) (Eq.trans (fi_q (hk_10 _ (fun h => h.elim (th_ne (hW _ 2 6 h_7 (by decide) (by decide) (by decide)) h_9 (by decide)) (fun h => h.elim (th_ne (hW _ 2 6 h_7 (by decide) (by decide) (by decide)) (hW _ 2 4 h_9 (by decide) (by decide) (by decide)) (by decide)) (fun h => h.elim (th_ne (hW _ 2 6 h_7 (by decide) (by decide) (by decide)) (hW _ 2 5 h_9 (by decide) (by decide) (by decide)) (by decide)) hn_9))))) p_8_18)))), (Eq.trans (fi_q (hU_13.2.2 _ (th_ne (hW _ 2 6 h_7 (by decide) (by decide) (by decide)) ha0 (by decide)))) (Eq.trans (fi_q (hU_12.2.2 _ (th_ne (hW _ 2 6 h_7 (by decide) (by decide) (by decide)) ha0 (by decide)))) (Eq.trans (fi_q (hU_11.2.2 _ (th_ne (hW _ 2 6 h_7 (by decide) (by decide) (by decide)) ha0 (by decide)))) (Eq.trans (fi_q (hk_10 _ (fun h => h.elim (th_ne (hW _ 2 6 h_7 (by decide) (by decide) (by decide)) h_9 (by decide)) (fun h => h.elim (th_ne (hW _ 2 6 h_7 (by decide) (by decide) (by decide)) (hW _ 2 4 h_9 (by decide) (by decide) (by decide)) (by decide)) (fun h => h.elim (th_ne (hW _ 2 6 h_7 (by decide) (by decide) (by decide)) (hW _ 2 5 h_9 (by decide) (by decide) (by decide)) (by decide)) hn_9))))) p_8_17)))), (Eq.trans (fi_q (hU_13.2.2 _ (th_ne (hW _ 2 6 h_7 (by decide) (by decide) (by decide)) ha0 (by decide)))) (Eq.trans (fi_q (hU_12.2.2 _ (th_ne (hW _ 2 6 h_7 (by decide) (by decide) (by decide)) ha0 (by decide)))) (Eq.trans (fi_q (hU_11.2.2 _ (th_ne (hW _ 2 6 h_7 (by decide) (by decide) (by decide)) ha0 (by decide)))) (Eq.trans (fi_q (hk_10 _ (fun h => h.elim (th_ne (hW _ 2 6 h_7 (by decide) (by decide) (by decide)) h_9 (by decide)) (fun h => h.elim (th_ne (hW _ 2 6 h_7 (by decide) (by decide) (by decide)) (hW _ 2 4 h_9 (by decide) (by decide) (by decide)) (by decide)) (fun h => h.elim (th_ne (hW _ 2 6 h_7 (by decide) (by decide) (by decide)) (hW _ 2 5 h_9 (by decide) (by decide) (by decide)) (by decide)) hn_9))))) p_8_16)))), (Eq.trans (fi_q (hU_13.2.2 _ (th_ne (hW _ 2 5 h_7 (by decide) (by decide) (by decide)) ha0 (by decide)))) (Eq.trans (fi_q (hU_12.2.2 _ (th_ne (hW _ 2 5 h_7 (by decide) (by decide) (by decide)) ha0 (by decide)))) (Eq.trans (fi_q (hU_11.2.2 _ (th_ne (hW _ 2 5 h_7 (by decide) (by decide) (by decide)) ha0 (by decide)))) (Eq.trans (fi_q (hk_10 _ (fun h => h.elim (th_ne (hW _ 2 5 h_7 (by decide) (by decide) (by decide)) h_9 (by decide)) (fun h => h.elim (th_ne (hW _ 2 5 h_7 (by decide) (by decide) (by decide)) (hW _ 2 4 h_9 (by decide) (by decide) (by decide)) (by decide)) (fun h => h.elim hn_10 (th_ne (hW _ 2 5 h_7 (by decide) (by decide) (by decide)) (hW _ 2 6 h_9 (by decide) (by decide) (by decide)) (by decide))))))) p_8_15)))), (Eq.trans (fi_q (hU_13.2.2 _ (th_ne (hW _ 2 5 h_7 (by decide) (by decide) (by decide)) ha0 (by decide)))) (Eq.trans (fi_q (hU_12.2.2 _ (th_ne (hW _ 2 5 h_7 (by decide) (by decide) (by decide)) ha0 (by decide)))) (Eq.trans (fi_q (hU_11.2.2 _ (th_ne (hW _ 2 5 h_7 (by decide) (by decide) (by decide)) ha0 (by decide)))) (Eq.trans (fi_q (hk_10 _ (fun h => h.elim (th_ne (hW _ 2 5 h_7 (by decide) (by decide) (by decide)) h_9 (by decide)) (fun h => h.elim (th_ne (hW _ 2 5 h_7 (by decide) (by decide) (by decide)) (hW _ 2 4 h_9 (by decide) (by decide) (by decide)) (by decide)) (fun h => h.elim hn_10 (th_ne (hW _ 2 5 h_7 (by decide) (by decide) (by decide)) (hW _ 2 6 h_9 (by decide) (by decide) (by decide)) (by decide))))))) p_8_14)))), (Eq.trans (fi_q (hU_13.2.2 _ (th_ne (hW _ 2 5 h_7 (by decide) (by decide) (by decide)) ha0 (by decide)))) (Eq.trans (fi_q (hU_12.2.2 _ (th_ne (hW _ 2 5 h_7 (by decide) (by decide) (by decide)) ha0 (by decide)))) (Eq.trans (fi_q (hU_11.2.2 _ (th_ne (hW _ 2 5 h_7 (by decide) (by decide) (by decide)) ha0 (by decide)))) (Eq.trans (fi_q (hk_10 _ (fun h => h.elim (th_ne (hW _ 2 5 h_7 (by decide) (by decide) (by decide)) h_9 (by decide)) (fun h => h.elim (th_ne (hW _ 2 5 h_7 (by decide) (by decide) (by decide)) (hW _ 2 4 h_9 (by decide) (by decide) (by decide)) (by decide)) (fun h => h.elim hn_10 (th_ne (hW _ 2 5 h_7 (by decide) (by decide) (by decide)) (hW _ 2 6 h_9 (by decide) (by decide) (by decide)) (by decide))))))) p_8_12)))), (Eq.trans (fi_q (hU_13.2.2 _ (th_ne (hW _ 2 5 h_7 (by decide) (by decide) (by decide)) ha0 (by decide)))) (Eq.trans (fi_q (hU_12.2.2 _ (th_ne (hW _ 2 5 h_7 (by decide) (by decide) (by decide)) ha0 (by decide)))) (Eq.trans (fi_q (hU_11.2.2 _ (th_ne (hW _ 2 5 h_7 (by decide) (by decide) (by decide)) ha0 (by decide)))) (Eq.trans (fi_q (hk_10 _ (fun h => h.elim (th_ne (hW _ 2 5 h_7 (by decide) (by decide) (by decide)) h_9 (by decide)) (fun h => h.elim (th_ne (hW _ 2 5 h_7 (by decide) (by decide) (by decide)) (hW _ 2 4 h_9 (by decide) (by decide) (by decide)) (by decide)) (fun h => h.elim hn_10 (th_ne (hW _ 2 5 h_7 (by decide) (by decide) (by decide)) (hW _ 2 6 h_9 (by decide) (by decide) (by decide)) (by decide))))))) p_8_11)))), (Eq.trans (fl_q (hU_13.2.2 _ (th_ne (hW _ 2 5 h_7 (by decide) (by decide) (by decide)) ha0 (by decide)))) (Eq.trans (fl_q (hU_12.2.2 _ (th_ne (hW _ 2 5 h_7 (by decide) (by decide) (by decide)) ha0 (by decide)))) (Eq.trans (fl_q (hU_11.2.2 _ (th_ne (hW _ 2 5 h_7 (by decide) (by decide) (by decide)) ha0 (by decide)))) (Eq.trans (fl_q (hk_10 _ (fun h => h.elim (th_ne (hW _ 2 5 h_7 (by decide) (by decide) (by decide)) h_9 (by decide)) (fun h => h.elim (th_ne (hW _ 2 5 h_7 (by decide) (by decide) (by decide)) (hW _ 2 4 h_9 (by decide) (by decide) (by decide)) (by decide)) (fun h => h.elim hn_10 (th_ne (hW _ 2 5 h_7 (by decide) (by decide) (by decide)) (hW _ 2 6 h_9 (by decide) (by decide) (by decide)) (by decide))))))) p_8_10)))), (Eq.trans (fi_q (hU_13.2.2 _ (th_ne (hW _ 2 4 h_7 (by decide) (by decide) (by decide)) ha0 (by decide)))) (Eq.trans (fi_q (hU_12.2.2 _ (th_ne (hW _ 2 4 h_7 (by decide) (by decide) (by decide)) ha0 (by decide)))) (Eq.trans (fi_q (hU_11.2.2 _ (th_ne (hW _ 2 4 h_7 (by decide) (by decide) (by decide)) ha0 (by decide)))) (Eq.trans (fi_q (hk_10 _ (fun h => h.elim (th_ne (hW _ 2 4 h_7 (by decide) (by decide) (by decide)) h_9 (by decide)) (fun h => h.elim hn_11 (fun h => h.elim (th_ne (hW _ 2 4 h_7 (by decide) (by decide) (by decide)) (hW _ 2 5 h_9 (by decide) (by decide) (by decide)) (by decide)) (th_ne (hW _ 2 4 h_7 (by decide) (by decide) (by decide)) (hW _ 2 6 h_9 (by decide) (by decide) (by decide)) (by decide))))))) p_8_9)))), (Eq.trans (fi_q (hU_13.2.2 _ (th_ne (hW _ 2 4 h_7 (by decide) (by decide) (by decide)) ha0 (by decide)))) (Eq.trans (fi_q (hU_12.2.2 _ (th_ne (hW _ 2 4 h_7 (by decide) (by decide) (by decide)) ha0 (by decide)))) (Eq.trans (fi_q (hU_11.2.2 _ (th_ne (hW _ 2 4 h_7 (by decide) (by decide) (by decide)) ha0 (by decide)))) (Eq.trans (fi_q (hk_10 _ (fun h => h.elim (th_ne (hW _ 2 4 h_7 (by decide) (by decide) (by decide)) h_9 (by decide)) (fun h => h.elim hn_11 (fun h => h.elim (th_ne (hW _ 2 4 h_7 (by decide) (by decide) (by decide)) (hW _ 2 5 h_9 (by decide) (by decide) (by decide)) (by decide)) (th_ne (hW _ 2 4 h_7 (by decide) (by decide) (by decide)) (hW _ 2 6 h_9 (by decide) (by decide) (by decide)) (by decide))))))) p_8_8)))), (Eq.trans (fi_q (hU_13.2.2 _ (th_ne (hW _ 2 4 h_7 (by decide) (by decide) (by decide)) ha0 (by decide)))) (Eq.trans (fi_q (hU_12.2.2 _ (th_ne (hW _ 2 4 h_7 (by decide) (by decide) (by decide)) ha0 (by decide)))) (Eq.trans (fi_q (hU_11.2.2 _ (th_ne (hW _ 2 4 h_7 (by decide) (by decide) (by decide)) ha0 (by decide)))) (Eq.trans (fi_q (hk_10 _ (fun h => h.elim (th_ne (hW _ 2 4 h_7 (by decide) (by decide) (by decide)) h_9 (by decide)) (fun h => h.elim hn_11 (fun h => h.elim (th_ne (hW _ 2 4 h_7 (by decide) (by decide) (by decide)) (hW _ 2 5 h_9 (by decide) (by decide) (by decide)) (by decide)) (th_ne (hW _ 2 4 h_7 (by decide) (by decide) (by decide)) (hW _ 2 6 h_9 (by decide) (by decide) (by decide)) (by decide))))))) p_8_7)))), (Eq.trans (fi_q (hU_13.2.2 _ (th_ne (hW _ 2 4 h_7 (by decide) (by decide) (by decide)) ha0 (by decide)))) (Eq.trans (fi_q (hU_12.2.2 _ (th_ne (hW _ 2 4 h_7 (by decide) (by decide) (by decide)) ha0 (by decide)))) (Eq.trans (fi_q (hU_11.2.2 _ (th_ne (hW _ 2 4 h_7 (by decide) (by decide) (by decide)) ha0 (by decide)))) (Eq.trans (fi_q (hk_10 _ (fun h => h.elim (th_ne (hW _ 2 4 h_7 (by decide) (by decide) (by decide)) h_9 (by decide)) (fun h => h.elim hn_11 (fun h => h.elim (th_ne (hW _ 2 4 h_7 (by decide) (by decide) (by decide)) (hW _ 2 5 h_9 (by decide) (by decide) (by decide)) (by decide)) (th_ne (hW _ 2 4 h_7 (by decide) (by decide) (by decide)) (hW _ 2 6 h_9 (by decide) (by decide) (by decide)) (by decide))))))) p_8_6)))), (Eq.trans (fi_q (hU_13.2.2 _ (th_ne (hW _ 2 4 h_7 (by decide) (by decide) (by decide)) ha0 (by decide)))) (Eq.trans (fi_q (hU_12.2.2 _ (th_ne (hW _ 2 4 h_7 (by decide) (by decide) (by decide)) ha0 (by decide)))) (Eq.trans (fi_q (hU_11.2.2 _ (th_ne (hW _ 2 4 h_7 (by decide) (by decide) (by decide)) ha0 (by decide)))) (Eq.trans (fi_q (hk_10 _ (fun h => h.elim (th_ne (hW _ 2 4 h_7 (by decide) (by decide) (by decide)) h_9 (by decide)) (fun h => h.elim hn_11 (fun h => h.elim (th_ne (hW _ 2 4 h_7 (by decide) (by decide) (by decide)) (hW _ 2 5 h_9 (by decide) (by decide) (by decide)) (by decide)) (th_ne (hW _ 2 4 h_7 (by decide) (by decide) (by decide)) (hW _ 2 6 h_9 (by decide) (by decide) (by decide)) (by decide))))))) p_8_5)))), (Eq.trans (fi_q (hU_13.2.2 _ (th_ne (hW _ 2 4 h_7 (by decide) (by decide) (by decide)) ha0 (by decide)))) (Eq.trans (fi_q (hU_12.2.2 _ (th_ne (hW _ 2 4 h_7 (by decide) (by decide) (by decide)) ha0 (by decide)))) (Eq.trans (fi_q (hU_11.2.2 _ (th_ne (hW _ 2 4 h_7 (by decide) (by decide) (by decide)) ha0 (by decide)))) (Eq.trans (fi_q (hk_10 _ (fun h => h.elim (th_ne (hW _ 2 4 h_7 (by decide) (by decide) (by decide)) h_9 (by decide)) (fun h => h.elim hn_11 (fun h => h.elim (th_ne (hW _ 2 4 h_7 (by decide) (by decide) (by decide)) (hW _ 2 5 h_9 (by decide) (by decide) (by decide)) (by decide)) (th_ne (hW _ 2 4 h_7 (by decide) (by decide) (by decide)) (hW _ 2 6 h_9 (by decide) (by decide) (by decide)) (by decide))))))) p_8_4)))), (Eq.trans (fl_q (hU_13.2.2 _ (th_ne (hW _ 2 4 h_7 (by decide) (by decide) (by decide)) ha0 (by decide)))) (Eq.trans (fl_q (hU_12.2.2 _ (th_ne (hW _ 2 4 h_7 (by decide) (by decide) (by decide)) ha0 (by decide)))) (Eq.trans (fl_q (hU_11.2.2 _ (th_ne (hW _ 2 4 h_7 (by decide) (by decide) (by decide)) ha0 (by decide)))) (Eq.trans (fl_q (hk_10 _ (fun h => h.elim (th_ne (hW _ 2 4 h_7 (by decide) (by decide) (by decide)) h_9 (by decide)) (fun h => h.elim hn_11 (fun h => h.elim (th_ne (hW _ 2 4 h_7 (by decide) (by decide) (by decide)) (hW _ 2 5 h_9 (by decide) (by decide) (by decide)) (by decide)) (th_ne (hW _ 2 4 h_7 (by decide) (by decide) (by decide)) (hW _ 2 6 h_9 (by decide) (by decide) (by decide)) (by decide))))))) p_8_3)))), (Eq.trans (fi_q (hU_13.2.2 _ (th_ne h_7 ha0 (by decide)))) (Eq.trans (fi_q (hU_12.2.2 _ (th_ne h_7 ha0 (by decide)))) (Eq.trans (fi_q (hU_11.2.2 _ (th_ne h_7 ha0 (by decide)))) (Eq.trans (fi_q (hk_10 _ (fun h => h.elim hn_12 (fun h => h.elim (th_ne h_7 (hW _ 2 4 h_9 (by decide) (by decide) (by decide)) (by decide)) (fun h => h.elim (th_ne h_7 (hW _ 2 5 h_9 (by decide) (by decide) (by decide)) (by decide)) (th_ne h_7 (hW _ 2 6 h_9 (by decide) (by decide) (by decide)) (by decide))))))) p_8_2)))), (Eq.trans (fi_q (hU_13.2.2 _ (th_ne h_7 ha0 (by decide)))) (Eq.trans (fi_q (hU_12.2.2 _ (th_ne h_7 ha0 (by decide)))) (Eq.trans (fi_q (hU_11.2.2 _ (th_ne h_7 ha0 (by decide)))) (Eq.trans (fi_q (hk_10 _ (fun h => h.elim hn_12 (fun h => h.elim (th_ne h_7 (hW _ 2 4 h_9 (by decide) (by decide) (by decide)) (by decide)) (fun h => h.elim (th_ne h_7 (hW _ 2 5 h_9 (by decide) (by decide) (by decide)) (by decide)) (th_ne h_7 (hW _ 2 6 h_9 (by decide) (by decide) (by decide)) (by decide))))))) p_8_1)))), (Eq.trans (fi_q (hU_13.2.2 _ (th_ne h_7 ha0 (by decide)))) (Eq.trans (fi_q (hU_12.2.2 _ (th_ne h_7 ha0 (by decide)))) (Eq.trans (fi_q (hU_11.2.2 _ (th_ne h_7 ha0 (by decide)))) (Eq.trans (fi_q (hk_10 _ (fun h => h.elim hn_12 (fun h => h.elim (th_ne h_7 (hW _ 2 4 h_9 (by decide) (by decide) (by decide)) (by decide)) (fun h => h.elim (th_ne h_7 (hW _ 2 5 h_9 (by decide) (by decide) (by decide)) (by decide)) (th_ne h_7 (hW _ 2 6 h_9 (by decide) (by decide) (by decide)) (by decide))))))) p_8_0)))), (Eq.trans (fi_q (hU_13.2.2 _ (th_ne (hW _ 2 6 h_9 (by decide) (by decide) (by decide)) ha0 (by decide)))) (Eq.trans (fi_q (hU_12.2.2 _ (th_ne (hW _ 2 6 h_9 (by decide) (by decide) (by decide)) ha0 (by decide)))) (Eq.trans (fi_q (hU_11.2.2 _ (th_ne (hW _ 2 6 h_9 (by decide) (by decide) (by decide)) ha0 (by decide)))) p_10_21))), (Eq.trans (fi_q (hU_13.2.2 _ (th_ne (hW _ 2 6 h_9 (by decide) (by decide) (by decide)) ha0 (by decide)))) (Eq.trans (fi_q (hU_12.2.2 _ (th_ne (hW _ 2 6 h_9 (by decide) (by decide) (by decide)) ha0 (by decide)))) (Eq.trans (fi_q (hU_11.2.2 _ (th_ne (hW _ 2 6 h_9 (by decide) (by decide) (by decide)) ha0 (by decide)))) p_10_20))), (Eq.trans (fi_q (hU_13.2.2 _ (th_ne (hW _ 2 6 h_9 (by decide) (by decide) (by decide)) ha0 (by decide)))) (Eq.trans (fi_q (hU_12.2.2 _ (th_ne (hW _ 2 6 h_9 (by decide) (by decide) (by decide)) ha0 (by decide)))) (Eq.trans (fi_q (hU_11.2.2 _ (th_ne (hW _ 2 6 h_9 (by decide) (by decide) (by decide)) ha0 (by decide)))) p_10_19))), (Eq.trans (fi_q (hU_13.2.2 _ (th_ne (hW _ 2 6 h_9 (by decide) (by decide) (by decide)) ha0 (by decide)))) (Eq.trans (fi_q (hU_12.2.2 _ (th_ne (hW _ 2 6 h_9 (by decide) (by decide) (by decide)) ha0 (by decide)))) (Eq.trans (fi_q (hU_11.2.2 _ (th_ne (hW _ 2 6 h_9 (by decide) (by decide) (by decide)) ha0 (by decide)))) p_10_18))), (Eq.trans (fi_q (hU_13.2.2 _ (th_ne (hW _ 2 6 h_9 (by decide) (by decide) (by decide)) ha0 (by decide)))) (Eq.trans (fi_q (hU_12.2.2 _ (th_ne (hW _ 2 6 h_9 (by decide) (by decide) (by decide)) ha0 (by decide)))) (Eq.trans (fi_q (hU_11.2.2 _ (th_ne (hW _ 2 6 h_9 (by decide) (by decide) (by decide)) ha0 (by decide)))) p_10_17))), (Eq.trans (fi_q (hU_13.2.2 _ (th_ne (hW _ 2 6 h_9 (by decide) (by decide) (by decide)) ha0 (by decide)))) (Eq.trans (fi_q (hU_12.2.2 _ (th_ne (hW _ 2 6 h_9 (by decide) (by decide) (by decide)) ha0 (by decide)))) (Eq.trans (fi_q (hU_11.2.2 _ (th_ne (hW _ 2 6 h_9 (by decide) (by decide) (by decide)) ha0 (by decide)))) p_10_16))), (Eq.trans (fi_q (hU_13.2.2 _ (th_ne (hW _ 2 5 h_9 (by decide) (by decide) (by decide)) ha0 (by decide)))) (Eq.trans (fi_q (hU_12.2.2 _ (th_ne (hW _ 2 5 h_9 (by decide) (by decide) (by decide)) ha0 (by decide)))) (Eq.trans (fi_q (hU_11.2.2 _ (th_ne (hW _ 2 5 h_9 (by decide) (by decide) (by decide)) ha0 (by decide)))) p_10_15))), (Eq.trans (fi_q (hU_13.2.2 _ (th_ne (hW _ 2 5 h_9 (by decide) (by decide) (by decide)) ha0 (by decide)))) (Eq.trans (fi_q (hU_12.2.2 _ (th_ne (hW _ 2 5 h_9 (by decide) (by decide) (by decide)) ha0 (by decide)))) (Eq.trans (fi_q (hU_11.2.2 _ (th_ne (hW _ 2 5 h_9 (by decide) (by decide) (by decide)) ha0 (by decide)))) p_10_14))), (Eq.trans (fi_q (hU_13.2.2 _ (th_ne (hW _ 2 5 h_9 (by decide) (by decide) (by decide)) ha0 (by decide)))) (Eq.trans (fi_q (hU_12.2.2 _ (th_ne (hW _ 2 5 h_9 (by decide) (by decide) (by decide)) ha0 (by decide)))) (Eq.trans (fi_q (hU_11.2.2 _ (th_ne (hW _ 2 5 h_9 (by decide) (by decide) (by decide)) ha0 (by decide)))) p_10_12))), (Eq.trans (fi_q (hU_13.2.2 _ (th_ne (hW _ 2 5 h_9 (by decide) (by decide) (by decide)) ha0 (by decide)))) (Eq.trans (fi_q (hU_12.2.2 _ (th_ne (hW _ 2 5 h_9 (by decide) (by decide) (by decide)) ha0 (by decide)))) (Eq.trans (fi_q (hU_11.2.2 _ (th_ne (hW _ 2 5 h_9 (by decide) (by decide) (by decide)) ha0 (by decide)))) p_10_11))), (Eq.trans (fl_q (hU_13.2.2 _ (th_ne (hW _ 2 5 h_9 (by decide) (by decide) (by decide)) ha0 (by decide)))) (Eq.trans (fl_q (hU_12.2.2 _ (th_ne (hW _ 2 5 h_9 (by decide) (by decide) (by decide)) ha0 (by decide)))) (Eq.trans (fl_q (hU_11.2.2 _ (th_ne (hW _ 2 5 h_9 (by decide) (by decide) (by decide)) ha0 (by decide)))) p_10_10))), (Eq.trans (fi_q (hU_13.2.2 _ (th_ne (hW _ 2 4 h_9 (by decide) (by decide) (by decide)) ha0 (by decide)))) (Eq.trans (fi_q (hU_12.2.2 _ (th_ne (hW _ 2 4 h_9 (by decide) (by decide) (by decide)) ha0 (by decide)))) (Eq.trans (fi_q (hU_11.2.2 _ (th_ne (hW _ 2 4 h_9 (by decide) (by decide) (by decide)) ha0 (by decide)))) p_10_9))), (Eq.trans (fi_q (hU_13.2.2 _ (th_ne (hW _ 2 4 h_9 (by decide) (by decide) (by decide)) ha0 (by decide)))) (Eq.trans (fi_q (hU_12.2.2 _ (th_ne (hW _ 2 4 h_9 (by decide) (by decide) (by decide)) ha0 (by decide)))) (Eq.trans (fi_q (hU_11.2.2 _ (th_ne (hW _ 2 4 h_9 (by decide) (by decide) (by decide)) ha0 (by decide)))) p_10_8))), (Eq.trans (fi_q (hU_13.2.2 _ (th_ne (hW _ 2 4 h_9 (by decide) (by decide) (by decide)) ha0 (by decide)))) (Eq.trans (fi_q (hU_12.2.2 _ (th_ne (hW _ 2 4 h_9 (by decide) (by decide) (by decide)) ha0 (by decide)))) (Eq.trans (fi_q (hU_11.2.2 _ (th_ne (hW _ 2 4 h_9 (by decide) (by decide) (by decide)) ha0 (by decide)))) p_10_7))), (Eq.trans (fi_q (hU_13.2.2 _ (th_ne (hW _ 2 4 h_9 (by decide) (by decide) (by decide)) ha0 (by decide)))) (Eq.trans (fi_q (hU_12.2.2 _ (th_ne (hW _ 2 4 h_9 (by decide) (by decide) (by decide)) ha0 (by decide)))) (Eq.trans (fi_q (hU_11.2.2 _ (th_ne (hW _ 2 4 h_9 (by decide) (by decide) (by decide)) ha0 (by decide)))) p_10_6))), (Eq.trans (fi_q (hU_13.2.2 _ (th_ne (hW _ 2 4 h_9 (by decide) (by decide) (by decide)) ha0 (by decide)))) (Eq.trans (fi_q (hU_12.2.2 _ (th_ne (hW _ 2 4 h_9 (by decide) (by decide) (by decide)) ha0 (by decide)))) (Eq.trans (fi_q (hU_11.2.2 _ (th_ne (hW _ 2 4 h_9 (by decide) (by decide) (by decide)) ha0 (by decide)))) p_10_5))), (Eq.trans (fi_q (hU_13.2.2 _ (th_ne (hW _ 2 4 h_9 (by decide) (by decide) (by decide)) ha0 (by decide)))) (Eq.trans (fi_q (hU_12.2.2 _ (th_ne (hW _ 2 4 h_9 (by decide) (by decide) (by decide)) ha0 (by decide)))) (Eq.trans (fi_q (hU_11.2.2 _ (th_ne (hW _ 2 4 h_9 (by decide) (by decide) (by decide)) ha0 (by decide)))) p_10_4))), (Eq.trans (fl_q (hU_13.2.2 _ (th_ne (hW _ 2 4 h_9 (by decide) (by decide) (by decide)) ha0 (by decide)))) (Eq.trans (fl_q (hU_12.2.2 _ (th_ne (hW _ 2 4 h_9 (by decide) (by decide) (by decide)) ha0 (by decide)))) (Eq.trans (fl_q (hU_11.2.2 _ (th_ne (hW _ 2 4 h_9 (by decide) (by decide) (by decide)) ha0 (by decide)))) p_10_3))), (Eq.trans (fi_q (hU_13.2.2 _ (th_ne h_9 ha0 (by decide)))) (Eq.trans (fi_q (hU_12.2.2 _ (th_ne h_9 ha0 (by decide)))) (Eq.trans (fi_q (hU_11.2.2 _ (th_ne h_9 ha0 (by decide)))) p_10_2))), (Eq.trans (fi_q (hU_13.2.2 _ (th_ne h_9 ha0 (by decide)))) (Eq.trans (fi_q (hU_12.2.2 _ (th_ne h_9 ha0 (by decide)))) (Eq.trans (fi_q (hU_11.2.2 _ (th_ne h_9 ha0 (by decide)))) p_10_1))), (Eq.trans (fi_q (hU_13.2.2 _ (th_ne h_9 ha0 (by decide)))) (Eq.trans (fi_q (hU_12.2.2 _ (th_ne h_9 ha0 (by decide)))) (Eq.trans (fi_q (hU_11.2.2 _ (th_ne h_9 ha0 (by decide)))) p_10_0))), (Eq.trans (PU.io hU_13 (j := 7) (by decide) (by decide)) (Eq.trans (PU.io hU_12 (j := 7) (by decide) (by decide)) (PU.i hU_11))), (Eq.trans (PU.io hU_13 (j := 8) (by decide) (by decide)) (PU.i hU_12)), (PU.i hU_13)⟩ dX4_setUp_54
set_option maxHeartbeats 4000000 in
set_option maxRecDepth 100000 in
/-- StreamEnds.lay -/
theorem c_X11_lay (l : Launch) (D : va_G) (cI cS : ClassId) (τ : Nat → Option Nat) (ρ : Nat → Nat → Nat) (hW : WF τ ρ) (H : Heap) (hT : TH D cI cS τ ρ H) (a0 : Nat) (ha0 : τ a0 = some 11) (hf_1 : fi D 9 1 H (ρ a0 0) = 0) (hn_2 : ρ a0 1 ≠ ρ (ρ a0 2) 0) (hn_3 : ρ (ρ (ρ a0 2) 3) 1 ≠ ρ (ρ a0 2) 2) (hn_4 : ρ (ρ (ρ a0 2) 3) 1 ≠ ρ (ρ a0 2) 1) (hn_5 : ρ (ρ (ρ a0 2) 3) 6 ≠ ρ (ρ (ρ a0 2) 4) 6) (hn_6 : ρ (ρ (ρ a0 2) 3) 5 ≠ ρ (ρ (ρ a0 2) 4) 5) (hn_7 : ρ (ρ (ρ a0 2) 3) 4 ≠ ρ (ρ (ρ a0 2) 4) 4) (hn_8 : ρ (ρ a0 2) 3 ≠ ρ (ρ a0 2) 4) : MI l D cI cS τ ρ yX11_lay cX11_lay 1 (some .int) 3 62 H [.ref a0] (fun (r : Int32) (u : Heap) => 4 = r ∧ fi D 1 0 u (ρ a0 1) = 4 ∧ fi D 1 1 u (ρ a0 1) = 16 ∧ fi D 1 2 u (ρ a0 1) = 0 ∧ fi D 1 3 u (ρ a0 1) = 0 ∧ fi D 1 4 u (ρ a0 1) = 5 ∧ fi D 4 9 u (ρ a0 2) = 0 ∧ fi D 4 8 u (ρ a0 2) = (-4) ∧ fi D 4 7 u (ρ a0 2) = (-4) ∧ fi D 2 9 u (ρ (ρ a0 2) 4) = 0 ∧ fi D 2 8 u (ρ (ρ a0 2) 4) = 0 ∧ fi D 2 7 u (ρ (ρ a0 2) 4) = 0 ∧ fl D 5 6 u (ρ (ρ (ρ a0 2) 4) 4) = 0 ∧ fi D 5 5 u (ρ (ρ (ρ a0 2) 4) 4) = 0 ∧ fi D 5 4 u (ρ (ρ (ρ a0 2) 4) 4) = 0 ∧ fi D 5 3 u (ρ (ρ (ρ a0 2) 4) 4) = 0 ∧ fi D 5 2 u (ρ (ρ (ρ a0 2) 4) 4) = 1 ∧ fi D 5 1 u (ρ (ρ (ρ a0 2) 4) 4) = 0 ∧ fi D 5 0 u (ρ (ρ (ρ a0 2) 4) 4) = 0 ∧ fl D 3 5 u (ρ (ρ (ρ a0 2) 4) 5) = 0 ∧ fi D 3 4 u (ρ (ρ (ρ a0 2) 4) 5) = 0 ∧ fi D 3 3 u (ρ (ρ (ρ a0 2) 4) 5) = (-4) ∧ fi D 3 1 u (ρ (ρ (ρ a0 2) 4) 5) = 1 ∧ fi D 3 0 u (ρ (ρ (ρ a0 2) 4) 5) = 0 ∧ fi D 7 5 u (ρ (ρ (ρ a0 2) 4) 6) = 0 ∧ fi D 7 4 u (ρ (ρ (ρ a0 2) 4) 6) = 0 ∧ fi D 7 3 u (ρ (ρ (ρ a0 2) 4) 6) = (-4) ∧ fi D 7 2 u (ρ (ρ (ρ a0 2) 4) 6) = 0 ∧ fi D 7 1 u (ρ (ρ (ρ a0 2) 4) 6) = 0 ∧ fi D 7 0 u (ρ (ρ (ρ a0 2) 4) 6) = 6 ∧ fi D 2 9 u (ρ (ρ a0 2) 3) = 0 ∧ fi D 2 8 u (ρ (ρ a0 2) 3) = 0 ∧ fi D 2 7 u (ρ (ρ a0 2) 3) = 0 ∧ fl D 5 6 u (ρ (ρ (ρ a0 2) 3) 4) = 0 ∧ fi D 5 5 u (ρ (ρ (ρ a0 2) 3) 4) = 0 ∧ fi D 5 4 u (ρ (ρ (ρ a0 2) 3) 4) = 0 ∧ fi D 5 3 u (ρ (ρ (ρ a0 2) 3) 4) = 0 ∧ fi D 5 2 u (ρ (ρ (ρ a0 2) 3) 4) = 1 ∧ fi D 5 1 u (ρ (ρ (ρ a0 2) 3) 4) = 0 ∧ fi D 5 0 u (ρ (ρ (ρ a0 2) 3) 4) = 0 ∧ fl D 3 5 u (ρ (ρ (ρ a0 2) 3) 5) = 0 ∧ fi D 3 4 u (ρ (ρ (ρ a0 2) 3) 5) = 0 ∧ fi D 3 3 u (ρ (ρ (ρ a0 2) 3) 5) = (-4) ∧ fi D 3 1 u (ρ (ρ (ρ a0 2) 3) 5) = 1 ∧ fi D 3 0 u (ρ (ρ (ρ a0 2) 3) 5) = 0 ∧ fi D 7 5 u (ρ (ρ (ρ a0 2) 3) 6) = 0 ∧ fi D 7 4 u (ρ (ρ (ρ a0 2) 3) 6) = 0 ∧ fi D 7 3 u (ρ (ρ (ρ a0 2) 3) 6) = (-4) ∧ fi D 7 2 u (ρ (ρ (ρ a0 2) 3) 6) = 0 ∧ fi D 7 1 u (ρ (ρ (ρ a0 2) 3) 6) = 0 ∧ fi D 7 0 u (ρ (ρ (ρ a0 2) 3) 6) = 6 ∧ fi D 0 0 u (ρ (ρ a0 2) 2) = 0 ∧ fi D 10 2 u (ρ (ρ a0 2) 1) = 0 ∧ fi D 10 3 u (ρ (ρ a0 2) 1) = 0 ∧ fi D 10 4 u (ρ (ρ a0 2) 1) = 0 ∧ fi D 10 5 u (ρ (ρ a0 2) 1) = 0 ∧ fi D 1 0 u (ρ (ρ a0 2) 0) = 4 ∧ fi D 1 1 u (ρ (ρ a0 2) 0) = 16 ∧ fi D 1 2 u (ρ (ρ a0 2) 0) = 0 ∧ fi D 1 3 u (ρ (ρ a0 2) 0) = 0 ∧ fi D 1 4 u (ρ (ρ a0 2) 0) = 5) (fun q => q = ρ a0 1 ∨ q = ρ (ρ a0 2) 0 ∨ q = ρ (ρ a0 2) 1 ∨ q = ρ (ρ a0 2) 2 ∨ q = ρ (ρ a0 2) 3 ∨ q = ρ (ρ (ρ a0 2) 3) 4 ∨ q = ρ (ρ (ρ a0 2) 3) 5 ∨ q = ρ (ρ (ρ a0 2) 3) 6 ∨ q = ρ (ρ a0 2) 4 ∨ q = ρ (ρ (ρ a0 2) 4) 4 ∨ q = ρ (ρ (ρ a0 2) 4) 5 ∨ q = ρ (ρ (ρ a0 2) 4) 6 ∨ q = ρ a0 2) := by
  refine MI.of (by decide) (Nat.le_of_ble_eq_true rfl) ?_
  intro p e s m args below meth c E hml hr hlk hs ls hl
  have hx := E.1
  have hb := E.2.1
  have hown := E.2.2.1
  have hts := E.2.2.2.1
  have hS : SS (fun q => q = ρ a0 1 ∨ q = ρ (ρ a0 2) 0 ∨ q = ρ (ρ a0 2) 1 ∨ q = ρ (ρ a0 2) 2 ∨ q = ρ (ρ a0 2) 3 ∨ q = ρ (ρ (ρ a0 2) 3) 4 ∨ q = ρ (ρ (ρ a0 2) 3) 5 ∨ q = ρ (ρ (ρ a0 2) 3) 6 ∨ q = ρ (ρ a0 2) 4 ∨ q = ρ (ρ (ρ a0 2) 4) 4 ∨ q = ρ (ρ (ρ a0 2) 4) 5 ∨ q = ρ (ρ (ρ a0 2) 4) 6 ∨ q = ρ a0 2) H H [] := SS.rf
  have hl : lv_has ls 1 [(0, .ref a0)] := hl
  refine lv_aload_n hx hb dX11_lay_0 rfl (lv_at hl 0 rfl) ?_
  refine gf_X11_19 E hT hW ha0 dX11_lay_1 (fun h_1 => ?_)
  refine lv_aload_n hx hb dX11_lay_4 rfl (lv_at hl 0 rfl) ?_
  refine gf_X11_10 E hT hW ha0 dX11_lay_5 (fun h_2 => ?_)
  refine th_Vi (As := [.ref (ρ a0 0)]) (rest := []) E hml hl.1 (c_X1_read l D cI cS τ ρ hW H hT (ρ a0 1) (ρ a0 0) h_1 h_2 hf_1) lk_X11_54 yd_X1_read hT h_1 rfl (by decide) hS (fun q h => (Or.inl h)) ⟨by decide, by decide⟩ (Nat.le_of_ble_eq_true rfl) ⟨by decide, by decide⟩ rfl dX11_lay_8 (fun r_3 H_3 locs_3 p_3 hT_3 hk_3 hS_3 => ?_)
  have p_3 : (-4) = r_3 ∧ fi D 1 4 H_3 (ρ a0 1) = 5 ∧ fi D 1 3 H_3 (ρ a0 1) = 0 ∧ fi D 1 2 H_3 (ρ a0 1) = 0 ∧ fi D 1 1 H_3 (ρ a0 1) = 16 ∧ fi D 1 0 H_3 (ρ a0 1) = 4 := p_3
  obtain ⟨rfl, p_3_1, p_3_2, p_3_3, p_3_4, p_3_5⟩ := p_3
  refine lv_bipush (v := (-4)) hx hb dX11_lay_11 (by decide) ?_
  refine lv_icmp_ne (tgt := 26) hx hb dX11_lay_13 (by decide) (fun c_4 => absurd (by decide) c_4) (fun c_4 => ?_)
  refine lv_aload_n hx hb dX11_lay_16 rfl (lv_at hl 0 rfl) ?_
  refine gf_X11_19 E hT_3 hW ha0 dX11_lay_17 (fun h_5 => ?_)
  refine th_Vi (As := []) (rest := []) E hml hl.1 (c_X1_hasRoom l D cI cS τ ρ hW H_3 hT_3 (ρ a0 1) h_1 p_3_4 p_3_5) lk_X11_58 yd_X1_hasRoom hT_3 h_1 rfl (by decide) hS_3 (fun _ h => h.elim) ⟨by decide, by decide⟩ (Nat.le_of_ble_eq_true rfl) ⟨by decide, by decide⟩ rfl dX11_lay_20 (fun r_6 H_6 locs_6 p_6 hT_6 hk_6 hS_6 => ?_)
  have p_6 : H_3 = H_6 ∧ 1 = r_6 := p_6
  obtain ⟨rfl, rfl⟩ := p_6
  refine lv_if_ne (tgt := 29) hx hb dX11_lay_23 (by decide) (fun c_7 => ?_) (fun c_7 => absurd c_7 (by decide))
  refine lv_aload_n hx hb dX11_lay_29 rfl (lv_at hl 0 rfl) ?_
  refine gf_X11_26 E hT_6 hW ha0 dX11_lay_30 (fun h_8 => ?_)
  refine lv_aload_n hx hb dX11_lay_33 rfl (lv_at hl 0 rfl) ?_
  refine gf_X11_19 E hT_6 hW ha0 dX11_lay_34 (fun h_9 => ?_)
  refine th_Vv (As := [.ref (ρ a0 1)]) (rest := []) E hml hl.1 (c_X4_setUp l D cI cS τ ρ hW H_3 hT_6 (ρ a0 2) (ρ a0 1) h_8 h_1 p_3_5 hn_2 p_3_4 p_3_3 p_3_2 p_3_1 hn_3 hn_4 hn_5 hn_6 hn_7 hn_8) lk_X11_43 yd_X4_setUp hT_6 h_8 rfl (by decide) hS_6 (fun q => (fun h => h.elim (fun h => (Or.inr (Or.inl h))) (fun h => h.elim (fun h => (Or.inr (Or.inr (Or.inl h)))) (fun h => h.elim (fun h => (Or.inr (Or.inr (Or.inr (Or.inl h))))) (fun h => h.elim (fun h => (Or.inr (Or.inr (Or.inr (Or.inr (Or.inl h)))))) (fun h => h.elim (fun h => (Or.inr (Or.inr (Or.inr (Or.inr (Or.inr (Or.inl h))))))) (fun h => h.elim (fun h => (Or.inr (Or.inr (Or.inr (Or.inr (Or.inr (Or.inr (Or.inl h)))))))) (fun h => h.elim (fun h => (Or.inr (Or.inr (Or.inr (Or.inr (Or.inr (Or.inr (Or.inr (Or.inl h))))))))) (fun h => h.elim (fun h => (Or.inr (Or.inr (Or.inr (Or.inr (Or.inr (Or.inr (Or.inr (Or.inr (Or.inl h)))))))))) (fun h => h.elim (fun h => (Or.inr (Or.inr (Or.inr (Or.inr (Or.inr (Or.inr (Or.inr (Or.inr (Or.inr (Or.inl h))))))))))) (fun h => h.elim (fun h => (Or.inr (Or.inr (Or.inr (Or.inr (Or.inr (Or.inr (Or.inr (Or.inr (Or.inr (Or.inr (Or.inl h)))))))))))) (fun h => h.elim (fun h => (Or.inr (Or.inr (Or.inr (Or.inr (Or.inr (Or.inr (Or.inr (Or.inr (Or.inr (Or.inr (Or.inr (Or.inl h))))))))))))) (fun h => (Or.inr (Or.inr (Or.inr (Or.inr (Or.inr (Or.inr (Or.inr (Or.inr (Or.inr (Or.inr (Or.inr (Or.inr h))))))))))))))))))))))))) ⟨by decide, by decide⟩ (Nat.le_of_ble_eq_true rfl) ⟨by decide, by decide⟩ rfl dX11_lay_37 (fun H_10 locs_10 p_10 hT_10 hk_10 hS_10 => ?_)
  have p_10 : fi D 1 4 H_10 (ρ (ρ a0 2) 0) = 5 ∧ fi D 1 3 H_10 (ρ (ρ a0 2) 0) = 0 ∧ fi D 1 2 H_10 (ρ (ρ a0 2) 0) = 0 ∧ fi D 1 1 H_10 (ρ (ρ a0 2) 0) = 16 ∧ fi D 1 0 H_10 (ρ (ρ a0 2) 0) = 4 ∧ fi D 10 5 H_10 (ρ (ρ a0 2) 1) = 0 ∧ fi D 10 4 H_10 (ρ (ρ a0 2) 1) = 0 ∧ fi D 10 3 H_10 (ρ (ρ a0 2) 1) = 0 ∧ fi D 10 2 H_10 (ρ (ρ a0 2) 1) = 0 ∧ fi D 0 0 H_10 (ρ (ρ a0 2) 2) = 0 ∧ fi D 7 0 H_10 (ρ (ρ (ρ a0 2) 3) 6) = 6 ∧ fi D 7 1 H_10 (ρ (ρ (ρ a0 2) 3) 6) = 0 ∧ fi D 7 2 H_10 (ρ (ρ (ρ a0 2) 3) 6) = 0 ∧ fi D 7 3 H_10 (ρ (ρ (ρ a0 2) 3) 6) = (-4) ∧ fi D 7 4 H_10 (ρ (ρ (ρ a0 2) 3) 6) = 0 ∧ fi D 7 5 H_10 (ρ (ρ (ρ a0 2) 3) 6) = 0 ∧ fi D 3 0 H_10 (ρ (ρ (ρ a0 2) 3) 5) = 0 ∧ fi D 3 1 H_10 (ρ (ρ (ρ a0 2) 3) 5) = 1 ∧ fi D 3 3 H_10 (ρ (ρ (ρ a0 2) 3) 5) = (-4) ∧ fi D 3 4 H_10 (ρ (ρ (ρ a0 2) 3) 5) = 0 ∧ fl D 3 5 H_10 (ρ (ρ (ρ a0 2) 3) 5) = 0 ∧ fi D 5 0 H_10 (ρ (ρ (ρ a0 2) 3) 4) = 0 ∧ fi D 5 1 H_10 (ρ (ρ (ρ a0 2) 3) 4) = 0 ∧ fi D 5 2 H_10 (ρ (ρ (ρ a0 2) 3) 4) = 1 ∧ fi D 5 3 H_10 (ρ (ρ (ρ a0 2) 3) 4) = 0 ∧ fi D 5 4 H_10 (ρ (ρ (ρ a0 2) 3) 4) = 0 ∧ fi D 5 5 H_10 (ρ (ρ (ρ a0 2) 3) 4) = 0 ∧ fl D 5 6 H_10 (ρ (ρ (ρ a0 2) 3) 4) = 0 ∧ fi D 2 7 H_10 (ρ (ρ a0 2) 3) = 0 ∧ fi D 2 8 H_10 (ρ (ρ a0 2) 3) = 0 ∧ fi D 2 9 H_10 (ρ (ρ a0 2) 3) = 0 ∧ fi D 7 0 H_10 (ρ (ρ (ρ a0 2) 4) 6) = 6 ∧ fi D 7 1 H_10 (ρ (ρ (ρ a0 2) 4) 6) = 0 ∧ fi D 7 2 H_10 (ρ (ρ (ρ a0 2) 4) 6) = 0 ∧ fi D 7 3 H_10 (ρ (ρ (ρ a0 2) 4) 6) = (-4) ∧ fi D 7 4 H_10 (ρ (ρ (ρ a0 2) 4) 6) = 0 ∧ fi D 7 5 H_10 (ρ (ρ (ρ a0 2) 4) 6) = 0 ∧ fi D 3 0 H_10 (ρ (ρ (ρ a0 2) 4) 5) = 0 ∧ fi D 3 1 H_10 (ρ (ρ (ρ a0 2) 4) 5) = 1 ∧ fi D 3 3 H_10 (ρ (ρ (ρ a0 2) 4) 5) = (-4) ∧ fi D 3 4 H_10 (ρ (ρ (ρ a0 2) 4) 5) = 0 ∧ fl D 3 5 H_10 (ρ (ρ (ρ a0 2) 4) 5) = 0 ∧ fi D 5 0 H_10 (ρ (ρ (ρ a0 2) 4) 4) = 0 ∧ fi D 5 1 H_10 (ρ (ρ (ρ a0 2) 4) 4) = 0 ∧ fi D 5 2 H_10 (ρ (ρ (ρ a0 2) 4) 4) = 1 ∧ fi D 5 3 H_10 (ρ (ρ (ρ a0 2) 4) 4) = 0 ∧ fi D 5 4 H_10 (ρ (ρ (ρ a0 2) 4) 4) = 0 ∧ fi D 5 5 H_10 (ρ (ρ (ρ a0 2) 4) 4) = 0 ∧ fl D 5 6 H_10 (ρ (ρ (ρ a0 2) 4) 4) = 0 ∧ fi D 2 7 H_10 (ρ (ρ a0 2) 4) = 0 ∧ fi D 2 8 H_10 (ρ (ρ a0 2) 4) = 0 ∧ fi D 2 9 H_10 (ρ (ρ a0 2) 4) = 0 ∧ fi D 4 7 H_10 (ρ a0 2) = (-4) ∧ fi D 4 8 H_10 (ρ a0 2) = (-4) ∧ fi D 4 9 H_10 (ρ a0 2) = 0 := p_10
  obtain ⟨p_10_0, p_10_1, p_10_2, p_10_3, p_10_4, p_10_5, p_10_6, p_10_7, p_10_8, p_10_9, p_10_10, p_10_11, p_10_12, p_10_13, p_10_14, p_10_15, p_10_16, p_10_17, p_10_18, p_10_19, p_10_20, p_10_21, p_10_22, p_10_23, p_10_24, p_10_25, p_10_26, p_10_27, p_10_28, p_10_29, p_10_30, p_10_31, p_10_32, p_10_33, p_10_34, p_10_35, p_10_36, p_10_37, p_10_38, p_10_39, p_10_40, p_10_41, p_10_42, p_10_43, p_10_44, p_10_45, p_10_46, p_10_47, p_10_48, p_10_49, p_10_50, p_10_51, p_10_52, p_10_53, p_10_54⟩ := p_10
  refine lv_aload_n hx hb dX11_lay_40 rfl (lv_at hl 0 rfl) ?_
  refine gf_X11_19 E hT_10 hW ha0 dX11_lay_41 (fun h_11 => ?_)
  refine gf_X11_62 E hT_10 h_1 dX11_lay_44 ?_
  refine th_topi (y := 4) (Eq.trans (fi_q (hk_10 _ (fun h => h.elim hn_2 (fun h => h.elim (th_ne h_1 (hW _ 4 1 h_8 (by decide) (by decide) (by decide)) (by decide)) (fun h => h.elim (th_ne h_1 (hW _ 4 2 h_8 (by decide) (by decide) (by decide)) (by decide)) (fun h => h.elim (th_ne h_1 (hW _ 4 3 h_8 (by decide) (by decide) (by decide)) (by decide)) (fun h => h.elim (th_ne h_1 (hW _ 2 4 (hW _ 4 3 h_8 (by decide) (by decide) (by decide)) (by decide) (by decide) (by decide)) (by decide)) (fun h => h.elim (th_ne h_1 (hW _ 2 5 (hW _ 4 3 h_8 (by decide) (by decide) (by decide)) (by decide) (by decide) (by decide)) (by decide)) (fun h => h.elim (th_ne h_1 (hW _ 2 6 (hW _ 4 3 h_8 (by decide) (by decide) (by decide)) (by decide) (by decide) (by decide)) (by decide)) (fun h => h.elim (th_ne h_1 (hW _ 4 4 h_8 (by decide) (by decide) (by decide)) (by decide)) (fun h => h.elim (th_ne h_1 (hW _ 2 4 (hW _ 4 4 h_8 (by decide) (by decide) (by decide)) (by decide) (by decide) (by decide)) (by decide)) (fun h => h.elim (th_ne h_1 (hW _ 2 5 (hW _ 4 4 h_8 (by decide) (by decide) (by decide)) (by decide) (by decide) (by decide)) (by decide)) (fun h => h.elim (th_ne h_1 (hW _ 2 6 (hW _ 4 4 h_8 (by decide) (by decide) (by decide)) (by decide) (by decide) (by decide)) (by decide)) (th_ne h_1 h_8 (by decide))))))))))))))) p_3_5) ?_
  exact th_iret E hr hlk hs hT_10 hS_10 ⟨rfl, (Eq.trans (fi_q (hk_10 _ (fun h => h.elim hn_2 (fun h => h.elim (th_ne h_1 (hW _ 4 1 h_8 (by decide) (by decide) (by decide)) (by decide)) (fun h => h.elim (th_ne h_1 (hW _ 4 2 h_8 (by decide) (by decide) (by decide)) (by decide)) (fun h => h.elim (th_ne h_1 (hW _ 4 3 h_8 (by decide) (by decide) (by decide)) (by decide)) (fun h => h.elim (th_ne h_1 (hW _ 2 4 (hW _ 4 3 h_8 (by decide) (by decide) (by decide)) (by decide) (by decide) (by decide)) (by decide)) (fun h => h.elim (th_ne h_1 (hW _ 2 5 (hW _ 4 3 h_8 (by decide) (by decide) (by decide)) (by decide) (by decide) (by decide)) (by decide)) (fun h => h.elim (th_ne h_1 (hW _ 2 6 (hW _ 4 3 h_8 (by decide) (by decide) (by decide)) (by decide) (by decide) (by decide)) (by decide)) (fun h => h.elim (th_ne h_1 (hW _ 4 4 h_8 (by decide) (by decide) (by decide)) (by decide)) (fun h => h.elim (th_ne h_1 (hW _ 2 4 (hW _ 4 4 h_8 (by decide) (by decide) (by decide)) (by decide) (by decide) (by decide)) (by decide)) (fun h => h.elim (th_ne h_1 (hW _ 2 5 (hW _ 4 4 h_8 (by decide) (by decide) (by decide)) (by decide) (by decide) (by decide)) (by decide)) (fun h => h.elim (th_ne h_1 (hW _ 2 6 (hW _ 4 4 h_8 (by decide) (by decide) (by decide)) (by decide) (by decide) (by decide)) (by decide)) (th_ne h_1 h_8 (by decide))))))))))))))) p_3_5), (Eq.trans (fi_q (hk_10 _ (fun h => h.elim hn_2 (fun h => h.elim (th_ne h_1 (hW _ 4 1 h_8 (by decide) (by decide) (by decide)) (by decide)) (fun h => h.elim (th_ne h_1 (hW _ 4 2 h_8 (by decide) (by decide) (by decide)) (by decide)) (fun h => h.elim (th_ne h_1 (hW _ 4 3 h_8 (by decide) (by decide) (by decide)) (by decide)) (fun h => h.elim (th_ne h_1 (hW _ 2 4 (hW _ 4 3 h_8 (by decide) (by decide) (by decide)) (by decide) (by decide) (by decide)) (by decide)) (fun h => h.elim (th_ne h_1 (hW _ 2 5 (hW _ 4 3 h_8 (by decide) (by decide) (by decide)) (by decide) (by decide) (by decide)) (by decide)) (fun h => h.elim (th_ne h_1 (hW _ 2 6 (hW _ 4 3 h_8 (by decide) (by decide) (by decide)) (by decide) (by decide) (by decide)) (by decide)) (fun h => h.elim (th_ne h_1 (hW _ 4 4 h_8 (by decide) (by decide) (by decide)) (by decide)) (fun h => h.elim (th_ne h_1 (hW _ 2 4 (hW _ 4 4 h_8 (by decide) (by decide) (by decide)) (by decide) (by decide) (by decide)) (by decide)) (fun h => h.elim (th_ne h_1 (hW _ 2 5 (hW _ 4 4 h_8 (by decide) (by decide) (by decide)) (by decide) (by decide) (by decide)) (by decide)) (fun h => h.elim (th_ne h_1 (hW _ 2 6 (hW _ 4 4 h_8 (by decide) (by decide) (by decide)) (by decide) (by decide) (by decide)) (by decide)) (th_ne h_1 h_8 (by decide))))))))))))))) p_3_4), (Eq.trans (fi_q (hk_10 _ (fun h => h.elim hn_2 (fun h => h.elim (th_ne h_1 (hW _ 4 1 h_8 (by decide) (by decide) (by decide)) (by decide)) (fun h => h.elim (th_ne h_1 (hW _ 4 2 h_8 (by decide) (by decide) (by decide)) (by decide)) (fun h => h.elim (th_ne h_1 (hW _ 4 3 h_8 (by decide) (by decide) (by decide)) (by decide)) (fun h => h.elim (th_ne h_1 (hW _ 2 4 (hW _ 4 3 h_8 (by decide) (by decide) (by decide)) (by decide) (by decide) (by decide)) (by decide)) (fun h => h.elim (th_ne h_1 (hW _ 2 5 (hW _ 4 3 h_8 (by decide) (by decide) (by decide)) (by decide) (by decide) (by decide)) (by decide)) (fun h => h.elim (th_ne h_1 (hW _ 2 6 (hW _ 4 3 h_8 (by decide) (by decide) (by decide)) (by decide) (by decide) (by decide)) (by decide)) (fun h => h.elim (th_ne h_1 (hW _ 4 4 h_8 (by decide) (by decide) (by decide)) (by decide)) (fun h => h.elim (th_ne h_1 (hW _ 2 4 (hW _ 4 4 h_8 (by decide) (by decide) (by decide)) (by decide) (by decide) (by decide)) (by decide)) (fun h => h.elim (th_ne h_1 (hW _ 2 5 (hW _ 4 4 h_8 (by decide) (by decide) (by decide)) (by decide) (by decide) (by decide)) (by decide)) (fun h => h.elim (th_ne h_1 (hW _ 2 6 (hW _ 4 4 h_8 (by decide) (by decide) (by decide)) (by decide) (by decide) (by decide)) (by decide)) (th_ne h_1 h_8 (by decide))))))))))))))) p_3_3), (Eq.trans (fi_q (hk_10 _ (fun h => h.elim hn_2 (fun h => h.elim (th_ne h_1 (hW _ 4 1 h_8 (by decide) (by decide) (by decide)) (by decide)) (fun h => h.elim (th_ne h_1 (hW _ 4 2 h_8 (by decide) (by decide) (by decide)) (by decide)) (fun h => h.elim (th_ne h_1 (hW _ 4 3 h_8 (by decide) (by decide) (by decide)) (by decide)) (fun h => h.elim (th_ne h_1 (hW _ 2 4 (hW _ 4 3 h_8 (by decide) (by decide) (by decide)) (by decide) (by decide) (by decide)) (by decide)) (fun h => h.elim (th_ne h_1 (hW _ 2 5 (hW _ 4 3 h_8 (by decide) (by decide) (by decide)) (by decide) (by decide) (by decide)) (by decide)) (fun h => h.elim (th_ne h_1 (hW _ 2 6 (hW _ 4 3 h_8 (by decide) (by decide) (by decide)) (by decide) (by decide) (by decide)) (by decide)) (fun h => h.elim (th_ne h_1 (hW _ 4 4 h_8 (by decide) (by decide) (by decide)) (by decide)) (fun h => h.elim (th_ne h_1 (hW _ 2 4 (hW _ 4 4 h_8 (by decide) (by decide) (by decide)) (by decide) (by decide) (by decide)) (by decide)) (fun h => h.elim (th_ne h_1 (hW _ 2 5 (hW _ 4 4 h_8 (by decide) (by decide) (by decide)) (by decide) (by decide) (by decide)) (by decide)) (fun h => h.elim (th_ne h_1 (hW _ 2 6 (hW _ 4 4 h_8 (by decide) (by decide) (by decide)) (by decide) (by decide) (by decide)) (by decide)) (th_ne h_1 h_8 (by decide))))))))))))))) p_3_2), (Eq.trans (fi_q (hk_10 _ (fun h => h.elim hn_2 (fun h => h.elim (th_ne h_1 (hW _ 4 1 h_8 (by decide) (by decide) (by decide)) (by decide)) (fun h => h.elim (th_ne h_1 (hW _ 4 2 h_8 (by decide) (by decide) (by decide)) (by decide)) (fun h => h.elim (th_ne h_1 (hW _ 4 3 h_8 (by decide) (by decide) (by decide)) (by decide)) (fun h => h.elim (th_ne h_1 (hW _ 2 4 (hW _ 4 3 h_8 (by decide) (by decide) (by decide)) (by decide) (by decide) (by decide)) (by decide)) (fun h => h.elim (th_ne h_1 (hW _ 2 5 (hW _ 4 3 h_8 (by decide) (by decide) (by decide)) (by decide) (by decide) (by decide)) (by decide)) (fun h => h.elim (th_ne h_1 (hW _ 2 6 (hW _ 4 3 h_8 (by decide) (by decide) (by decide)) (by decide) (by decide) (by decide)) (by decide)) (fun h => h.elim (th_ne h_1 (hW _ 4 4 h_8 (by decide) (by decide) (by decide)) (by decide)) (fun h => h.elim (th_ne h_1 (hW _ 2 4 (hW _ 4 4 h_8 (by decide) (by decide) (by decide)) (by decide) (by decide) (by decide)) (by decide)) (fun h => h.elim (th_ne h_1 (hW _ 2 5 (hW _ 4 4 h_8 (by decide) (by decide) (by decide)) (by decide) (by decide) (by decide)) (by decide)) (fun h => h.elim (th_ne h_1 (hW _ 2 6 (hW _ 4 4 h_8 (by decide) (by decide) (by decide)) (by decide) (by decide) (by decide)) (by decide)) (th_ne h_1 h_8 (by decide))))))))))))))) p_3_1), p_10_54, p_10_53, p_10_52, p_10_51, p_10_50, p_10_49, p_10_48, p_10_47, p_10_46, p_10_45, p_10_44, p_10_43, p_10_42, p_10_41, p_10_40, p_10_39, p_10_38, p_10_37, p_10_36, p_10_35, p_10_34, p_10_33, p_10_32, p_10_31, p_10_30, p_10_29, p_10_28, p_10_27, p_10_26, p_10_25, p_10_24, p_10_23, p_10_22, p_10_21, p_10_20, p_10_19, p_10_18, p_10_17, p_10_16, p_10_15, p_10_14, p_10_13, p_10_12, p_10_11, p_10_10, p_10_9, p_10_8, p_10_7, p_10_6, p_10_5, p_10_4, p_10_3, p_10_2, p_10_1, p_10_0⟩ dX11_lay_47
set_option maxHeartbeats 4000000 in
set_option maxRecDepth 100000 in
/-- StreamEnds.isEnd -/
theorem c_X11_isEnd (l : Launch) (D : va_G) (cI cS : ClassId) (τ : Nat → Option Nat) (ρ : Nat → Nat → Nat) (hW : WF τ ρ) (H : Heap) (hT : TH D cI cS τ ρ H) (x0 : Int32) (bh_x0 : x0.toInt ≤ -1) : MI l D cI cS τ ρ yX11_isEnd cX11_isEnd 1 (some .boolean) 0 0 H [.int x0] (fun (r : Int32) (u : Heap) => H = u ∧ 0 = r) (fun q => False) := by
  refine MI.of (by decide) (Nat.le_of_ble_eq_true rfl) ?_
  intro p e s m args below meth c E hml hr hlk hs ls hl
  have hx := E.1
  have hb := E.2.1
  have hown := E.2.2.1
  have hts := E.2.2.2.1
  have hS : SS (fun q => False) H H [] := SS.rf
  have hl : lv_has ls 1 [(0, .int x0)] := hl
  refine lv_iload_n hx hb dX11_isEnd_0 rfl (lv_at hl 0 rfl) ?_
  refine lv_if_eq (tgt := 9) hx hb dX11_isEnd_1 (by decide) (fun c_1 => False.elim (by (have : (0 : Int32).toInt = 0 := (by decide); have := congrArg Int32.toInt c_1; omega))) (fun c_1 => ?_)
  refine lv_iload_n hx hb dX11_isEnd_4 rfl (lv_at hl 0 rfl) ?_
  refine lv_iconst (v := 1) hx hb dX11_isEnd_5 (by decide) ?_
  refine lv_icmp_ne (tgt := 13) hx hb dX11_isEnd_6 (by decide) (fun c_2 => ?_) (fun c_2 => False.elim (by (have : (1 : Int32).toInt = 1 := (by decide); have := congrArg Int32.toInt c_2; omega)))
  refine lv_iconst (v := 0) hx hb dX11_isEnd_13 (by decide) ?_
  exact th_zret E hr hlk hs (Or.inl rfl) hT hS ⟨rfl, rfl⟩ dX11_isEnd_14
set_option maxHeartbeats 4000000 in
set_option maxRecDepth 100000 in
/-- StreamEnds.open -/
theorem c_X11_open (l : Launch) (D : va_G) (cI cS : ClassId) (τ : Nat → Option Nat) (ρ : Nat → Nat → Nat) (hW : WF τ ρ) (H : Heap) (hT : TH D cI cS τ ρ H) (a0 : Nat) (x0 : Int32) (x1 : Int32) (ha0 : τ a0 = some 11) (bh_x0 : x0.toInt ≤ -1) : MI l D cI cS τ ρ yX11_open cX11_open 4 (some .int) 1 20 H [.ref a0, .int x0, .int x1] (fun (r : Int32) (u : Heap) => H = u ∧ (-1) = r) (fun q => False) := by
  refine MI.of (by decide) (Nat.le_of_ble_eq_true rfl) ?_
  intro p e s m args below meth c E hml hr hlk hs ls hl
  have hx := E.1
  have hb := E.2.1
  have hown := E.2.2.1
  have hts := E.2.2.2.1
  have hS : SS (fun q => False) H H [] := SS.rf
  have hl : lv_has ls 4 [(0, .ref a0), (1, .int x0), (2, .int x1)] := hl
  refine lv_iload_n hx hb dX11_open_0 rfl (lv_at hl 1 rfl) ?_
  refine th_Si (As := [.int x0]) (rest := []) E hml hl.1 (c_X11_isEnd l D cI cS τ ρ hW H hT x0 (by (omega))) lk_X11_65 yd_X11_isEnd hS (fun _ h => h.elim) ⟨by decide, by decide⟩ (Nat.le_of_ble_eq_true rfl) ⟨by decide, by decide⟩ rfl dX11_open_1 (fun r_1 H_1 locs_1 p_1 hT_1 hk_1 hS_1 => ?_)
  have p_1 : H = H_1 ∧ 0 = r_1 := p_1
  obtain ⟨rfl, rfl⟩ := p_1
  refine lv_if_eq (tgt := 16) hx hb dX11_open_4 (by decide) (fun c_2 => ?_) (fun c_2 => absurd (by decide) c_2)
  refine lv_iconst (v := (-1)) hx hb dX11_open_16 (by decide) ?_
  exact th_iret E hr hlk hs hT_1 hS_1 ⟨rfl, rfl⟩ dX11_open_17
set_option maxHeartbeats 4000000 in
set_option maxRecDepth 100000 in
/-- StreamEnds.say -/
theorem c_X11_say (l : Launch) (D : va_G) (cI cS : ClassId) (τ : Nat → Option Nat) (ρ : Nat → Nat → Nat) (hW : WF τ ρ) (H : Heap) (hT : TH D cI cS τ ρ H) (a0 : Nat) (x0 : Int32) (x1 : Int32) (ha0 : τ a0 = some 11) (bh_x0 : x0.toInt ≤ -1) : MI l D cI cS τ ρ yX11_say cX11_say 4 (some .int) 1 20 H [.ref a0, .int x0, .int x1] (fun (r : Int32) (u : Heap) => H = u ∧ (-1) = r) (fun q => False) := by
  refine MI.of (by decide) (Nat.le_of_ble_eq_true rfl) ?_
  intro p e s m args below meth c E hml hr hlk hs ls hl
  have hx := E.1
  have hb := E.2.1
  have hown := E.2.2.1
  have hts := E.2.2.2.1
  have hS : SS (fun q => False) H H [] := SS.rf
  have hl : lv_has ls 4 [(0, .ref a0), (1, .int x0), (2, .int x1)] := hl
  refine lv_iload_n hx hb dX11_say_0 rfl (lv_at hl 1 rfl) ?_
  refine th_Si (As := [.int x0]) (rest := []) E hml hl.1 (c_X11_isEnd l D cI cS τ ρ hW H hT x0 (by (omega))) lk_X11_65 yd_X11_isEnd hS (fun _ h => h.elim) ⟨by decide, by decide⟩ (Nat.le_of_ble_eq_true rfl) ⟨by decide, by decide⟩ rfl dX11_say_1 (fun r_1 H_1 locs_1 p_1 hT_1 hk_1 hS_1 => ?_)
  have p_1 : H = H_1 ∧ 0 = r_1 := p_1
  obtain ⟨rfl, rfl⟩ := p_1
  refine lv_if_eq (tgt := 18) hx hb dX11_say_4 (by decide) (fun c_2 => ?_) (fun c_2 => absurd (by decide) c_2)
  refine lv_iconst (v := (-1)) hx hb dX11_say_18 (by decide) ?_
  exact th_iret E hr hlk hs hT_1 hS_1 ⟨rfl, rfl⟩ dX11_say_19
set_option maxHeartbeats 4000000 in
set_option maxRecDepth 100000 in
/-- StreamEnds.cry -/
theorem c_X11_cry (l : Launch) (D : va_G) (cI cS : ClassId) (τ : Nat → Option Nat) (ρ : Nat → Nat → Nat) (hW : WF τ ρ) (H : Heap) (hT : TH D cI cS τ ρ H) (a0 : Nat) (x0 : Int32) (ha0 : τ a0 = some 11) (bh_x0 : x0.toInt ≤ -1) : MI l D cI cS τ ρ yX11_cry cX11_cry 3 (some .int) 1 20 H [.ref a0, .int x0] (fun (r : Int32) (u : Heap) => H = u ∧ (-1) = r) (fun q => False) := by
  refine MI.of (by decide) (Nat.le_of_ble_eq_true rfl) ?_
  intro p e s m args below meth c E hml hr hlk hs ls hl
  have hx := E.1
  have hb := E.2.1
  have hown := E.2.2.1
  have hts := E.2.2.2.1
  have hS : SS (fun q => False) H H [] := SS.rf
  have hl : lv_has ls 3 [(0, .ref a0), (1, .int x0)] := hl
  refine lv_iload_n hx hb dX11_cry_0 rfl (lv_at hl 1 rfl) ?_
  refine th_Si (As := [.int x0]) (rest := []) E hml hl.1 (c_X11_isEnd l D cI cS τ ρ hW H hT x0 (by (omega))) lk_X11_65 yd_X11_isEnd hS (fun _ h => h.elim) ⟨by decide, by decide⟩ (Nat.le_of_ble_eq_true rfl) ⟨by decide, by decide⟩ rfl dX11_cry_1 (fun r_1 H_1 locs_1 p_1 hT_1 hk_1 hS_1 => ?_)
  have p_1 : H = H_1 ∧ 0 = r_1 := p_1
  obtain ⟨rfl, rfl⟩ := p_1
  refine lv_if_ne (tgt := 9) hx hb dX11_cry_4 (by decide) (fun c_2 => absurd (by decide) c_2) (fun c_2 => ?_)
  refine lv_iconst (v := (-1)) hx hb dX11_cry_7 (by decide) ?_
  exact th_iret E hr hlk hs hT_1 hS_1 ⟨rfl, rfl⟩ dX11_cry_8
set_option maxHeartbeats 4000000 in
set_option maxRecDepth 100000 in
/-- StreamEnds.leave -/
theorem c_X11_leave (l : Launch) (D : va_G) (cI cS : ClassId) (τ : Nat → Option Nat) (ρ : Nat → Nat → Nat) (hW : WF τ ρ) (H : Heap) (hT : TH D cI cS τ ρ H) (a0 : Nat) (x0 : Int32) (ha0 : τ a0 = some 11) (bh_x0 : x0.toInt ≤ -1) : MI l D cI cS τ ρ yX11_leave cX11_leave 3 (some .int) 1 20 H [.ref a0, .int x0] (fun (r : Int32) (u : Heap) => H = u ∧ (-1) = r) (fun q => False) := by
  refine MI.of (by decide) (Nat.le_of_ble_eq_true rfl) ?_
  intro p e s m args below meth c E hml hr hlk hs ls hl
  have hx := E.1
  have hb := E.2.1
  have hown := E.2.2.1
  have hts := E.2.2.2.1
  have hS : SS (fun q => False) H H [] := SS.rf
  have hl : lv_has ls 3 [(0, .ref a0), (1, .int x0)] := hl
  refine lv_iload_n hx hb dX11_leave_0 rfl (lv_at hl 1 rfl) ?_
  refine th_Si (As := [.int x0]) (rest := []) E hml hl.1 (c_X11_isEnd l D cI cS τ ρ hW H hT x0 (by (omega))) lk_X11_65 yd_X11_isEnd hS (fun _ h => h.elim) ⟨by decide, by decide⟩ (Nat.le_of_ble_eq_true rfl) ⟨by decide, by decide⟩ rfl dX11_leave_1 (fun r_1 H_1 locs_1 p_1 hT_1 hk_1 hS_1 => ?_)
  have p_1 : H = H_1 ∧ 0 = r_1 := p_1
  obtain ⟨rfl, rfl⟩ := p_1
  refine lv_if_ne (tgt := 9) hx hb dX11_leave_4 (by decide) (fun c_2 => absurd (by decide) c_2) (fun c_2 => ?_)
  refine lv_iconst (v := (-1)) hx hb dX11_leave_7 (by decide) ?_
  exact th_iret E hr hlk hs hT_1 hS_1 ⟨rfl, rfl⟩ dX11_leave_8
set_option maxHeartbeats 4000000 in
set_option maxRecDepth 100000 in
/-- StreamEnds.quit -/
theorem c_X11_quit (l : Launch) (D : va_G) (cI cS : ClassId) (τ : Nat → Option Nat) (ρ : Nat → Nat → Nat) (hW : WF τ ρ) (H : Heap) (hT : TH D cI cS τ ρ H) (a0 : Nat) (x0 : Int32) (ha0 : τ a0 = some 11) (bh_x0 : x0.toInt ≤ -1) : MI l D cI cS τ ρ yX11_quit cX11_quit 4 (some .int) 1 20 H [.ref a0, .int x0] (fun (r : Int32) (u : Heap) => H = u ∧ (-1) = r) (fun q => False) := by
  refine MI.of (by decide) (Nat.le_of_ble_eq_true rfl) ?_
  intro p e s m args below meth c E hml hr hlk hs ls hl
  have hx := E.1
  have hb := E.2.1
  have hown := E.2.2.1
  have hts := E.2.2.2.1
  have hS : SS (fun q => False) H H [] := SS.rf
  have hl : lv_has ls 4 [(0, .ref a0), (1, .int x0)] := hl
  refine lv_iload_n hx hb dX11_quit_0 rfl (lv_at hl 1 rfl) ?_
  refine th_Si (As := [.int x0]) (rest := []) E hml hl.1 (c_X11_isEnd l D cI cS τ ρ hW H hT x0 (by (omega))) lk_X11_65 yd_X11_isEnd hS (fun _ h => h.elim) ⟨by decide, by decide⟩ (Nat.le_of_ble_eq_true rfl) ⟨by decide, by decide⟩ rfl dX11_quit_1 (fun r_1 H_1 locs_1 p_1 hT_1 hk_1 hS_1 => ?_)
  have p_1 : H = H_1 ∧ 0 = r_1 := p_1
  obtain ⟨rfl, rfl⟩ := p_1
  refine lv_if_ne (tgt := 9) hx hb dX11_quit_4 (by decide) (fun c_2 => absurd (by decide) c_2) (fun c_2 => ?_)
  refine lv_iconst (v := (-1)) hx hb dX11_quit_7 (by decide) ?_
  exact th_iret E hr hlk hs hT_1 hS_1 ⟨rfl, rfl⟩ dX11_quit_8
set_option maxHeartbeats 4000000 in
set_option maxRecDepth 100000 in
/-- StreamEnds.take -/
theorem c_X11_take (l : Launch) (D : va_G) (cI cS : ClassId) (τ : Nat → Option Nat) (ρ : Nat → Nat → Nat) (hW : WF τ ρ) (H : Heap) (hT : TH D cI cS τ ρ H) (a0 : Nat) (x0 : Int32) (ha0 : τ a0 = some 11) (bh_x0 : x0.toInt ≤ -1) : MI l D cI cS τ ρ yX11_take cX11_take 4 (some .int) 1 20 H [.ref a0, .int x0] (fun (r : Int32) (u : Heap) => H = u ∧ (-1) = r) (fun q => False) := by
  refine MI.of (by decide) (Nat.le_of_ble_eq_true rfl) ?_
  intro p e s m args below meth c E hml hr hlk hs ls hl
  have hx := E.1
  have hb := E.2.1
  have hown := E.2.2.1
  have hts := E.2.2.2.1
  have hS : SS (fun q => False) H H [] := SS.rf
  have hl : lv_has ls 4 [(0, .ref a0), (1, .int x0)] := hl
  refine lv_iload_n hx hb dX11_take_0 rfl (lv_at hl 1 rfl) ?_
  refine th_Si (As := [.int x0]) (rest := []) E hml hl.1 (c_X11_isEnd l D cI cS τ ρ hW H hT x0 (by (omega))) lk_X11_65 yd_X11_isEnd hS (fun _ h => h.elim) ⟨by decide, by decide⟩ (Nat.le_of_ble_eq_true rfl) ⟨by decide, by decide⟩ rfl dX11_take_1 (fun r_1 H_1 locs_1 p_1 hT_1 hk_1 hS_1 => ?_)
  have p_1 : H = H_1 ∧ 0 = r_1 := p_1
  obtain ⟨rfl, rfl⟩ := p_1
  refine lv_if_ne (tgt := 9) hx hb dX11_take_4 (by decide) (fun c_2 => absurd (by decide) c_2) (fun c_2 => ?_)
  refine lv_iconst (v := (-1)) hx hb dX11_take_7 (by decide) ?_
  exact th_iret E hr hlk hs hT_1 hS_1 ⟨rfl, rfl⟩ dX11_take_8
set_option maxHeartbeats 4000000 in
set_option maxRecDepth 100000 in
/-- StreamEnds.end -/
theorem c_X11_end (l : Launch) (D : va_G) (cI cS : ClassId) (τ : Nat → Option Nat) (ρ : Nat → Nat → Nat) (hW : WF τ ρ) (H : Heap) (hT : TH D cI cS τ ρ H) (a0 : Nat) (x0 : Int32) (x1 : Int32) (ha0 : τ a0 = some 11) (bh_x0 : x0.toInt ≤ -1) : MI l D cI cS τ ρ yX11_end cX11_end 3 (some .int) 1 20 H [.ref a0, .int x0, .int x1] (fun (r : Int32) (u : Heap) => H = u ∧ (-1) = r) (fun q => False) := by
  refine MI.of (by decide) (Nat.le_of_ble_eq_true rfl) ?_
  intro p e s m args below meth c E hml hr hlk hs ls hl
  have hx := E.1
  have hb := E.2.1
  have hown := E.2.2.1
  have hts := E.2.2.2.1
  have hS : SS (fun q => False) H H [] := SS.rf
  have hl : lv_has ls 3 [(0, .ref a0), (1, .int x0), (2, .int x1)] := hl
  refine lv_iload_n hx hb dX11_end_0 rfl (lv_at hl 1 rfl) ?_
  refine th_Si (As := [.int x0]) (rest := []) E hml hl.1 (c_X11_isEnd l D cI cS τ ρ hW H hT x0 (by (omega))) lk_X11_65 yd_X11_isEnd hS (fun _ h => h.elim) ⟨by decide, by decide⟩ (Nat.le_of_ble_eq_true rfl) ⟨by decide, by decide⟩ rfl dX11_end_1 (fun r_1 H_1 locs_1 p_1 hT_1 hk_1 hS_1 => ?_)
  have p_1 : H = H_1 ∧ 0 = r_1 := p_1
  obtain ⟨rfl, rfl⟩ := p_1
  refine lv_if_eq (tgt := 17) hx hb dX11_end_4 (by decide) (fun c_2 => ?_) (fun c_2 => absurd (by decide) c_2)
  refine lv_iconst (v := (-1)) hx hb dX11_end_17 (by decide) ?_
  exact th_iret E hr hlk hs hT_1 hS_1 ⟨rfl, rfl⟩ dX11_end_18
set_option maxHeartbeats 4000000 in
set_option maxRecDepth 100000 in
/-- StreamEnds.sample -/
theorem c_X11_sample (l : Launch) (D : va_G) (cI cS : ClassId) (τ : Nat → Option Nat) (ρ : Nat → Nat → Nat) (hW : WF τ ρ) (H : Heap) (hT : TH D cI cS τ ρ H) (a0 : Nat) (x0 : Int32) (x1 : Int32) (ha0 : τ a0 = some 11) (bh_x0 : x0.toInt ≤ -1) : MI l D cI cS τ ρ yX11_sample cX11_sample 3 (some .int) 1 20 H [.ref a0, .int x0, .int x1] (fun (r : Int32) (u : Heap) => H = u ∧ (-1) = r) (fun q => False) := by
  refine MI.of (by decide) (Nat.le_of_ble_eq_true rfl) ?_
  intro p e s m args below meth c E hml hr hlk hs ls hl
  have hx := E.1
  have hb := E.2.1
  have hown := E.2.2.1
  have hts := E.2.2.2.1
  have hS : SS (fun q => False) H H [] := SS.rf
  have hl : lv_has ls 3 [(0, .ref a0), (1, .int x0), (2, .int x1)] := hl
  refine lv_iload_n hx hb dX11_sample_0 rfl (lv_at hl 1 rfl) ?_
  refine th_Si (As := [.int x0]) (rest := []) E hml hl.1 (c_X11_isEnd l D cI cS τ ρ hW H hT x0 (by (omega))) lk_X11_65 yd_X11_isEnd hS (fun _ h => h.elim) ⟨by decide, by decide⟩ (Nat.le_of_ble_eq_true rfl) ⟨by decide, by decide⟩ rfl dX11_sample_1 (fun r_1 H_1 locs_1 p_1 hT_1 hk_1 hS_1 => ?_)
  have p_1 : H = H_1 ∧ 0 = r_1 := p_1
  obtain ⟨rfl, rfl⟩ := p_1
  refine lv_if_eq (tgt := 11) hx hb dX11_sample_4 (by decide) (fun c_2 => ?_) (fun c_2 => absurd (by decide) c_2)
  refine lv_iconst (v := (-1)) hx hb dX11_sample_11 (by decide) ?_
  exact th_iret E hr hlk hs hT_1 hS_1 ⟨rfl, rfl⟩ dX11_sample_12
set_option maxHeartbeats 4000000 in
set_option maxRecDepth 100000 in
/-- StreamEnds.span -/
theorem c_X11_span (l : Launch) (D : va_G) (cI cS : ClassId) (τ : Nat → Option Nat) (ρ : Nat → Nat → Nat) (hW : WF τ ρ) (H : Heap) (hT : TH D cI cS τ ρ H) (a0 : Nat) (x0 : Int32) (x1 : Int32) (x2 : Int32) (ha0 : τ a0 = some 11) (bh_x0 : x0.toInt ≤ -1) : MI l D cI cS τ ρ yX11_span cX11_span 8 (some .int) 1 20 H [.ref a0, .int x0, .int x1, .int x2] (fun (r : Int32) (u : Heap) => H = u ∧ (-1) = r) (fun q => False) := by
  refine MI.of (by decide) (Nat.le_of_ble_eq_true rfl) ?_
  intro p e s m args below meth c E hml hr hlk hs ls hl
  have hx := E.1
  have hb := E.2.1
  have hown := E.2.2.1
  have hts := E.2.2.2.1
  have hS : SS (fun q => False) H H [] := SS.rf
  have hl : lv_has ls 8 [(0, .ref a0), (1, .int x0), (2, .int x1), (3, .int x2)] := hl
  refine lv_iload_n hx hb dX11_span_0 rfl (lv_at hl 1 rfl) ?_
  refine th_Si (As := [.int x0]) (rest := []) E hml hl.1 (c_X11_isEnd l D cI cS τ ρ hW H hT x0 (by (omega))) lk_X11_65 yd_X11_isEnd hS (fun _ h => h.elim) ⟨by decide, by decide⟩ (Nat.le_of_ble_eq_true rfl) ⟨by decide, by decide⟩ rfl dX11_span_1 (fun r_1 H_1 locs_1 p_1 hT_1 hk_1 hS_1 => ?_)
  have p_1 : H = H_1 ∧ 0 = r_1 := p_1
  obtain ⟨rfl, rfl⟩ := p_1
  refine lv_if_eq (tgt := 21) hx hb dX11_span_4 (by decide) (fun c_2 => ?_) (fun c_2 => absurd (by decide) c_2)
  refine lv_iconst (v := (-1)) hx hb dX11_span_21 (by decide) ?_
  exact th_iret E hr hlk hs hT_1 hS_1 ⟨rfl, rfl⟩ dX11_span_22
set_option maxHeartbeats 4000000 in
set_option maxRecDepth 100000 in
/-- StreamEnds.known -/
theorem c_X11_known (l : Launch) (D : va_G) (cI cS : ClassId) (τ : Nat → Option Nat) (ρ : Nat → Nat → Nat) (hW : WF τ ρ) (H : Heap) (hT : TH D cI cS τ ρ H) (a0 : Nat) (x0 : Int32) (x1 : Int32) (ha0 : τ a0 = some 11) (bh_x0 : x0.toInt ≤ -1) : MI l D cI cS τ ρ yX11_known cX11_known 3 (some .int) 1 20 H [.ref a0, .int x0, .int x1] (fun (r : Int32) (u : Heap) => H = u ∧ (-1) = r) (fun q => False) := by
  refine MI.of (by decide) (Nat.le_of_ble_eq_true rfl) ?_
  intro p e s m args below meth c E hml hr hlk hs ls hl
  have hx := E.1
  have hb := E.2.1
  have hown := E.2.2.1
  have hts := E.2.2.2.1
  have hS : SS (fun q => False) H H [] := SS.rf
  have hl : lv_has ls 3 [(0, .ref a0), (1, .int x0), (2, .int x1)] := hl
  refine lv_iload_n hx hb dX11_known_0 rfl (lv_at hl 1 rfl) ?_
  refine th_Si (As := [.int x0]) (rest := []) E hml hl.1 (c_X11_isEnd l D cI cS τ ρ hW H hT x0 (by (omega))) lk_X11_65 yd_X11_isEnd hS (fun _ h => h.elim) ⟨by decide, by decide⟩ (Nat.le_of_ble_eq_true rfl) ⟨by decide, by decide⟩ rfl dX11_known_1 (fun r_1 H_1 locs_1 p_1 hT_1 hk_1 hS_1 => ?_)
  have p_1 : H = H_1 ∧ 0 = r_1 := p_1
  obtain ⟨rfl, rfl⟩ := p_1
  refine lv_if_eq (tgt := 11) hx hb dX11_known_4 (by decide) (fun c_2 => ?_) (fun c_2 => absurd (by decide) c_2)
  refine lv_iconst (v := (-1)) hx hb dX11_known_11 (by decide) ?_
  exact th_iret E hr hlk hs hT_1 hS_1 ⟨rfl, rfl⟩ dX11_known_12
set_option maxHeartbeats 4000000 in
set_option maxRecDepth 100000 in
/-- StreamEnds.isEnd -/
theorem c_X11_isEnd_v2 (l : Launch) (D : va_G) (cI cS : ClassId) (τ : Nat → Option Nat) (ρ : Nat → Nat → Nat) (hW : WF τ ρ) (H : Heap) (hT : TH D cI cS τ ρ H) (x0 : Int32) (bl_x0 : 2 ≤ x0.toInt) : MI l D cI cS τ ρ yX11_isEnd cX11_isEnd 1 (some .boolean) 0 0 H [.int x0] (fun (r : Int32) (u : Heap) => H = u ∧ 0 = r) (fun q => False) := by
  refine MI.of (by decide) (Nat.le_of_ble_eq_true rfl) ?_
  intro p e s m args below meth c E hml hr hlk hs ls hl
  have hx := E.1
  have hb := E.2.1
  have hown := E.2.2.1
  have hts := E.2.2.2.1
  have hS : SS (fun q => False) H H [] := SS.rf
  have hl : lv_has ls 1 [(0, .int x0)] := hl
  refine lv_iload_n hx hb dX11_isEnd_0 rfl (lv_at hl 0 rfl) ?_
  refine lv_if_eq (tgt := 9) hx hb dX11_isEnd_1 (by decide) (fun c_1 => False.elim (by (have : (0 : Int32).toInt = 0 := (by decide); have := congrArg Int32.toInt c_1; omega))) (fun c_1 => ?_)
  refine lv_iload_n hx hb dX11_isEnd_4 rfl (lv_at hl 0 rfl) ?_
  refine lv_iconst (v := 1) hx hb dX11_isEnd_5 (by decide) ?_
  refine lv_icmp_ne (tgt := 13) hx hb dX11_isEnd_6 (by decide) (fun c_2 => ?_) (fun c_2 => False.elim (by (have : (1 : Int32).toInt = 1 := (by decide); have := congrArg Int32.toInt c_2; omega)))
  refine lv_iconst (v := 0) hx hb dX11_isEnd_13 (by decide) ?_
  exact th_zret E hr hlk hs (Or.inl rfl) hT hS ⟨rfl, rfl⟩ dX11_isEnd_14
set_option maxHeartbeats 4000000 in
set_option maxRecDepth 100000 in
/-- StreamEnds.open -/
theorem c_X11_open_v2 (l : Launch) (D : va_G) (cI cS : ClassId) (τ : Nat → Option Nat) (ρ : Nat → Nat → Nat) (hW : WF τ ρ) (H : Heap) (hT : TH D cI cS τ ρ H) (a0 : Nat) (x0 : Int32) (x1 : Int32) (ha0 : τ a0 = some 11) (bl_x0 : 2 ≤ x0.toInt) : MI l D cI cS τ ρ yX11_open cX11_open 4 (some .int) 1 20 H [.ref a0, .int x0, .int x1] (fun (r : Int32) (u : Heap) => H = u ∧ (-1) = r) (fun q => False) := by
  refine MI.of (by decide) (Nat.le_of_ble_eq_true rfl) ?_
  intro p e s m args below meth c E hml hr hlk hs ls hl
  have hx := E.1
  have hb := E.2.1
  have hown := E.2.2.1
  have hts := E.2.2.2.1
  have hS : SS (fun q => False) H H [] := SS.rf
  have hl : lv_has ls 4 [(0, .ref a0), (1, .int x0), (2, .int x1)] := hl
  refine lv_iload_n hx hb dX11_open_0 rfl (lv_at hl 1 rfl) ?_
  refine th_Si (As := [.int x0]) (rest := []) E hml hl.1 (c_X11_isEnd_v2 l D cI cS τ ρ hW H hT x0 (by (omega))) lk_X11_65 yd_X11_isEnd hS (fun _ h => h.elim) ⟨by decide, by decide⟩ (Nat.le_of_ble_eq_true rfl) ⟨by decide, by decide⟩ rfl dX11_open_1 (fun r_1 H_1 locs_1 p_1 hT_1 hk_1 hS_1 => ?_)
  have p_1 : H = H_1 ∧ 0 = r_1 := p_1
  obtain ⟨rfl, rfl⟩ := p_1
  refine lv_if_eq (tgt := 16) hx hb dX11_open_4 (by decide) (fun c_2 => ?_) (fun c_2 => absurd (by decide) c_2)
  refine lv_iconst (v := (-1)) hx hb dX11_open_16 (by decide) ?_
  exact th_iret E hr hlk hs hT_1 hS_1 ⟨rfl, rfl⟩ dX11_open_17
set_option maxHeartbeats 4000000 in
set_option maxRecDepth 100000 in
/-- StreamEnds.say -/
theorem c_X11_say_v2 (l : Launch) (D : va_G) (cI cS : ClassId) (τ : Nat → Option Nat) (ρ : Nat → Nat → Nat) (hW : WF τ ρ) (H : Heap) (hT : TH D cI cS τ ρ H) (a0 : Nat) (x0 : Int32) (x1 : Int32) (ha0 : τ a0 = some 11) (bl_x0 : 2 ≤ x0.toInt) : MI l D cI cS τ ρ yX11_say cX11_say 4 (some .int) 1 20 H [.ref a0, .int x0, .int x1] (fun (r : Int32) (u : Heap) => H = u ∧ (-1) = r) (fun q => False) := by
  refine MI.of (by decide) (Nat.le_of_ble_eq_true rfl) ?_
  intro p e s m args below meth c E hml hr hlk hs ls hl
  have hx := E.1
  have hb := E.2.1
  have hown := E.2.2.1
  have hts := E.2.2.2.1
  have hS : SS (fun q => False) H H [] := SS.rf
  have hl : lv_has ls 4 [(0, .ref a0), (1, .int x0), (2, .int x1)] := hl
  refine lv_iload_n hx hb dX11_say_0 rfl (lv_at hl 1 rfl) ?_
  refine th_Si (As := [.int x0]) (rest := []) E hml hl.1 (c_X11_isEnd_v2 l D cI cS τ ρ hW H hT x0 (by (omega))) lk_X11_65 yd_X11_isEnd hS (fun _ h => h.elim) ⟨by decide, by decide⟩ (Nat.le_of_ble_eq_true rfl) ⟨by decide, by decide⟩ rfl dX11_say_1 (fun r_1 H_1 locs_1 p_1 hT_1 hk_1 hS_1 => ?_)
  have p_1 : H = H_1 ∧ 0 = r_1 := p_1
  obtain ⟨rfl, rfl⟩ := p_1
  refine lv_if_eq (tgt := 18) hx hb dX11_say_4 (by decide) (fun c_2 => ?_) (fun c_2 => absurd (by decide) c_2)
  refine lv_iconst (v := (-1)) hx hb dX11_say_18 (by decide) ?_
  exact th_iret E hr hlk hs hT_1 hS_1 ⟨rfl, rfl⟩ dX11_say_19
set_option maxHeartbeats 4000000 in
set_option maxRecDepth 100000 in
/-- StreamEnds.cry -/
theorem c_X11_cry_v2 (l : Launch) (D : va_G) (cI cS : ClassId) (τ : Nat → Option Nat) (ρ : Nat → Nat → Nat) (hW : WF τ ρ) (H : Heap) (hT : TH D cI cS τ ρ H) (a0 : Nat) (x0 : Int32) (ha0 : τ a0 = some 11) (bl_x0 : 2 ≤ x0.toInt) : MI l D cI cS τ ρ yX11_cry cX11_cry 3 (some .int) 1 20 H [.ref a0, .int x0] (fun (r : Int32) (u : Heap) => H = u ∧ (-1) = r) (fun q => False) := by
  refine MI.of (by decide) (Nat.le_of_ble_eq_true rfl) ?_
  intro p e s m args below meth c E hml hr hlk hs ls hl
  have hx := E.1
  have hb := E.2.1
  have hown := E.2.2.1
  have hts := E.2.2.2.1
  have hS : SS (fun q => False) H H [] := SS.rf
  have hl : lv_has ls 3 [(0, .ref a0), (1, .int x0)] := hl
  refine lv_iload_n hx hb dX11_cry_0 rfl (lv_at hl 1 rfl) ?_
  refine th_Si (As := [.int x0]) (rest := []) E hml hl.1 (c_X11_isEnd_v2 l D cI cS τ ρ hW H hT x0 (by (omega))) lk_X11_65 yd_X11_isEnd hS (fun _ h => h.elim) ⟨by decide, by decide⟩ (Nat.le_of_ble_eq_true rfl) ⟨by decide, by decide⟩ rfl dX11_cry_1 (fun r_1 H_1 locs_1 p_1 hT_1 hk_1 hS_1 => ?_)
  have p_1 : H = H_1 ∧ 0 = r_1 := p_1
  obtain ⟨rfl, rfl⟩ := p_1
  refine lv_if_ne (tgt := 9) hx hb dX11_cry_4 (by decide) (fun c_2 => absurd (by decide) c_2) (fun c_2 => ?_)
  refine lv_iconst (v := (-1)) hx hb dX11_cry_7 (by decide) ?_
  exact th_iret E hr hlk hs hT_1 hS_1 ⟨rfl, rfl⟩ dX11_cry_8
set_option maxHeartbeats 4000000 in
set_option maxRecDepth 100000 in
/-- StreamEnds.leave -/
theorem c_X11_leave_v2 (l : Launch) (D : va_G) (cI cS : ClassId) (τ : Nat → Option Nat) (ρ : Nat → Nat → Nat) (hW : WF τ ρ) (H : Heap) (hT : TH D cI cS τ ρ H) (a0 : Nat) (x0 : Int32) (ha0 : τ a0 = some 11) (bl_x0 : 2 ≤ x0.toInt) : MI l D cI cS τ ρ yX11_leave cX11_leave 3 (some .int) 1 20 H [.ref a0, .int x0] (fun (r : Int32) (u : Heap) => H = u ∧ (-1) = r) (fun q => False) := by
  refine MI.of (by decide) (Nat.le_of_ble_eq_true rfl) ?_
  intro p e s m args below meth c E hml hr hlk hs ls hl
  have hx := E.1
  have hb := E.2.1
  have hown := E.2.2.1
  have hts := E.2.2.2.1
  have hS : SS (fun q => False) H H [] := SS.rf
  have hl : lv_has ls 3 [(0, .ref a0), (1, .int x0)] := hl
  refine lv_iload_n hx hb dX11_leave_0 rfl (lv_at hl 1 rfl) ?_
  refine th_Si (As := [.int x0]) (rest := []) E hml hl.1 (c_X11_isEnd_v2 l D cI cS τ ρ hW H hT x0 (by (omega))) lk_X11_65 yd_X11_isEnd hS (fun _ h => h.elim) ⟨by decide, by decide⟩ (Nat.le_of_ble_eq_true rfl) ⟨by decide, by decide⟩ rfl dX11_leave_1 (fun r_1 H_1 locs_1 p_1 hT_1 hk_1 hS_1 => ?_)
  have p_1 : H = H_1 ∧ 0 = r_1 := p_1
  obtain ⟨rfl, rfl⟩ := p_1
  refine lv_if_ne (tgt := 9) hx hb dX11_leave_4 (by decide) (fun c_2 => absurd (by decide) c_2) (fun c_2 => ?_)
  refine lv_iconst (v := (-1)) hx hb dX11_leave_7 (by decide) ?_
  exact th_iret E hr hlk hs hT_1 hS_1 ⟨rfl, rfl⟩ dX11_leave_8
set_option maxHeartbeats 4000000 in
set_option maxRecDepth 100000 in
/-- StreamEnds.quit -/
theorem c_X11_quit_v2 (l : Launch) (D : va_G) (cI cS : ClassId) (τ : Nat → Option Nat) (ρ : Nat → Nat → Nat) (hW : WF τ ρ) (H : Heap) (hT : TH D cI cS τ ρ H) (a0 : Nat) (x0 : Int32) (ha0 : τ a0 = some 11) (bl_x0 : 2 ≤ x0.toInt) : MI l D cI cS τ ρ yX11_quit cX11_quit 4 (some .int) 1 20 H [.ref a0, .int x0] (fun (r : Int32) (u : Heap) => H = u ∧ (-1) = r) (fun q => False) := by
  refine MI.of (by decide) (Nat.le_of_ble_eq_true rfl) ?_
  intro p e s m args below meth c E hml hr hlk hs ls hl
  have hx := E.1
  have hb := E.2.1
  have hown := E.2.2.1
  have hts := E.2.2.2.1
  have hS : SS (fun q => False) H H [] := SS.rf
  have hl : lv_has ls 4 [(0, .ref a0), (1, .int x0)] := hl
  refine lv_iload_n hx hb dX11_quit_0 rfl (lv_at hl 1 rfl) ?_
  refine th_Si (As := [.int x0]) (rest := []) E hml hl.1 (c_X11_isEnd_v2 l D cI cS τ ρ hW H hT x0 (by (omega))) lk_X11_65 yd_X11_isEnd hS (fun _ h => h.elim) ⟨by decide, by decide⟩ (Nat.le_of_ble_eq_true rfl) ⟨by decide, by decide⟩ rfl dX11_quit_1 (fun r_1 H_1 locs_1 p_1 hT_1 hk_1 hS_1 => ?_)
  have p_1 : H = H_1 ∧ 0 = r_1 := p_1
  obtain ⟨rfl, rfl⟩ := p_1
  refine lv_if_ne (tgt := 9) hx hb dX11_quit_4 (by decide) (fun c_2 => absurd (by decide) c_2) (fun c_2 => ?_)
  refine lv_iconst (v := (-1)) hx hb dX11_quit_7 (by decide) ?_
  exact th_iret E hr hlk hs hT_1 hS_1 ⟨rfl, rfl⟩ dX11_quit_8
set_option maxHeartbeats 4000000 in
set_option maxRecDepth 100000 in
/-- StreamEnds.take -/
theorem c_X11_take_v2 (l : Launch) (D : va_G) (cI cS : ClassId) (τ : Nat → Option Nat) (ρ : Nat → Nat → Nat) (hW : WF τ ρ) (H : Heap) (hT : TH D cI cS τ ρ H) (a0 : Nat) (x0 : Int32) (ha0 : τ a0 = some 11) (bl_x0 : 2 ≤ x0.toInt) : MI l D cI cS τ ρ yX11_take cX11_take 4 (some .int) 1 20 H [.ref a0, .int x0] (fun (r : Int32) (u : Heap) => H = u ∧ (-1) = r) (fun q => False) := by
  refine MI.of (by decide) (Nat.le_of_ble_eq_true rfl) ?_
  intro p e s m args below meth c E hml hr hlk hs ls hl
  have hx := E.1
  have hb := E.2.1
  have hown := E.2.2.1
  have hts := E.2.2.2.1
  have hS : SS (fun q => False) H H [] := SS.rf
  have hl : lv_has ls 4 [(0, .ref a0), (1, .int x0)] := hl
  refine lv_iload_n hx hb dX11_take_0 rfl (lv_at hl 1 rfl) ?_
  refine th_Si (As := [.int x0]) (rest := []) E hml hl.1 (c_X11_isEnd_v2 l D cI cS τ ρ hW H hT x0 (by (omega))) lk_X11_65 yd_X11_isEnd hS (fun _ h => h.elim) ⟨by decide, by decide⟩ (Nat.le_of_ble_eq_true rfl) ⟨by decide, by decide⟩ rfl dX11_take_1 (fun r_1 H_1 locs_1 p_1 hT_1 hk_1 hS_1 => ?_)
  have p_1 : H = H_1 ∧ 0 = r_1 := p_1
  obtain ⟨rfl, rfl⟩ := p_1
  refine lv_if_ne (tgt := 9) hx hb dX11_take_4 (by decide) (fun c_2 => absurd (by decide) c_2) (fun c_2 => ?_)
  refine lv_iconst (v := (-1)) hx hb dX11_take_7 (by decide) ?_
  exact th_iret E hr hlk hs hT_1 hS_1 ⟨rfl, rfl⟩ dX11_take_8
set_option maxHeartbeats 4000000 in
set_option maxRecDepth 100000 in
/-- StreamEnds.end -/
theorem c_X11_end_v2 (l : Launch) (D : va_G) (cI cS : ClassId) (τ : Nat → Option Nat) (ρ : Nat → Nat → Nat) (hW : WF τ ρ) (H : Heap) (hT : TH D cI cS τ ρ H) (a0 : Nat) (x0 : Int32) (x1 : Int32) (ha0 : τ a0 = some 11) (bl_x0 : 2 ≤ x0.toInt) : MI l D cI cS τ ρ yX11_end cX11_end 3 (some .int) 1 20 H [.ref a0, .int x0, .int x1] (fun (r : Int32) (u : Heap) => H = u ∧ (-1) = r) (fun q => False) := by
  refine MI.of (by decide) (Nat.le_of_ble_eq_true rfl) ?_
  intro p e s m args below meth c E hml hr hlk hs ls hl
  have hx := E.1
  have hb := E.2.1
  have hown := E.2.2.1
  have hts := E.2.2.2.1
  have hS : SS (fun q => False) H H [] := SS.rf
  have hl : lv_has ls 3 [(0, .ref a0), (1, .int x0), (2, .int x1)] := hl
  refine lv_iload_n hx hb dX11_end_0 rfl (lv_at hl 1 rfl) ?_
  refine th_Si (As := [.int x0]) (rest := []) E hml hl.1 (c_X11_isEnd_v2 l D cI cS τ ρ hW H hT x0 (by (omega))) lk_X11_65 yd_X11_isEnd hS (fun _ h => h.elim) ⟨by decide, by decide⟩ (Nat.le_of_ble_eq_true rfl) ⟨by decide, by decide⟩ rfl dX11_end_1 (fun r_1 H_1 locs_1 p_1 hT_1 hk_1 hS_1 => ?_)
  have p_1 : H = H_1 ∧ 0 = r_1 := p_1
  obtain ⟨rfl, rfl⟩ := p_1
  refine lv_if_eq (tgt := 17) hx hb dX11_end_4 (by decide) (fun c_2 => ?_) (fun c_2 => absurd (by decide) c_2)
  refine lv_iconst (v := (-1)) hx hb dX11_end_17 (by decide) ?_
  exact th_iret E hr hlk hs hT_1 hS_1 ⟨rfl, rfl⟩ dX11_end_18
set_option maxHeartbeats 4000000 in
set_option maxRecDepth 100000 in
/-- StreamEnds.sample -/
theorem c_X11_sample_v2 (l : Launch) (D : va_G) (cI cS : ClassId) (τ : Nat → Option Nat) (ρ : Nat → Nat → Nat) (hW : WF τ ρ) (H : Heap) (hT : TH D cI cS τ ρ H) (a0 : Nat) (x0 : Int32) (x1 : Int32) (ha0 : τ a0 = some 11) (bl_x0 : 2 ≤ x0.toInt) : MI l D cI cS τ ρ yX11_sample cX11_sample 3 (some .int) 1 20 H [.ref a0, .int x0, .int x1] (fun (r : Int32) (u : Heap) => H = u ∧ (-1) = r) (fun q => False) := by
  refine MI.of (by decide) (Nat.le_of_ble_eq_true rfl) ?_
  intro p e s m args below meth c E hml hr hlk hs ls hl
  have hx := E.1
  have hb := E.2.1
  have hown := E.2.2.1
  have hts := E.2.2.2.1
  have hS : SS (fun q => False) H H [] := SS.rf
  have hl : lv_has ls 3 [(0, .ref a0), (1, .int x0), (2, .int x1)] := hl
  refine lv_iload_n hx hb dX11_sample_0 rfl (lv_at hl 1 rfl) ?_
  refine th_Si (As := [.int x0]) (rest := []) E hml hl.1 (c_X11_isEnd_v2 l D cI cS τ ρ hW H hT x0 (by (omega))) lk_X11_65 yd_X11_isEnd hS (fun _ h => h.elim) ⟨by decide, by decide⟩ (Nat.le_of_ble_eq_true rfl) ⟨by decide, by decide⟩ rfl dX11_sample_1 (fun r_1 H_1 locs_1 p_1 hT_1 hk_1 hS_1 => ?_)
  have p_1 : H = H_1 ∧ 0 = r_1 := p_1
  obtain ⟨rfl, rfl⟩ := p_1
  refine lv_if_eq (tgt := 11) hx hb dX11_sample_4 (by decide) (fun c_2 => ?_) (fun c_2 => absurd (by decide) c_2)
  refine lv_iconst (v := (-1)) hx hb dX11_sample_11 (by decide) ?_
  exact th_iret E hr hlk hs hT_1 hS_1 ⟨rfl, rfl⟩ dX11_sample_12
set_option maxHeartbeats 4000000 in
set_option maxRecDepth 100000 in
/-- StreamEnds.span -/
theorem c_X11_span_v2 (l : Launch) (D : va_G) (cI cS : ClassId) (τ : Nat → Option Nat) (ρ : Nat → Nat → Nat) (hW : WF τ ρ) (H : Heap) (hT : TH D cI cS τ ρ H) (a0 : Nat) (x0 : Int32) (x1 : Int32) (x2 : Int32) (ha0 : τ a0 = some 11) (bl_x0 : 2 ≤ x0.toInt) : MI l D cI cS τ ρ yX11_span cX11_span 8 (some .int) 1 20 H [.ref a0, .int x0, .int x1, .int x2] (fun (r : Int32) (u : Heap) => H = u ∧ (-1) = r) (fun q => False) := by
  refine MI.of (by decide) (Nat.le_of_ble_eq_true rfl) ?_
  intro p e s m args below meth c E hml hr hlk hs ls hl
  have hx := E.1
  have hb := E.2.1
  have hown := E.2.2.1
  have hts := E.2.2.2.1
  have hS : SS (fun q => False) H H [] := SS.rf
  have hl : lv_has ls 8 [(0, .ref a0), (1, .int x0), (2, .int x1), (3, .int x2)] := hl
  refine lv_iload_n hx hb dX11_span_0 rfl (lv_at hl 1 rfl) ?_
  refine th_Si (As := [.int x0]) (rest := []) E hml hl.1 (c_X11_isEnd_v2 l D cI cS τ ρ hW H hT x0 (by (omega))) lk_X11_65 yd_X11_isEnd hS (fun _ h => h.elim) ⟨by decide, by decide⟩ (Nat.le_of_ble_eq_true rfl) ⟨by decide, by decide⟩ rfl dX11_span_1 (fun r_1 H_1 locs_1 p_1 hT_1 hk_1 hS_1 => ?_)
  have p_1 : H = H_1 ∧ 0 = r_1 := p_1
  obtain ⟨rfl, rfl⟩ := p_1
  refine lv_if_eq (tgt := 21) hx hb dX11_span_4 (by decide) (fun c_2 => ?_) (fun c_2 => absurd (by decide) c_2)
  refine lv_iconst (v := (-1)) hx hb dX11_span_21 (by decide) ?_
  exact th_iret E hr hlk hs hT_1 hS_1 ⟨rfl, rfl⟩ dX11_span_22
set_option maxHeartbeats 4000000 in
set_option maxRecDepth 100000 in
/-- StreamEnds.known -/
theorem c_X11_known_v2 (l : Launch) (D : va_G) (cI cS : ClassId) (τ : Nat → Option Nat) (ρ : Nat → Nat → Nat) (hW : WF τ ρ) (H : Heap) (hT : TH D cI cS τ ρ H) (a0 : Nat) (x0 : Int32) (x1 : Int32) (ha0 : τ a0 = some 11) (bl_x0 : 2 ≤ x0.toInt) : MI l D cI cS τ ρ yX11_known cX11_known 3 (some .int) 1 20 H [.ref a0, .int x0, .int x1] (fun (r : Int32) (u : Heap) => H = u ∧ (-1) = r) (fun q => False) := by
  refine MI.of (by decide) (Nat.le_of_ble_eq_true rfl) ?_
  intro p e s m args below meth c E hml hr hlk hs ls hl
  have hx := E.1
  have hb := E.2.1
  have hown := E.2.2.1
  have hts := E.2.2.2.1
  have hS : SS (fun q => False) H H [] := SS.rf
  have hl : lv_has ls 3 [(0, .ref a0), (1, .int x0), (2, .int x1)] := hl
  refine lv_iload_n hx hb dX11_known_0 rfl (lv_at hl 1 rfl) ?_
  refine th_Si (As := [.int x0]) (rest := []) E hml hl.1 (c_X11_isEnd_v2 l D cI cS τ ρ hW H hT x0 (by (omega))) lk_X11_65 yd_X11_isEnd hS (fun _ h => h.elim) ⟨by decide, by decide⟩ (Nat.le_of_ble_eq_true rfl) ⟨by decide, by decide⟩ rfl dX11_known_1 (fun r_1 H_1 locs_1 p_1 hT_1 hk_1 hS_1 => ?_)
  have p_1 : H = H_1 ∧ 0 = r_1 := p_1
  obtain ⟨rfl, rfl⟩ := p_1
  refine lv_if_eq (tgt := 11) hx hb dX11_known_4 (by decide) (fun c_2 => ?_) (fun c_2 => absurd (by decide) c_2)
  refine lv_iconst (v := (-1)) hx hb dX11_known_11 (by decide) ?_
  exact th_iret E hr hlk hs hT_1 hS_1 ⟨rfl, rfl⟩ dX11_known_12
set_option maxHeartbeats 4000000 in
set_option maxRecDepth 100000 in
/-- StreamEnds.isEnd -/
theorem c_X11_isEnd_v3 (l : Launch) (D : va_G) (cI cS : ClassId) (τ : Nat → Option Nat) (ρ : Nat → Nat → Nat) (hW : WF τ ρ) (H : Heap) (hT : TH D cI cS τ ρ H) : MI l D cI cS τ ρ yX11_isEnd cX11_isEnd 1 (some .boolean) 0 0 H [.int 0] (fun (r : Int32) (u : Heap) => H = u ∧ 1 = r) (fun q => False) := by
  refine MI.of (by decide) (Nat.le_of_ble_eq_true rfl) ?_
  intro p e s m args below meth c E hml hr hlk hs ls hl
  have hx := E.1
  have hb := E.2.1
  have hown := E.2.2.1
  have hts := E.2.2.2.1
  have hS : SS (fun q => False) H H [] := SS.rf
  have hl : lv_has ls 1 [(0, .int 0)] := hl
  refine lv_iload_n hx hb dX11_isEnd_0 rfl (lv_at hl 0 rfl) ?_
  refine lv_if_eq (tgt := 9) hx hb dX11_isEnd_1 (by decide) (fun c_1 => ?_) (fun c_1 => absurd (by decide) c_1)
  refine lv_iconst (v := 1) hx hb dX11_isEnd_9 (by decide) ?_
  refine lv_goto (tgt := 14) hx hb dX11_isEnd_10 (by decide) ?_
  exact th_zret E hr hlk hs (Or.inr rfl) hT hS ⟨rfl, rfl⟩ dX11_isEnd_14
set_option maxHeartbeats 4000000 in
set_option maxRecDepth 100000 in
/-- StreamEnds.open -/
theorem c_X11_open_v3 (l : Launch) (D : va_G) (cI cS : ClassId) (τ : Nat → Option Nat) (ρ : Nat → Nat → Nat) (hW : WF τ ρ) (H : Heap) (hT : TH D cI cS τ ρ H) (a0 : Nat) (x0 : Int32) (ha0 : τ a0 = some 11) (bh_x0 : x0.toInt ≤ -1) : MI l D cI cS τ ρ yX11_open cX11_open 4 (some .int) 1 20 H [.ref a0, .int 0, .int x0] (fun (r : Int32) (u : Heap) => H = u ∧ (-1) = r) (fun q => False) := by
  refine MI.of (by decide) (Nat.le_of_ble_eq_true rfl) ?_
  intro p e s m args below meth c E hml hr hlk hs ls hl
  have hx := E.1
  have hb := E.2.1
  have hown := E.2.2.1
  have hts := E.2.2.2.1
  have hS : SS (fun q => False) H H [] := SS.rf
  have hl : lv_has ls 4 [(0, .ref a0), (1, .int 0), (2, .int x0)] := hl
  refine lv_iload_n hx hb dX11_open_0 rfl (lv_at hl 1 rfl) ?_
  refine th_Si (As := [.int 0]) (rest := []) E hml hl.1 (c_X11_isEnd_v3 l D cI cS τ ρ hW H hT) lk_X11_65 yd_X11_isEnd hS (fun _ h => h.elim) ⟨by decide, by decide⟩ (Nat.le_of_ble_eq_true rfl) ⟨by decide, by decide⟩ rfl dX11_open_1 (fun r_1 H_1 locs_1 p_1 hT_1 hk_1 hS_1 => ?_)
  have p_1 : H = H_1 ∧ 1 = r_1 := p_1
  obtain ⟨rfl, rfl⟩ := p_1
  refine lv_if_eq (tgt := 16) hx hb dX11_open_4 (by decide) (fun c_2 => absurd c_2 (by decide)) (fun c_2 => ?_)
  refine lv_iload_n hx hb dX11_open_7 rfl (lv_at hl 2 rfl) ?_
  refine lv_if_lt (tgt := 16) hx hb dX11_open_8 (by decide) (fun c_3 => ?_) (fun c_3 => False.elim (by (have : (0 : Int32).toInt = 0 := (by decide); have : ¬ x0.toInt < (0 : Int32).toInt := fun q => c_3 (Int32.lt_iff_toInt_lt.mpr q); omega)))
  refine lv_iconst (v := (-1)) hx hb dX11_open_16 (by decide) ?_
  exact th_iret E hr hlk hs hT_1 hS_1 ⟨rfl, rfl⟩ dX11_open_17
set_option maxHeartbeats 4000000 in
set_option maxRecDepth 100000 in
/-- StreamEnds$Network.endpoint -/
theorem c_X4_endpoint (l : Launch) (D : va_G) (cI cS : ClassId) (τ : Nat → Option Nat) (ρ : Nat → Nat → Nat) (hW : WF τ ρ) (H : Heap) (hT : TH D cI cS τ ρ H) (a0 : Nat) (ha0 : τ a0 = some 4) : MR l D cI cS τ ρ yX4_endpoint cX4_endpoint 2 (some (.object "StreamEnds$Endpoint")) 0 0 H [.ref a0, .int 0] (fun (r : Nat) (u : Heap) => H = u ∧ ρ a0 3 = r) (fun q => False) := by
  refine MR.of (by decide) (Nat.le_of_ble_eq_true rfl) ?_
  intro p e s m args below meth c E hml hr hlk hs ls hl
  have hx := E.1
  have hb := E.2.1
  have hown := E.2.2.1
  have hts := E.2.2.2.1
  have hS : SS (fun q => False) H H [] := SS.rf
  have hl : lv_has ls 2 [(0, .ref a0), (1, .int 0)] := hl
  refine lv_iload_n hx hb dX4_endpoint_0 rfl (lv_at hl 1 rfl) ?_
  refine lv_if_ne (tgt := 11) hx hb dX4_endpoint_1 (by decide) (fun c_1 => absurd (by decide) c_1) (fun c_1 => ?_)
  refine lv_aload_n hx hb dX4_endpoint_4 rfl (lv_at hl 0 rfl) ?_
  refine gf_X4_37 E hT hW ha0 dX4_endpoint_5 (fun h_2 => ?_)
  refine lv_goto (tgt := 15) hx hb dX4_endpoint_8 (by decide) ?_
  exact th_aret E hr hlk hs hT hS ⟨rfl, rfl⟩ dX4_endpoint_15
set_option maxHeartbeats 4000000 in
set_option maxRecDepth 100000 in
/-- StreamEnds$Endpoint.adjustTimer -/
theorem c_X2_adjustTimer (l : Launch) (D : va_G) (cI cS : ClassId) (τ : Nat → Option Nat) (ρ : Nat → Nat → Nat) (hW : WF τ ρ) (H : Heap) (hT : TH D cI cS τ ρ H) (a0 : Nat) (ha0 : τ a0 = some 2) (hf_1 : fi D 2 7 H a0 = 1) : MV l D cI cS τ ρ yX2_adjustTimer cX2_adjustTimer 1 none 0 0 H [.ref a0] (fun (u : Heap) => fi D 2 8 u a0 = 0) (fun q => q = a0) := by
  refine MV.of (by decide) (Nat.le_of_ble_eq_true rfl) ?_
  intro p e s m args below meth c E hml hr hlk hs ls hl
  have hx := E.1
  have hb := E.2.1
  have hown := E.2.2.1
  have hts := E.2.2.2.1
  have hS : SS (fun q => q = a0) H H [] := SS.rf
  have hl : lv_has ls 1 [(0, .ref a0)] := hl
  refine lv_aload_n hx hb dX2_adjustTimer_0 rfl (lv_at hl 0 rfl) ?_
  refine gf_X2_63 E hT ha0 dX2_adjustTimer_1 ?_
  refine th_topi (y := 1) hf_1 ?_
  refine lv_if_eq (tgt := 39) hx hb dX2_adjustTimer_4 (by decide) (fun c_1 => absurd c_1 (by decide)) (fun c_1 => ?_)
  refine lv_aload_n hx hb dX2_adjustTimer_7 rfl (lv_at hl 0 rfl) ?_
  refine gf_X2_63 E hT ha0 dX2_adjustTimer_8 ?_
  refine th_topi (y := 1) hf_1 ?_
  refine lv_iconst (v := 1) hx hb dX2_adjustTimer_11 (by decide) ?_
  refine lv_icmp_eq (tgt := 39) hx hb dX2_adjustTimer_12 (by decide) (fun c_2 => ?_) (fun c_2 => absurd (by decide) c_2)
  refine lv_aload_n hx hb dX2_adjustTimer_39 rfl (lv_at hl 0 rfl) ?_
  refine lv_iconst (v := 0) hx hb dX2_adjustTimer_40 (by decide) ?_
  refine pf_X2_66 E hT hS ha0 rfl dX2_adjustTimer_41 (fun H_3 locs_3 hT_3 hU_3 hS_3 => ?_)
  refine lv_goto (tgt := 65) hx hb dX2_adjustTimer_44 (by decide) ?_
  exact th_vret E hr hlk hs hT_3 hS_3 (PU.i hU_3) dX2_adjustTimer_65
set_option maxHeartbeats 4000000 in
set_option maxRecDepth 100000 in
/-- StreamEnds.open -/
theorem c_X11_open_v4 (l : Launch) (D : va_G) (cI cS : ClassId) (τ : Nat → Option Nat) (ρ : Nat → Nat → Nat) (hW : WF τ ρ) (H : Heap) (hT : TH D cI cS τ ρ H) (a0 : Nat) (ha0 : τ a0 = some 11) (hf_1 : fi D 2 7 H (ρ (ρ a0 2) 3) = 0) (he_2 : ρ (ρ a0 2) 1 = ρ (ρ (ρ a0 2) 3) 2) (hf_3 : fi D 10 2 H (ρ (ρ (ρ a0 2) 3) 2) = 0) : MI l D cI cS τ ρ yX11_open cX11_open 4 (some .int) 2 41 H [.ref a0, .int 0, .int 0] (fun (r : Int32) (u : Heap) => 0 = r ∧ fi D 7 0 u (ρ (ρ (ρ a0 2) 3) 6) = 6 ∧ fi D 7 1 u (ρ (ρ (ρ a0 2) 3) 6) = 0 ∧ fi D 7 2 u (ρ (ρ (ρ a0 2) 3) 6) = 0 ∧ fi D 7 3 u (ρ (ρ (ρ a0 2) 3) 6) = (-4) ∧ fi D 7 4 u (ρ (ρ (ρ a0 2) 3) 6) = 0 ∧ fi D 7 5 u (ρ (ρ (ρ a0 2) 3) 6) = 0 ∧ fi D 3 0 u (ρ (ρ (ρ a0 2) 3) 5) = 0 ∧ fi D 3 1 u (ρ (ρ (ρ a0 2) 3) 5) = 1 ∧ fi D 3 2 u (ρ (ρ (ρ a0 2) 3) 5) = (fi D 1 1 H (ρ (ρ (ρ a0 2) 3) 1)) + 1 ∧ fi D 3 3 u (ρ (ρ (ρ a0 2) 3) 5) = (-4) ∧ fi D 3 4 u (ρ (ρ (ρ a0 2) 3) 5) = 0 ∧ fl D 3 5 u (ρ (ρ (ρ a0 2) 3) 5) = 0 ∧ fi D 5 0 u (ρ (ρ (ρ a0 2) 3) 4) = 0 ∧ fi D 5 1 u (ρ (ρ (ρ a0 2) 3) 4) = 0 ∧ fi D 5 2 u (ρ (ρ (ρ a0 2) 3) 4) = 1 ∧ fi D 5 3 u (ρ (ρ (ρ a0 2) 3) 4) = 0 ∧ fi D 5 4 u (ρ (ρ (ρ a0 2) 3) 4) = 0 ∧ fi D 5 5 u (ρ (ρ (ρ a0 2) 3) 4) = 0 ∧ fl D 5 6 u (ρ (ρ (ρ a0 2) 3) 4) = 0 ∧ fi D 2 8 u (ρ (ρ a0 2) 3) = 0) (fun q => q = ρ (ρ a0 2) 3 ∨ q = ρ (ρ (ρ a0 2) 3) 4 ∨ q = ρ (ρ (ρ a0 2) 3) 5 ∨ q = ρ (ρ (ρ a0 2) 3) 6) := by
  refine MI.of (by decide) (Nat.le_of_ble_eq_true rfl) ?_
  intro p e s m args below meth c E hml hr hlk hs ls hl
  have hx := E.1
  have hb := E.2.1
  have hown := E.2.2.1
  have hts := E.2.2.2.1
  have hS : SS (fun q => q = ρ (ρ a0 2) 3 ∨ q = ρ (ρ (ρ a0 2) 3) 4 ∨ q = ρ (ρ (ρ a0 2) 3) 5 ∨ q = ρ (ρ (ρ a0 2) 3) 6) H H [] := SS.rf
  have hl : lv_has ls 4 [(0, .ref a0), (1, .int 0), (2, .int 0)] := hl
  refine lv_iload_n hx hb dX11_open_0 rfl (lv_at hl 1 rfl) ?_
  refine th_Si (As := [.int 0]) (rest := []) E hml hl.1 (c_X11_isEnd_v3 l D cI cS τ ρ hW H hT) lk_X11_65 yd_X11_isEnd hS (fun _ h => h.elim) ⟨by decide, by decide⟩ (Nat.le_of_ble_eq_true rfl) ⟨by decide, by decide⟩ rfl dX11_open_1 (fun r_1 H_1 locs_1 p_1 hT_1 hk_1 hS_1 => ?_)
  have p_1 : H = H_1 ∧ 1 = r_1 := p_1
  obtain ⟨rfl, rfl⟩ := p_1
  refine lv_if_eq (tgt := 16) hx hb dX11_open_4 (by decide) (fun c_2 => absurd c_2 (by decide)) (fun c_2 => ?_)
  refine lv_iload_n hx hb dX11_open_7 rfl (lv_at hl 2 rfl) ?_
  refine lv_if_lt (tgt := 16) hx hb dX11_open_8 (by decide) (fun c_3 => absurd c_3 (by decide)) (fun c_3 => ?_)
  refine lv_iload_n hx hb dX11_open_11 rfl (lv_at hl 2 rfl) ?_
  refine lv_iconst (v := 1) hx hb dX11_open_12 (by decide) ?_
  refine lv_icmp_le (tgt := 18) hx hb dX11_open_13 (by decide) (fun c_4 => ?_) (fun c_4 => absurd (by decide) c_4)
  refine lv_aload_n hx hb dX11_open_18 rfl (lv_at hl 0 rfl) ?_
  refine gf_X11_26 E hT_1 hW ha0 dX11_open_19 (fun h_5 => ?_)
  refine lv_iload_n hx hb dX11_open_22 rfl (lv_at hl 1 rfl) ?_
  refine th_Vr (As := [.int 0]) (rest := []) E hml hl.1 (c_X4_endpoint l D cI cS τ ρ hW H hT_1 (ρ a0 2) h_5) lk_X11_68 yd_X4_endpoint hT_1 h_5 rfl (by decide) hS_1 (fun _ h => h.elim) ⟨by decide, by decide⟩ (Nat.le_of_ble_eq_true rfl) ⟨by decide, by decide⟩ rfl dX11_open_23 (fun r_6 H_6 locs_6 p_6 hT_6 hk_6 hS_6 => ?_)
  have p_6 : H = H_6 ∧ ρ (ρ a0 2) 3 = r_6 := p_6
  obtain ⟨rfl, rfl⟩ := p_6
  have h_6 : τ (ρ (ρ a0 2) 3) = some 2 := hW _ 4 3 h_5 (by decide) (by decide) (by decide)
  refine lv_astore_n (lv' := [(3, .ref (ρ (ρ a0 2) 3)), (0, .ref a0), (1, .int 0), (2, .int 0)]) hx hb dX11_open_26 rfl hl (by decide) rfl (fun ls hl => ?_)
  refine lv_aload_n hx hb dX11_open_27 rfl (lv_at hl 0 rfl) ?_
  refine gf_X11_72 E hT_6 h_6 dX11_open_28 ?_
  refine th_topi (y := 0) hf_1 ?_
  refine lv_if_eq (tgt := 37) hx hb dX11_open_31 (by decide) (fun c_7 => ?_) (fun c_7 => absurd (by decide) c_7)
  refine lv_aload_n hx hb dX11_open_37 rfl (lv_at hl 0 rfl) ?_
  refine th_Vv (As := []) (rest := []) E hml hl.1 (c_X2_start l D cI cS τ ρ hW H hT_6 (ρ (ρ a0 2) 3) h_6) lk_X11_77 yd_X2_start hT_6 h_6 rfl (by decide) hS_6 (fun q => (fun h => h.elim (fun h => (Or.inl h)) (fun h => h.elim (fun h => (Or.inr (Or.inl h))) (fun h => h.elim (fun h => (Or.inr (Or.inr (Or.inl h)))) (fun h => (Or.inr (Or.inr (Or.inr h)))))))) ⟨by decide, by decide⟩ (Nat.le_of_ble_eq_true rfl) ⟨by decide, by decide⟩ rfl dX11_open_38 (fun H_8 locs_8 p_8 hT_8 hk_8 hS_8 => ?_)
  have p_8 : fi D 2 9 H_8 (ρ (ρ a0 2) 3) = 0 ∧ fi D 2 8 H_8 (ρ (ρ a0 2) 3) = 0 ∧ fi D 2 7 H_8 (ρ (ρ a0 2) 3) = 0 ∧ fl D 5 6 H_8 (ρ (ρ (ρ a0 2) 3) 4) = 0 ∧ fi D 5 5 H_8 (ρ (ρ (ρ a0 2) 3) 4) = 0 ∧ fi D 5 4 H_8 (ρ (ρ (ρ a0 2) 3) 4) = 0 ∧ fi D 5 3 H_8 (ρ (ρ (ρ a0 2) 3) 4) = 0 ∧ fi D 5 2 H_8 (ρ (ρ (ρ a0 2) 3) 4) = 1 ∧ fi D 5 1 H_8 (ρ (ρ (ρ a0 2) 3) 4) = 0 ∧ fi D 5 0 H_8 (ρ (ρ (ρ a0 2) 3) 4) = 0 ∧ fl D 3 5 H_8 (ρ (ρ (ρ a0 2) 3) 5) = 0 ∧ fi D 3 4 H_8 (ρ (ρ (ρ a0 2) 3) 5) = 0 ∧ fi D 3 3 H_8 (ρ (ρ (ρ a0 2) 3) 5) = (-4) ∧ fi D 3 2 H_8 (ρ (ρ (ρ a0 2) 3) 5) = (fi D 1 1 H (ρ (ρ (ρ a0 2) 3) 1)) + 1 ∧ fi D 3 1 H_8 (ρ (ρ (ρ a0 2) 3) 5) = 1 ∧ fi D 3 0 H_8 (ρ (ρ (ρ a0 2) 3) 5) = 0 ∧ fi D 7 5 H_8 (ρ (ρ (ρ a0 2) 3) 6) = 0 ∧ fi D 7 4 H_8 (ρ (ρ (ρ a0 2) 3) 6) = 0 ∧ fi D 7 3 H_8 (ρ (ρ (ρ a0 2) 3) 6) = (-4) ∧ fi D 7 2 H_8 (ρ (ρ (ρ a0 2) 3) 6) = 0 ∧ fi D 7 1 H_8 (ρ (ρ (ρ a0 2) 3) 6) = 0 ∧ fi D 7 0 H_8 (ρ (ρ (ρ a0 2) 3) 6) = 6 := p_8
  obtain ⟨p_8_0, p_8_1, p_8_2, p_8_3, p_8_4, p_8_5, p_8_6, p_8_7, p_8_8, p_8_9, p_8_10, p_8_11, p_8_12, p_8_13, p_8_14, p_8_15, p_8_16, p_8_17, p_8_18, p_8_19, p_8_20, p_8_21⟩ := p_8
  refine lv_iload_n hx hb dX11_open_41 rfl (lv_at hl 3 rfl) ?_
  refine lv_if_ne (tgt := 53) hx hb dX11_open_42 (by decide) (fun c_9 => absurd (by decide) c_9) (fun c_9 => ?_)
  refine lv_aload_n hx hb dX11_open_45 rfl (lv_at hl 0 rfl) ?_
  refine lv_iconst (v := 1) hx hb dX11_open_46 (by decide) ?_
  refine pf_X11_72 E hT_8 hS_8 h_6 (Or.inl rfl) dX11_open_47 (fun H_10 locs_10 hT_10 hU_10 hS_10 => ?_)
  refine lv_goto (tgt := 62) hx hb dX11_open_50 (by decide) ?_
  refine lv_aload_n hx hb dX11_open_62 rfl (lv_at hl 0 rfl) ?_
  refine th_Vv (As := []) (rest := []) E hml hl.1 (c_X2_adjustTimer l D cI cS τ ρ hW H_10 hT_10 (ρ (ρ a0 2) 3) h_6 (PU.i hU_10)) lk_X11_83 yd_X2_adjustTimer hT_10 h_6 rfl (by decide) hS_10 (fun q h => (Or.inl h)) ⟨by decide, by decide⟩ (Nat.le_of_ble_eq_true rfl) ⟨by decide, by decide⟩ rfl dX11_open_63 (fun H_11 locs_11 p_11 hT_11 hk_11 hS_11 => ?_)
  have p_11 : fi D 2 8 H_11 (ρ (ρ a0 2) 3) = 0 := p_11
  have p_11_0 := p_11
  refine lv_aload_n hx hb dX11_open_66 rfl (lv_at hl 1 rfl) ?_
  refine gf_X11_26 E hT_11 hW ha0 dX11_open_67 (fun h_12 => ?_)
  refine gf_X11_86 E hT_11 hW h_5 dX11_open_70 (fun h_13 => ?_)
  refine th_topr he_2 ?_
  have g_13 := h_13
  rw [he_2] at g_13
  refine gf_X11_90 E hT_11 g_13 dX11_open_73 ?_
  refine th_topi (y := 0) (Eq.trans (fi_q (hk_11 _ (th_ne g_13 h_6 (by decide)))) (Eq.trans (fi_q (hU_10.2.2 _ (th_ne g_13 h_6 (by decide)))) (Eq.trans (fi_q (hk_8 _ (fun h => h.elim (th_ne g_13 h_6 (by decide)) (fun h => h.elim (th_ne g_13 (hW _ 2 4 h_6 (by decide) (by decide) (by decide)) (by decide)) (fun h => h.elim (th_ne g_13 (hW _ 2 5 h_6 (by decide) (by decide) (by decide)) (by decide)) (th_ne g_13 (hW _ 2 6 h_6 (by decide) (by decide) (by decide)) (by decide))))))) hf_3))) ?_
  exact th_iret E hr hlk hs hT_11 hS_11 ⟨rfl, (Eq.trans (fi_q (hk_11 _ (th_ne (hW _ 2 6 h_6 (by decide) (by decide) (by decide)) h_6 (by decide)))) (Eq.trans (fi_q (hU_10.2.2 _ (th_ne (hW _ 2 6 h_6 (by decide) (by decide) (by decide)) h_6 (by decide)))) p_8_21)), (Eq.trans (fi_q (hk_11 _ (th_ne (hW _ 2 6 h_6 (by decide) (by decide) (by decide)) h_6 (by decide)))) (Eq.trans (fi_q (hU_10.2.2 _ (th_ne (hW _ 2 6 h_6 (by decide) (by decide) (by decide)) h_6 (by decide)))) p_8_20)), (Eq.trans (fi_q (hk_11 _ (th_ne (hW _ 2 6 h_6 (by decide) (by decide) (by decide)) h_6 (by decide)))) (Eq.trans (fi_q (hU_10.2.2 _ (th_ne (hW _ 2 6 h_6 (by decide) (by decide) (by decide)) h_6 (by decide)))) p_8_19)), (Eq.trans (fi_q (hk_11 _ (th_ne (hW _ 2 6 h_6 (by decide) (by decide) (by decide)) h_6 (by decide)))) (Eq.trans (fi_q (hU_10.2.2 _ (th_ne (hW _ 2 6 h_6 (by decide) (by decide) (by decide)) h_6 (by decide)))) p_8_18)), (Eq.trans (fi_q (hk_11 _ (th_ne (hW _ 2 6 h_6 (by decide) (by decide) (by decide)) h_6 (by decide)))) (Eq.trans (fi_q (hU_10.2.2 _ (th_ne (hW _ 2 6 h_6 (by decide) (by decide) (by decide)) h_6 (by decide)))) p_8_17)), (Eq.trans (fi_q (hk_11 _ (th_ne (hW _ 2 6 h_6 (by decide) (by decide) (by decide)) h_6 (by decide)))) (Eq.trans (fi_q (hU_10.2.2 _ (th_ne (hW _ 2 6 h_6 (by decide) (by decide) (by decide)) h_6 (by decide)))) p_8_16)), (Eq.trans (fi_q (hk_11 _ (th_ne (hW _ 2 5 h_6 (by decide) (by decide) (by decide)) h_6 (by decide)))) (Eq.trans (fi_q (hU_10.2.2 _ (th_ne (hW _ 2 5 h_6 (by decide) (by decide) (by decide)) h_6 (by decide)))) p_8_15)), (Eq.trans (fi_q (hk_11 _ (th_ne (hW _ 2 5 h_6 (by decide) (by decide) (by decide)) h_6 (by decide)))) (Eq.trans (fi_q (hU_10.2.2 _ (th_ne (hW _ 2 5 h_6 (by decide) (by decide) (by decide)) h_6 (by decide)))) p_8_14)), (Eq.trans (fi_q (hk_11 _ (th_ne (hW _ 2 5 h_6 (by decide) (by decide) (by decide)) h_6 (by decide)))) (Eq.trans (fi_q (hU_10.2.2 _ (th_ne (hW _ 2 5 h_6 (by decide) (by decide) (by decide)) h_6 (by decide)))) p_8_13)), (Eq.trans (fi_q (hk_11 _ (th_ne (hW _ 2 5 h_6 (by decide) (by decide) (by decide)) h_6 (by decide)))) (Eq.trans (fi_q (hU_10.2.2 _ (th_ne (hW _ 2 5 h_6 (by decide) (by decide) (by decide)) h_6 (by decide)))) p_8_12)), (Eq.trans (fi_q (hk_11 _ (th_ne (hW _ 2 5 h_6 (by decide) (by decide) (by decide)) h_6 (by decide)))) (Eq.trans (fi_q (hU_10.2.2 _ (th_ne (hW _ 2 5 h_6 (by decide) (by decide) (by decide)) h_6 (by decide)))) p_8_11)), (Eq.trans (fl_q (hk_11 _ (th_ne (hW _ 2 5 h_6 (by decide) (by decide) (by decide)) h_6 (by decide)))) (Eq.trans (fl_q (hU_10.2.2 _ (th_ne (hW _ 2 5 h_6 (by decide) (by decide) (by decide)) h_6 (by decide)))) p_8_10)), (Eq.trans (fi_q (hk_11 _ (th_ne (hW _ 2 4 h_6 (by decide) (by decide) (by decide)) h_6 (by decide)))) (Eq.trans (fi_q (hU_10.2.2 _ (th_ne (hW _ 2 4 h_6 (by decide) (by decide) (by decide)) h_6 (by decide)))) p_8_9)), (Eq.trans (fi_q (hk_11 _ (th_ne (hW _ 2 4 h_6 (by decide) (by decide) (by decide)) h_6 (by decide)))) (Eq.trans (fi_q (hU_10.2.2 _ (th_ne (hW _ 2 4 h_6 (by decide) (by decide) (by decide)) h_6 (by decide)))) p_8_8)), (Eq.trans (fi_q (hk_11 _ (th_ne (hW _ 2 4 h_6 (by decide) (by decide) (by decide)) h_6 (by decide)))) (Eq.trans (fi_q (hU_10.2.2 _ (th_ne (hW _ 2 4 h_6 (by decide) (by decide) (by decide)) h_6 (by decide)))) p_8_7)), (Eq.trans (fi_q (hk_11 _ (th_ne (hW _ 2 4 h_6 (by decide) (by decide) (by decide)) h_6 (by decide)))) (Eq.trans (fi_q (hU_10.2.2 _ (th_ne (hW _ 2 4 h_6 (by decide) (by decide) (by decide)) h_6 (by decide)))) p_8_6)), (Eq.trans (fi_q (hk_11 _ (th_ne (hW _ 2 4 h_6 (by decide) (by decide) (by decide)) h_6 (by decide)))) (Eq.trans (fi_q (hU_10.2.2 _ (th_ne (hW _ 2 4 h_6 (by decide) (by decide) (by decide)) h_6 (by decide)))) p_8_5)), (Eq.trans (fi_q (hk_11 _ (th_ne (hW _ 2 4 h_6 (by decide) (by decide) (by decide)) h_6 (by decide)))) (Eq.trans (fi_q (hU_10.2.2 _ (th_ne (hW _ 2 4 h_6 (by decide) (by decide) (by decide)) h_6 (by decide)))) p_8_4)), (Eq.trans (fl_q (hk_11 _ (th_ne (hW _ 2 4 h_6 (by decide) (by decide) (by decide)) h_6 (by decide)))) (Eq.trans (fl_q (hU_10.2.2 _ (th_ne (hW _ 2 4 h_6 (by decide) (by decide) (by decide)) h_6 (by decide)))) p_8_3)), p_11_0⟩ dX11_open_76
set_option maxHeartbeats 4000000 in
set_option maxRecDepth 100000 in
/-- StreamEnds$Wire.draft -/
theorem c_X10_draft (l : Launch) (D : va_G) (cI cS : ClassId) (τ : Nat → Option Nat) (ρ : Nat → Nat → Nat) (hW : WF τ ρ) (H : Heap) (hT : TH D cI cS τ ρ H) (a0 : Nat) (ha0 : τ a0 = some 10) (hf_1 : fi D 10 2 H a0 = 0) : MR l D cI cS τ ρ yX10_draft cX10_draft 1 (some (.object "StreamEnds$Segment")) 0 0 H [.ref a0] (fun (r : Nat) (u : Heap) => H = u ∧ ar H (ρ a0 0) 0 = r) (fun q => False) := by
  refine MR.of (by decide) (Nat.le_of_ble_eq_true rfl) ?_
  intro p e s m args below meth c E hml hr hlk hs ls hl
  have hx := E.1
  have hb := E.2.1
  have hown := E.2.2.1
  have hts := E.2.2.2.1
  have hS : SS (fun q => False) H H [] := SS.rf
  have hl : lv_has ls 1 [(0, .ref a0)] := hl
  refine lv_aload_n hx hb dX10_draft_0 rfl (lv_at hl 0 rfl) ?_
  refine gf_X10_22 E hT ha0 dX10_draft_1 ?_
  refine th_topi (y := 0) hf_1 ?_
  refine lv_if_lt (tgt := 28) hx hb dX10_draft_4 (by decide) (fun c_1 => absurd c_1 (by decide)) (fun c_1 => ?_)
  refine lv_aload_n hx hb dX10_draft_7 rfl (lv_at hl 0 rfl) ?_
  refine gf_X10_22 E hT ha0 dX10_draft_8 ?_
  refine th_topi (y := 0) hf_1 ?_
  refine lv_bipush (v := 20) hx hb dX10_draft_11 (by decide) ?_
  refine lv_icmp_gt (tgt := 28) hx hb dX10_draft_13 (by decide) (fun c_2 => absurd c_2 (by decide)) (fun c_2 => ?_)
  refine lv_aload_n hx hb dX10_draft_16 rfl (lv_at hl 0 rfl) ?_
  refine gf_X10_11 E hT hW ha0 dX10_draft_17 (fun h_3 => ?_)
  refine lv_aload_n hx hb dX10_draft_20 rfl (lv_at hl 0 rfl) ?_
  refine gf_X10_22 E hT ha0 dX10_draft_21 ?_
  refine th_topi (y := 0) hf_1 ?_
  refine th_aald E hT h_3 (vp_in_iff.mpr ⟨by decide, by decide⟩) dX10_draft_24 (fun h_4 => ?_)
  refine lv_goto (tgt := 32) hx hb dX10_draft_25 (by decide) ?_
  exact th_aret E hr hlk hs hT hS ⟨rfl, rfl⟩ dX10_draft_32
set_option maxHeartbeats 4000000 in
set_option maxRecDepth 100000 in
/-- StreamEnds$Config.number -/
theorem c_X1_number (l : Launch) (D : va_G) (cI cS : ClassId) (τ : Nat → Option Nat) (ρ : Nat → Nat → Nat) (hW : WF τ ρ) (H : Heap) (hT : TH D cI cS τ ρ H) (a0 : Nat) (x0 : Int32) (ha0 : τ a0 = some 1) (hf_1 : fi D 1 3 H a0 = 100) (hf_2 : fi D 1 2 H a0 = 250) : MI l D cI cS τ ρ yX1_number cX1_number 3 (some .int) 0 0 H [.ref a0, .int x0, .int 0] (fun (r : Int32) (u : Heap) => H = u) (fun q => False) := by
  refine MI.of (by decide) (Nat.le_of_ble_eq_true rfl) ?_
  intro p e s m args below meth c E hml hr hlk hs ls hl
  have hx := E.1
  have hb := E.2.1
  have hown := E.2.2.1
  have hts := E.2.2.2.1
  have hS : SS (fun q => False) H H [] := SS.rf
  have hl : lv_has ls 3 [(0, .ref a0), (1, .int x0), (2, .int 0)] := hl
  refine lv_iload_n hx hb dX1_number_0 rfl (lv_at hl 1 rfl) ?_
  refine lv_if_ne (tgt := 11) hx hb dX1_number_1 (by decide) (fun c_1 => ?_) (fun c_1 => ?_)
  · refine lv_aload_n hx hb dX1_number_11 rfl (lv_at hl 0 rfl) ?_
    refine gf_X1_24 E hT ha0 dX1_number_12 ?_
    refine th_topi (y := 100) hf_1 ?_
    refine lv_iload_n hx hb dX1_number_15 rfl (lv_at hl 2 rfl) ?_
    refine lv_iadd hx hb dX1_number_16 ?_
    refine th_topi (y := 100) (by decide) ?_
    refine lv_sipush (v := 255) hx hb dX1_number_17 (by decide) ?_
    refine lv_iand hx hb dX1_number_20 ?_
    refine th_topi (y := 100) (by decide) ?_
    exact th_iret E hr hlk hs hT hS rfl dX1_number_21
  · have bl_2 : 0 ≤ x0.toInt := by (have : (0 : Int32).toInt = 0 := (by decide); have := congrArg Int32.toInt c_1; omega)
    have bh_2 : x0.toInt ≤ 0 := by (have : (0 : Int32).toInt = 0 := (by decide); have := congrArg Int32.toInt c_1; omega)
    refine lv_aload_n hx hb dX1_number_4 rfl (lv_at hl 0 rfl) ?_
    refine gf_X1_21 E hT ha0 dX1_number_5 ?_
    refine th_topi (y := 250) hf_2 ?_
    refine lv_goto (tgt := 15) hx hb dX1_number_8 (by decide) ?_
    refine lv_iload_n hx hb dX1_number_15 rfl (lv_at hl 2 rfl) ?_
    refine lv_iadd hx hb dX1_number_16 ?_
    refine th_topi (y := 250) (by decide) ?_
    refine lv_sipush (v := 255) hx hb dX1_number_17 (by decide) ?_
    refine lv_iand hx hb dX1_number_20 ?_
    refine th_topi (y := 250) (by decide) ?_
    exact th_iret E hr hlk hs hT hS rfl dX1_number_21
set_option maxHeartbeats 4000000 in
set_option maxRecDepth 100000 in
/-- StreamEnds$Segment.begin -/
theorem c_X8_begin (l : Launch) (D : va_G) (cI cS : ClassId) (τ : Nat → Option Nat) (ρ : Nat → Nat → Nat) (hW : WF τ ρ) (H : Heap) (hT : TH D cI cS τ ρ H) (a0 : Nat) (x0 : Int32) (x1 : Int32) (ha0 : τ a0 = some 8) : MV l D cI cS τ ρ yX8_begin cX8_begin 4 none 0 0 H [.ref a0, .int x0, .int 1, .int x1] (fun (u : Heap) => fi D 8 0 u a0 = x0 ∧ fi D 8 1 u a0 = 1 ∧ fi D 8 2 u a0 = x1 ∧ fi D 8 3 u a0 = (-4) ∧ fi D 8 4 u a0 = (-4) ∧ fi D 8 5 u a0 = (-4) ∧ fi D 8 6 u a0 = 0 ∧ fi D 8 8 u a0 = 0) (fun q => q = a0) := by
  refine MV.of (by decide) (Nat.le_of_ble_eq_true rfl) ?_
  intro p e s m args below meth c E hml hr hlk hs ls hl
  have hx := E.1
  have hb := E.2.1
  have hown := E.2.2.1
  have hts := E.2.2.2.1
  have hS : SS (fun q => q = a0) H H [] := SS.rf
  have hl : lv_has ls 4 [(0, .ref a0), (1, .int x0), (2, .int 1), (3, .int x1)] := hl
  refine lv_aload_n hx hb dX8_begin_0 rfl (lv_at hl 0 rfl) ?_
  refine lv_iload_n hx hb dX8_begin_1 rfl (lv_at hl 1 rfl) ?_
  refine pf_X8_18 E hT hS ha0 rfl dX8_begin_2 (fun H_1 locs_1 hT_1 hU_1 hS_1 => ?_)
  refine lv_aload_n hx hb dX8_begin_5 rfl (lv_at hl 0 rfl) ?_
  refine lv_iload_n hx hb dX8_begin_6 rfl (lv_at hl 2 rfl) ?_
  refine pf_X8_22 E hT_1 hS_1 ha0 rfl dX8_begin_7 (fun H_2 locs_2 hT_2 hU_2 hS_2 => ?_)
  refine lv_aload_n hx hb dX8_begin_10 rfl (lv_at hl 0 rfl) ?_
  refine lv_iload_n hx hb dX8_begin_11 rfl (lv_at hl 3 rfl) ?_
  refine pf_X8_25 E hT_2 hS_2 ha0 rfl dX8_begin_12 (fun H_3 locs_3 hT_3 hU_3 hS_3 => ?_)
  refine lv_aload_n hx hb dX8_begin_15 rfl (lv_at hl 0 rfl) ?_
  refine lv_bipush (v := (-4)) hx hb dX8_begin_16 (by decide) ?_
  refine pf_X8_28 E hT_3 hS_3 ha0 rfl dX8_begin_18 (fun H_4 locs_4 hT_4 hU_4 hS_4 => ?_)
  refine lv_aload_n hx hb dX8_begin_21 rfl (lv_at hl 0 rfl) ?_
  refine lv_bipush (v := (-4)) hx hb dX8_begin_22 (by decide) ?_
  refine pf_X8_31 E hT_4 hS_4 ha0 rfl dX8_begin_24 (fun H_5 locs_5 hT_5 hU_5 hS_5 => ?_)
  refine lv_aload_n hx hb dX8_begin_27 rfl (lv_at hl 0 rfl) ?_
  refine lv_bipush (v := (-4)) hx hb dX8_begin_28 (by decide) ?_
  refine pf_X8_34 E hT_5 hS_5 ha0 rfl dX8_begin_30 (fun H_6 locs_6 hT_6 hU_6 hS_6 => ?_)
  refine lv_aload_n hx hb dX8_begin_33 rfl (lv_at hl 0 rfl) ?_
  refine lv_iconst (v := 0) hx hb dX8_begin_34 (by decide) ?_
  refine pf_X8_37 E hT_6 hS_6 ha0 rfl dX8_begin_35 (fun H_7 locs_7 hT_7 hU_7 hS_7 => ?_)
  refine lv_aload_n hx hb dX8_begin_38 rfl (lv_at hl 0 rfl) ?_
  refine lv_iconst (v := 0) hx hb dX8_begin_39 (by decide) ?_
  refine pf_X8_40 E hT_7 hS_7 ha0 rfl dX8_begin_40 (fun H_8 locs_8 hT_8 hU_8 hS_8 => ?_)
  exact th_vret E hr hlk hs hT_8 hS_8 ⟨(Eq.trans (PU.io hU_8 (j := 0) (by decide) (by decide)) (Eq.trans (PU.io hU_7 (j := 0) (by decide) (by decide)) (Eq.trans (PU.io hU_6 (j := 0) (by decide) (by decide)) (Eq.trans (PU.io hU_5 (j := 0) (by decide) (by decide)) (Eq.trans (PU.io hU_4 (j := 0) (by decide) (by decide)) (Eq.trans (PU.io hU_3 (j := 0) (by decide) (by decide)) (Eq.trans (PU.io hU_2 (j := 0) (by decide) (by decide)) (PU.i hU_1)))))))), (Eq.trans (PU.io hU_8 (j := 1) (by decide) (by decide)) (Eq.trans (PU.io hU_7 (j := 1) (by decide) (by decide)) (Eq.trans (PU.io hU_6 (j := 1) (by decide) (by decide)) (Eq.trans (PU.io hU_5 (j := 1) (by decide) (by decide)) (Eq.trans (PU.io hU_4 (j := 1) (by decide) (by decide)) (Eq.trans (PU.io hU_3 (j := 1) (by decide) (by decide)) (PU.i hU_2))))))), (Eq.trans (PU.io hU_8 (j := 2) (by decide) (by decide)) (Eq.trans (PU.io hU_7 (j := 2) (by decide) (by decide)) (Eq.trans (PU.io hU_6 (j := 2) (by decide) (by decide)) (Eq.trans (PU.io hU_5 (j := 2) (by decide) (by decide)) (Eq.trans (PU.io hU_4 (j := 2) (by decide) (by decide)) (PU.i hU_3)))))), (Eq.trans (PU.io hU_8 (j := 3) (by decide) (by decide)) (Eq.trans (PU.io hU_7 (j := 3) (by decide) (by decide)) (Eq.trans (PU.io hU_6 (j := 3) (by decide) (by decide)) (Eq.trans (PU.io hU_5 (j := 3) (by decide) (by decide)) (PU.i hU_4))))), (Eq.trans (PU.io hU_8 (j := 4) (by decide) (by decide)) (Eq.trans (PU.io hU_7 (j := 4) (by decide) (by decide)) (Eq.trans (PU.io hU_6 (j := 4) (by decide) (by decide)) (PU.i hU_5)))), (Eq.trans (PU.io hU_8 (j := 5) (by decide) (by decide)) (Eq.trans (PU.io hU_7 (j := 5) (by decide) (by decide)) (PU.i hU_6))), (Eq.trans (PU.io hU_8 (j := 6) (by decide) (by decide)) (PU.i hU_7)), (PU.i hU_8)⟩ dX8_begin_43
set_option maxHeartbeats 4000000 in
set_option maxRecDepth 100000 in
/-- StreamEnds$Segment.has -/
theorem c_X8_has (l : Launch) (D : va_G) (cI cS : ClassId) (τ : Nat → Option Nat) (ρ : Nat → Nat → Nat) (hW : WF τ ρ) (H : Heap) (hT : TH D cI cS τ ρ H) (a0 : Nat) (ha0 : τ a0 = some 8) (hf_1 : fi D 8 1 H a0 = 1) : MI l D cI cS τ ρ yX8_has cX8_has 2 (some .boolean) 0 0 H [.ref a0, .int 4] (fun (r : Int32) (u : Heap) => H = u ∧ 0 = r) (fun q => False) := by
  refine MI.of (by decide) (Nat.le_of_ble_eq_true rfl) ?_
  intro p e s m args below meth c E hml hr hlk hs ls hl
  have hx := E.1
  have hb := E.2.1
  have hown := E.2.2.1
  have hts := E.2.2.2.1
  have hS : SS (fun q => False) H H [] := SS.rf
  have hl : lv_has ls 2 [(0, .ref a0), (1, .int 4)] := hl
  refine lv_aload_n hx hb dX8_has_0 rfl (lv_at hl 0 rfl) ?_
  refine gf_X8_22 E hT ha0 dX8_has_1 ?_
  refine th_topi (y := 1) hf_1 ?_
  refine lv_iload_n hx hb dX8_has_4 rfl (lv_at hl 1 rfl) ?_
  refine lv_iand hx hb dX8_has_5 ?_
  refine th_topi (y := 0) (by decide) ?_
  refine lv_if_eq (tgt := 13) hx hb dX8_has_6 (by decide) (fun c_1 => ?_) (fun c_1 => absurd (by decide) c_1)
  refine lv_iconst (v := 0) hx hb dX8_has_13 (by decide) ?_
  exact th_zret E hr hlk hs (Or.inl rfl) hT hS ⟨rfl, rfl⟩ dX8_has_14
set_option maxHeartbeats 4000000 in
set_option maxRecDepth 100000 in
/-- StreamEnds$Endpoint.draft -/
theorem c_X2_draft (l : Launch) (D : va_G) (cI cS : ClassId) (τ : Nat → Option Nat) (ρ : Nat → Nat → Nat) (hW : WF τ ρ) (H : Heap) (hT : TH D cI cS τ ρ H) (a0 : Nat) (ha0 : τ a0 = some 2) (hf_1 : fi D 10 2 H (ρ a0 2) = 0) (hf_2 : fi D 1 3 H (ρ a0 1) = 100) (hf_3 : fi D 1 2 H (ρ a0 1) = 250) : MR l D cI cS τ ρ yX2_draft cX2_draft 7 (some (.object "StreamEnds$Segment")) 1 23 H [.ref a0, .int 1, .int 0] (fun (r : Nat) (u : Heap) => ar H (ρ (ρ a0 2) 0) 0 = r ∧ fi D 8 8 u (ar H (ρ (ρ a0 2) 0) 0) = 0 ∧ fi D 8 6 u (ar H (ρ (ρ a0 2) 0) 0) = 0 ∧ fi D 8 5 u (ar H (ρ (ρ a0 2) 0) 0) = (-4) ∧ fi D 8 4 u (ar H (ρ (ρ a0 2) 0) 0) = (-4) ∧ fi D 8 3 u (ar H (ρ (ρ a0 2) 0) 0) = (-4) ∧ fi D 8 1 u (ar H (ρ (ρ a0 2) 0) 0) = 1 ∧ fi D 8 0 u (ar H (ρ (ρ a0 2) 0) 0) = fi D 2 0 H a0) (fun q => q = ar H (ρ (ρ a0 2) 0) 0) := by
  refine MR.of (by decide) (Nat.le_of_ble_eq_true rfl) ?_
  intro p e s m args below meth c E hml hr hlk hs ls hl
  have hx := E.1
  have hb := E.2.1
  have hown := E.2.2.1
  have hts := E.2.2.2.1
  have hS : SS (fun q => q = ar H (ρ (ρ a0 2) 0) 0) H H [] := SS.rf
  have hl : lv_has ls 7 [(0, .ref a0), (1, .int 1), (2, .int 0)] := hl
  refine lv_aload_n hx hb dX2_draft_0 rfl (lv_at hl 0 rfl) ?_
  refine gf_X2_40 E hT hW ha0 dX2_draft_1 (fun h_1 => ?_)
  refine th_Vr (As := []) (rest := []) E hml hl.1 (c_X10_draft l D cI cS τ ρ hW H hT (ρ a0 2) h_1 hf_1) lk_X2_109 yd_X10_draft hT h_1 rfl (by decide) hS (fun _ h => h.elim) ⟨by decide, by decide⟩ (Nat.le_of_ble_eq_true rfl) ⟨by decide, by decide⟩ rfl dX2_draft_4 (fun r_2 H_2 locs_2 p_2 hT_2 hk_2 hS_2 => ?_)
  have p_2 : H = H_2 ∧ ar H (ρ (ρ a0 2) 0) 0 = r_2 := p_2
  obtain ⟨rfl, rfl⟩ := p_2
  have h_2 : τ (ar H (ρ (ρ a0 2) 0) 0) = some 8 := (TH.ar8 hT (hW _ 10 0 h_1 (by decide) (by decide) (by decide)) (by decide))
  refine lv_astore_n (lv' := [(3, .ref (ar H (ρ (ρ a0 2) 0) 0)), (0, .ref a0), (1, .int 1), (2, .int 0)]) hx hb dX2_draft_7 rfl hl (by decide) rfl (fun ls hl => ?_)
  refine lv_aload_n hx hb dX2_draft_8 rfl (lv_at hl 0 rfl) ?_
  refine lv_aload_n hx hb dX2_draft_9 rfl (lv_at hl 1 rfl) ?_
  refine gf_X2_32 E hT_2 ha0 dX2_draft_10 ?_
  refine lv_iload_n hx hb dX2_draft_13 rfl (lv_at hl 2 rfl) ?_
  refine lv_aload_n hx hb dX2_draft_14 rfl (lv_at hl 1 rfl) ?_
  refine gf_X2_36 E hT_2 hW ha0 dX2_draft_15 (fun h_3 => ?_)
  refine lv_aload_n hx hb dX2_draft_18 rfl (lv_at hl 1 rfl) ?_
  refine gf_X2_32 E hT_2 ha0 dX2_draft_19 ?_
  refine lv_iload_n hx hb dX2_draft_22 rfl (lv_at hl 3 rfl) ?_
  refine th_Vi (As := [.int (fi D 2 0 H a0), .int 0]) (rest := [.int 1, .int (fi D 2 0 H a0), .ref (ar H (ρ (ρ a0 2) 0) 0)]) E hml hl.1 (c_X1_number l D cI cS τ ρ hW H hT_2 (ρ a0 1) (fi D 2 0 H a0) h_3 hf_2 hf_3) lk_X2_115 yd_X1_number hT_2 h_3 rfl (by decide) hS_2 (fun _ h => h.elim) ⟨by decide, by decide⟩ (Nat.le_of_ble_eq_true rfl) ⟨by decide, by decide⟩ rfl dX2_draft_23 (fun r_4 H_4 locs_4 p_4 hT_4 hk_4 hS_4 => ?_)
  have p_4 : H = H_4 := p_4
  obtain rfl := p_4
  refine th_Vv (As := [.int (fi D 2 0 H a0), .int 1, .int r_4]) (rest := []) E hml hl.1 (c_X8_begin l D cI cS τ ρ hW H hT_4 (ar H (ρ (ρ a0 2) 0) 0) (fi D 2 0 H a0) r_4 h_2) lk_X2_119 yd_X8_begin hT_4 h_2 rfl (by decide) hS_4 (fun q h => h) ⟨by decide, by decide⟩ (Nat.le_of_ble_eq_true rfl) ⟨by decide, by decide⟩ rfl dX2_draft_26 (fun H_5 locs_5 p_5 hT_5 hk_5 hS_5 => ?_)
  have p_5 : fi D 8 0 H_5 (ar H (ρ (ρ a0 2) 0) 0) = (fi D 2 0 H a0) ∧ fi D 8 1 H_5 (ar H (ρ (ρ a0 2) 0) 0) = 1 ∧ fi D 8 2 H_5 (ar H (ρ (ρ a0 2) 0) 0) = r_4 ∧ fi D 8 3 H_5 (ar H (ρ (ρ a0 2) 0) 0) = (-4) ∧ fi D 8 4 H_5 (ar H (ρ (ρ a0 2) 0) 0) = (-4) ∧ fi D 8 5 H_5 (ar H (ρ (ρ a0 2) 0) 0) = (-4) ∧ fi D 8 6 H_5 (ar H (ρ (ρ a0 2) 0) 0) = 0 ∧ fi D 8 8 H_5 (ar H (ρ (ρ a0 2) 0) 0) = 0 := p_5
  obtain ⟨p_5_0, p_5_1, p_5_2, p_5_3, p_5_4, p_5_5, p_5_6, p_5_7⟩ := p_5
  refine lv_aload_n hx hb dX2_draft_29 rfl (lv_at hl 0 rfl) ?_
  refine lv_iconst (v := 4) hx hb dX2_draft_30 (by decide) ?_
  refine th_Vi (As := [.int 4]) (rest := []) E hml hl.1 (c_X8_has l D cI cS τ ρ hW H_5 hT_5 (ar H (ρ (ρ a0 2) 0) 0) h_2 p_5_1) lk_X2_125 yd_X8_has hT_5 h_2 rfl (by decide) hS_5 (fun _ h => h.elim) ⟨by decide, by decide⟩ (Nat.le_of_ble_eq_true rfl) ⟨by decide, by decide⟩ rfl dX2_draft_31 (fun r_6 H_6 locs_6 p_6 hT_6 hk_6 hS_6 => ?_)
  have p_6 : H_5 = H_6 ∧ 0 = r_6 := p_6
  obtain ⟨rfl, rfl⟩ := p_6
  refine lv_if_eq (tgt := 173) hx hb dX2_draft_34 (by decide) (fun c_7 => ?_) (fun c_7 => absurd (by decide) c_7)
  refine lv_aload_n hx hb dX2_draft_173 rfl (lv_at hl 0 rfl) ?_
  exact th_aret E hr hlk hs hT_6 hS_6 ⟨rfl, p_5_7, p_5_6, p_5_5, p_5_4, p_5_3, p_5_1, p_5_0⟩ dX2_draft_174
set_option maxHeartbeats 4000000 in
set_option maxRecDepth 100000 in
/-- StreamEnds$Wire.sendDraft -/
theorem c_X10_sendDraft (l : Launch) (D : va_G) (cI cS : ClassId) (τ : Nat → Option Nat) (ρ : Nat → Nat → Nat) (hW : WF τ ρ) (H : Heap) (hT : TH D cI cS τ ρ H) (a0 : Nat) (ha0 : τ a0 = some 10) (hf_1 : fi D 10 3 H a0 = 0) (hf_2 : fi D 10 2 H a0 = 0) : MV l D cI cS τ ρ yX10_sendDraft cX10_sendDraft 1 none 0 0 H [.ref a0] (fun (u : Heap) => fi D 10 3 u a0 = 1 ∧ fi D 10 2 u a0 = 1) (fun q => q = a0) := by
  refine MV.of (by decide) (Nat.le_of_ble_eq_true rfl) ?_
  intro p e s m args below meth c E hml hr hlk hs ls hl
  have hx := E.1
  have hb := E.2.1
  have hown := E.2.2.1
  have hts := E.2.2.2.1
  have hS : SS (fun q => q = a0) H H [] := SS.rf
  have hl : lv_has ls 1 [(0, .ref a0)] := hl
  refine lv_aload_n hx hb dX10_sendDraft_0 rfl (lv_at hl 0 rfl) ?_
  refine lv_dup hx hb dX10_sendDraft_1 rfl ?_
  refine gf_X10_26 E hT ha0 dX10_sendDraft_2 ?_
  refine th_topi (y := 0) hf_1 ?_
  refine lv_iconst (v := 1) hx hb dX10_sendDraft_5 (by decide) ?_
  refine lv_iadd hx hb dX10_sendDraft_6 ?_
  refine th_topi (y := 1) (by decide) ?_
  refine pf_X10_26 E hT hS ha0 rfl dX10_sendDraft_7 (fun H_1 locs_1 hT_1 hU_1 hS_1 => ?_)
  refine lv_aload_n hx hb dX10_sendDraft_10 rfl (lv_at hl 0 rfl) ?_
  refine gf_X10_22 E hT_1 ha0 dX10_sendDraft_11 ?_
  refine th_topi (y := 0) (Eq.trans (PU.io hU_1 (j := 2) (by decide) (by decide)) hf_2) ?_
  refine lv_bipush (v := 20) hx hb dX10_sendDraft_14 (by decide) ?_
  refine lv_icmp_ge (tgt := 32) hx hb dX10_sendDraft_16 (by decide) (fun c_2 => absurd c_2 (by decide)) (fun c_2 => ?_)
  refine lv_aload_n hx hb dX10_sendDraft_19 rfl (lv_at hl 0 rfl) ?_
  refine lv_dup hx hb dX10_sendDraft_20 rfl ?_
  refine gf_X10_22 E hT_1 ha0 dX10_sendDraft_21 ?_
  refine th_topi (y := 0) (Eq.trans (PU.io hU_1 (j := 2) (by decide) (by decide)) hf_2) ?_
  refine lv_iconst (v := 1) hx hb dX10_sendDraft_24 (by decide) ?_
  refine lv_iadd hx hb dX10_sendDraft_25 ?_
  refine th_topi (y := 1) (by decide) ?_
  refine pf_X10_22 E hT_1 hS_1 ha0 rfl dX10_sendDraft_26 (fun H_3 locs_3 hT_3 hU_3 hS_3 => ?_)
  refine lv_goto (tgt := 42) hx hb dX10_sendDraft_29 (by decide) ?_
  exact th_vret E hr hlk hs hT_3 hS_3 ⟨(Eq.trans (PU.io hU_3 (j := 3) (by decide) (by decide)) (PU.i hU_1)), (PU.i hU_3)⟩ dX10_sendDraft_42
set_option maxHeartbeats 4000000 in
set_option maxRecDepth 100000 in
/-- StreamEnds$Endpoint.sendSyn -/
theorem c_X2_sendSyn (l : Launch) (D : va_G) (cI cS : ClassId) (τ : Nat → Option Nat) (ρ : Nat → Nat → Nat) (hW : WF τ ρ) (H : Heap) (hT : TH D cI cS τ ρ H) (a0 : Nat) (ha0 : τ a0 = some 2) (hf_1 : fi D 2 7 H a0 = 2) (hf_2 : fi D 10 2 H (ρ a0 2) = 0) (hf_3 : fi D 1 3 H (ρ a0 1) = 100) (hf_4 : fi D 1 2 H (ρ a0 1) = 250) (hf_5 : fi D 10 3 H (ρ a0 2) = 0) : MV l D cI cS τ ρ yX2_sendSyn cX2_sendSyn 1 none 2 49 H [.ref a0] (fun (u : Heap) => fi D 8 0 u (ar H (ρ (ρ a0 2) 0) 0) = fi D 2 0 H a0 ∧ fi D 8 1 u (ar H (ρ (ρ a0 2) 0) 0) = 1 ∧ fi D 8 3 u (ar H (ρ (ρ a0 2) 0) 0) = (-4) ∧ fi D 8 4 u (ar H (ρ (ρ a0 2) 0) 0) = (-4) ∧ fi D 8 5 u (ar H (ρ (ρ a0 2) 0) 0) = (-4) ∧ fi D 8 6 u (ar H (ρ (ρ a0 2) 0) 0) = 0 ∧ fi D 8 8 u (ar H (ρ (ρ a0 2) 0) 0) = 0 ∧ fi D 10 2 u (ρ a0 2) = 1 ∧ fi D 10 3 u (ρ a0 2) = 1 ∧ fi D 5 1 u (ρ a0 4) = 1) (fun q => q = ar H (ρ (ρ a0 2) 0) 0 ∨ q = ρ a0 2 ∨ q = ρ a0 4) := by
  refine MV.of (by decide) (Nat.le_of_ble_eq_true rfl) ?_
  intro p e s m args below meth c E hml hr hlk hs ls hl
  have hx := E.1
  have hb := E.2.1
  have hown := E.2.2.1
  have hts := E.2.2.2.1
  have hS : SS (fun q => q = ar H (ρ (ρ a0 2) 0) 0 ∨ q = ρ a0 2 ∨ q = ρ a0 4) H H [] := SS.rf
  have hl : lv_has ls 1 [(0, .ref a0)] := hl
  refine lv_aload_n hx hb dX2_sendSyn_0 rfl (lv_at hl 0 rfl) ?_
  refine lv_aload_n hx hb dX2_sendSyn_1 rfl (lv_at hl 0 rfl) ?_
  refine gf_X2_63 E hT ha0 dX2_sendSyn_2 ?_
  refine th_topi (y := 2) hf_1 ?_
  refine lv_iconst (v := 2) hx hb dX2_sendSyn_5 (by decide) ?_
  refine lv_icmp_ne (tgt := 13) hx hb dX2_sendSyn_6 (by decide) (fun c_1 => absurd (by decide) c_1) (fun c_1 => ?_)
  refine lv_iconst (v := 1) hx hb dX2_sendSyn_9 (by decide) ?_
  refine lv_goto (tgt := 14) hx hb dX2_sendSyn_10 (by decide) ?_
  refine lv_iconst (v := 0) hx hb dX2_sendSyn_14 (by decide) ?_
  refine th_Vr (As := [.int 1, .int 0]) (rest := []) E hml hl.1 (c_X2_draft l D cI cS τ ρ hW H hT a0 ha0 hf_2 hf_3 hf_4) lk_X2_165 yd_X2_draft hT ha0 rfl (by decide) hS (fun q h => (Or.inl h)) ⟨by decide, by decide⟩ (Nat.le_of_ble_eq_true rfl) ⟨by decide, by decide⟩ rfl dX2_sendSyn_15 (fun r_2 H_2 locs_2 p_2 hT_2 hk_2 hS_2 => ?_)
  have p_2 : ar H (ρ (ρ a0 2) 0) 0 = r_2 ∧ fi D 8 8 H_2 (ar H (ρ (ρ a0 2) 0) 0) = 0 ∧ fi D 8 6 H_2 (ar H (ρ (ρ a0 2) 0) 0) = 0 ∧ fi D 8 5 H_2 (ar H (ρ (ρ a0 2) 0) 0) = (-4) ∧ fi D 8 4 H_2 (ar H (ρ (ρ a0 2) 0) 0) = (-4) ∧ fi D 8 3 H_2 (ar H (ρ (ρ a0 2) 0) 0) = (-4) ∧ fi D 8 1 H_2 (ar H (ρ (ρ a0 2) 0) 0) = 1 ∧ fi D 8 0 H_2 (ar H (ρ (ρ a0 2) 0) 0) = fi D 2 0 H a0 := p_2
  obtain ⟨rfl, p_2_1, p_2_2, p_2_3, p_2_4, p_2_5, p_2_6, p_2_7⟩ := p_2
  refine lv_pop hx hb dX2_sendSyn_18 rfl ?_
  refine lv_aload_n hx hb dX2_sendSyn_19 rfl (lv_at hl 0 rfl) ?_
  refine gf_X2_40 E hT_2 hW ha0 dX2_sendSyn_20 (fun h_3 => ?_)
  refine th_Vv (As := []) (rest := []) E hml hl.1 (c_X10_sendDraft l D cI cS τ ρ hW H_2 hT_2 (ρ a0 2) (hW _ 2 2 ha0 (by decide) (by decide) (by decide)) (Eq.trans (fi_q (hk_2 _ (th_ne (hW _ 2 2 ha0 (by decide) (by decide) (by decide)) (TH.ar8 hT (hW _ 10 0 (hW _ 2 2 ha0 (by decide) (by decide) (by decide)) (by decide) (by decide) (by decide)) (by decide)) (by decide)))) hf_5) (Eq.trans (fi_q (hk_2 _ (th_ne (hW _ 2 2 ha0 (by decide) (by decide) (by decide)) (TH.ar8 hT (hW _ 10 0 (hW _ 2 2 ha0 (by decide) (by decide) (by decide)) (by decide) (by decide) (by decide)) (by decide)) (by decide)))) hf_2)) lk_X2_168 yd_X10_sendDraft hT_2 (hW _ 2 2 ha0 (by decide) (by decide) (by decide)) rfl (by decide) hS_2 (fun q h => (Or.inr (Or.inl h))) ⟨by decide, by decide⟩ (Nat.le_of_ble_eq_true rfl) ⟨by decide, by decide⟩ rfl dX2_sendSyn_23 (fun H_4 locs_4 p_4 hT_4 hk_4 hS_4 => ?_)
  have p_4 : fi D 10 3 H_4 (ρ a0 2) = 1 ∧ fi D 10 2 H_4 (ρ a0 2) = 1 := p_4
  obtain ⟨p_4_0, p_4_1⟩ := p_4
  refine lv_aload_n hx hb dX2_sendSyn_26 rfl (lv_at hl 0 rfl) ?_
  refine gf_X2_12 E hT_4 hW ha0 dX2_sendSyn_27 (fun h_5 => ?_)
  refine lv_iconst (v := 1) hx hb dX2_sendSyn_30 (by decide) ?_
  refine pf_X2_93 E hT_4 hS_4 h_5 (Or.inr (Or.inr rfl)) dX2_sendSyn_31 (fun H_6 locs_6 hT_6 hU_6 hS_6 => ?_)
  exact th_vret E hr hlk hs hT_6 hS_6 ⟨(Eq.trans (fi_q (hU_6.2.2 _ (th_ne (TH.ar8 hT (hW _ 10 0 (hW _ 2 2 ha0 (by decide) (by decide) (by decide)) (by decide) (by decide) (by decide)) (by decide)) h_5 (by decide)))) (Eq.trans (fi_q (hk_4 _ (th_ne (TH.ar8 hT (hW _ 10 0 (hW _ 2 2 ha0 (by decide) (by decide) (by decide)) (by decide) (by decide) (by decide)) (by decide)) (hW _ 2 2 ha0 (by decide) (by decide) (by decide)) (by decide)))) p_2_7)), (Eq.trans (fi_q (hU_6.2.2 _ (th_ne (TH.ar8 hT (hW _ 10 0 (hW _ 2 2 ha0 (by decide) (by decide) (by decide)) (by decide) (by decide) (by decide)) (by decide)) h_5 (by decide)))) (Eq.trans (fi_q (hk_4 _ (th_ne (TH.ar8 hT (hW _ 10 0 (hW _ 2 2 ha0 (by decide) (by decide) (by decide)) (by decide) (by decide) (by decide)) (by decide)) (hW _ 2 2 ha0 (by decide) (by decide) (by decide)) (by decide)))) p_2_6)), (Eq.trans (fi_q (hU_6.2.2 _ (th_ne (TH.ar8 hT (hW _ 10 0 (hW _ 2 2 ha0 (by decide) (by decide) (by decide)) (by decide) (by decide) (by decide)) (by decide)) h_5 (by decide)))) (Eq.trans (fi_q (hk_4 _ (th_ne (TH.ar8 hT (hW _ 10 0 (hW _ 2 2 ha0 (by decide) (by decide) (by decide)) (by decide) (by decide) (by decide)) (by decide)) (hW _ 2 2 ha0 (by decide) (by decide) (by decide)) (by decide)))) p_2_5)), (Eq.trans (fi_q (hU_6.2.2 _ (th_ne (TH.ar8 hT (hW _ 10 0 (hW _ 2 2 ha0 (by decide) (by decide) (by decide)) (by decide) (by decide) (by decide)) (by decide)) h_5 (by decide)))) (Eq.trans (fi_q (hk_4 _ (th_ne (TH.ar8 hT (hW _ 10 0 (hW _ 2 2 ha0 (by decide) (by decide) (by decide)) (by decide) (by decide) (by decide)) (by decide)) (hW _ 2 2 ha0 (by decide) (by decide) (by decide)) (by decide)))) p_2_4)), (Eq.trans (fi_q (hU_6.2.2 _ (th_ne (TH.ar8 hT (hW _ 10 0 (hW _ 2 2 ha0 (by decide) (by decide) (by decide)) (by decide) (by decide) (by decide)) (by decide)) h_5 (by decide)))) (Eq.trans (fi_q (hk_4 _ (th_ne (TH.ar8 hT (hW _ 10 0 (hW _ 2 2 ha0 (by decide) (by decide) (by decide)) (by decide) (by decide) (by decide)) (by decide)) (hW _ 2 2 ha0 (by decide) (by decide) (by decide)) (by decide)))) p_2_3)), (Eq.trans (fi_q (hU_6.2.2 _ (th_ne (TH.ar8 hT (hW _ 10 0 (hW _ 2 2 ha0 (by decide) (by decide) (by decide)) (by decide) (by decide) (by decide)) (by decide)) h_5 (by decide)))) (Eq.trans (fi_q (hk_4 _ (th_ne (TH.ar8 hT (hW _ 10 0 (hW _ 2 2 ha0 (by decide) (by decide) (by decide)) (by decide) (by decide) (by decide)) (by decide)) (hW _ 2 2 ha0 (by decide) (by decide) (by decide)) (by decide)))) p_2_2)), (Eq.trans (fi_q (hU_6.2.2 _ (th_ne (TH.ar8 hT (hW _ 10 0 (hW _ 2 2 ha0 (by decide) (by decide) (by decide)) (by decide) (by decide) (by decide)) (by decide)) h_5 (by decide)))) (Eq.trans (fi_q (hk_4 _ (th_ne (TH.ar8 hT (hW _ 10 0 (hW _ 2 2 ha0 (by decide) (by decide) (by decide)) (by decide) (by decide) (by decide)) (by decide)) (hW _ 2 2 ha0 (by decide) (by decide) (by decide)) (by decide)))) p_2_1)), (Eq.trans (fi_q (hU_6.2.2 _ (th_ne (hW _ 2 2 ha0 (by decide) (by decide) (by decide)) h_5 (by decide)))) p_4_1), (Eq.trans (fi_q (hU_6.2.2 _ (th_ne (hW _ 2 2 ha0 (by decide) (by decide) (by decide)) h_5 (by decide)))) p_4_0), (PU.i hU_6)⟩ dX2_sendSyn_34
set_option maxHeartbeats 4000000 in
set_option maxRecDepth 100000 in
/-- StreamEnds$RoundTrips.startTiming -/
theorem c_X7_startTiming (l : Launch) (D : va_G) (cI cS : ClassId) (τ : Nat → Option Nat) (ρ : Nat → Nat → Nat) (hW : WF τ ρ) (H : Heap) (hT : TH D cI cS τ ρ H) (a0 : Nat) (ha0 : τ a0 = some 7) (hf_1 : fi D 7 3 H a0 = (-4)) : MV l D cI cS τ ρ yX7_startTiming cX7_startTiming 3 none 0 0 H [.ref a0, .int 0, .int 0] (fun (u : Heap) => fi D 7 3 u a0 = 0 ∧ fi D 7 4 u a0 = 0) (fun q => q = a0) := by
  refine MV.of (by decide) (Nat.le_of_ble_eq_true rfl) ?_
  intro p e s m args below meth c E hml hr hlk hs ls hl
  have hx := E.1
  have hb := E.2.1
  have hown := E.2.2.1
  have hts := E.2.2.2.1
  have hS : SS (fun q => q = a0) H H [] := SS.rf
  have hl : lv_has ls 3 [(0, .ref a0), (1, .int 0), (2, .int 0)] := hl
  refine lv_aload_n hx hb dX7_startTiming_0 rfl (lv_at hl 0 rfl) ?_
  refine gf_X7_25 E hT ha0 dX7_startTiming_1 ?_
  refine th_topi (y := (-4)) hf_1 ?_
  refine lv_bipush (v := (-4)) hx hb dX7_startTiming_4 (by decide) ?_
  refine lv_icmp_ne (tgt := 19) hx hb dX7_startTiming_6 (by decide) (fun c_1 => absurd (by decide) c_1) (fun c_1 => ?_)
  refine lv_aload_n hx hb dX7_startTiming_9 rfl (lv_at hl 0 rfl) ?_
  refine lv_iload_n hx hb dX7_startTiming_10 rfl (lv_at hl 1 rfl) ?_
  refine pf_X7_25 E hT hS ha0 rfl dX7_startTiming_11 (fun H_2 locs_2 hT_2 hU_2 hS_2 => ?_)
  refine lv_aload_n hx hb dX7_startTiming_14 rfl (lv_at hl 0 rfl) ?_
  refine lv_iload_n hx hb dX7_startTiming_15 rfl (lv_at hl 2 rfl) ?_
  refine pf_X7_28 E hT_2 hS_2 ha0 rfl dX7_startTiming_16 (fun H_3 locs_3 hT_3 hU_3 hS_3 => ?_)
  exact th_vret E hr hlk hs hT_3 hS_3 ⟨(Eq.trans (PU.io hU_3 (j := 3) (by decide) (by decide)) (PU.i hU_2)), (PU.i hU_3)⟩ dX7_startTiming_19
set_option maxHeartbeats 4000000 in
set_option maxRecDepth 100000 in
/-- StreamEnds$Endpoint.sendFirstSyn -/
theorem c_X2_sendFirstSyn (l : Launch) (D : va_G) (cI cS : ClassId) (τ : Nat → Option Nat) (ρ : Nat → Nat → Nat) (hW : WF τ ρ) (H : Heap) (hT : TH D cI cS τ ρ H) (a0 : Nat) (ha0 : τ a0 = some 2) (hf_1 : fi D 2 7 H a0 = 2) (hf_2 : fi D 10 2 H (ρ a0 2) = 0) (hf_3 : fi D 1 3 H (ρ a0 1) = 100) (hf_4 : fi D 1 2 H (ρ a0 1) = 250) (hf_5 : fi D 10 3 H (ρ a0 2) = 0) (hf_6 : fi D 0 0 H (ρ a0 3) = 0) (hf_7 : fi D 7 3 H (ρ a0 6) = (-4)) : MV l D cI cS τ ρ yX2_sendFirstSyn cX2_sendFirstSyn 1 none 3 69 H [.ref a0] (fun (u : Heap) => fi D 5 1 u (ρ a0 4) = 1 ∧ fi D 10 3 u (ρ a0 2) = 1 ∧ fi D 10 2 u (ρ a0 2) = 1 ∧ fi D 8 8 u (ar H (ρ (ρ a0 2) 0) 0) = 0 ∧ fi D 8 6 u (ar H (ρ (ρ a0 2) 0) 0) = 0 ∧ fi D 8 5 u (ar H (ρ (ρ a0 2) 0) 0) = (-4) ∧ fi D 8 4 u (ar H (ρ (ρ a0 2) 0) 0) = (-4) ∧ fi D 8 3 u (ar H (ρ (ρ a0 2) 0) 0) = (-4) ∧ fi D 8 1 u (ar H (ρ (ρ a0 2) 0) 0) = 1 ∧ fi D 8 0 u (ar H (ρ (ρ a0 2) 0) 0) = fi D 2 0 H a0 ∧ fi D 7 4 u (ρ a0 6) = 0 ∧ fi D 7 3 u (ρ a0 6) = 0) (fun q => q = ar H (ρ (ρ a0 2) 0) 0 ∨ q = ρ a0 2 ∨ q = ρ a0 4 ∨ q = ρ a0 6) := by
  refine MV.of (by decide) (Nat.le_of_ble_eq_true rfl) ?_
  intro p e s m args below meth c E hml hr hlk hs ls hl
  have hx := E.1
  have hb := E.2.1
  have hown := E.2.2.1
  have hts := E.2.2.2.1
  have hS : SS (fun q => q = ar H (ρ (ρ a0 2) 0) 0 ∨ q = ρ a0 2 ∨ q = ρ a0 4 ∨ q = ρ a0 6) H H [] := SS.rf
  have hl : lv_has ls 1 [(0, .ref a0)] := hl
  refine lv_aload_n hx hb dX2_sendFirstSyn_0 rfl (lv_at hl 0 rfl) ?_
  refine th_Vv (As := []) (rest := []) E hml hl.1 (c_X2_sendSyn l D cI cS τ ρ hW H hT a0 ha0 hf_1 hf_2 hf_3 hf_4 hf_5) lk_X2_154 yd_X2_sendSyn hT ha0 rfl (by decide) hS (fun q => (fun h => h.elim (fun h => (Or.inl h)) (fun h => h.elim (fun h => (Or.inr (Or.inl h))) (fun h => (Or.inr (Or.inr (Or.inl h))))))) ⟨by decide, by decide⟩ (Nat.le_of_ble_eq_true rfl) ⟨by decide, by decide⟩ rfl dX2_sendFirstSyn_1 (fun H_1 locs_1 p_1 hT_1 hk_1 hS_1 => ?_)
  have p_1 : fi D 8 0 H_1 (ar H (ρ (ρ a0 2) 0) 0) = fi D 2 0 H a0 ∧ fi D 8 1 H_1 (ar H (ρ (ρ a0 2) 0) 0) = 1 ∧ fi D 8 3 H_1 (ar H (ρ (ρ a0 2) 0) 0) = (-4) ∧ fi D 8 4 H_1 (ar H (ρ (ρ a0 2) 0) 0) = (-4) ∧ fi D 8 5 H_1 (ar H (ρ (ρ a0 2) 0) 0) = (-4) ∧ fi D 8 6 H_1 (ar H (ρ (ρ a0 2) 0) 0) = 0 ∧ fi D 8 8 H_1 (ar H (ρ (ρ a0 2) 0) 0) = 0 ∧ fi D 10 2 H_1 (ρ a0 2) = 1 ∧ fi D 10 3 H_1 (ρ a0 2) = 1 ∧ fi D 5 1 H_1 (ρ a0 4) = 1 := p_1
  obtain ⟨p_1_0, p_1_1, p_1_2, p_1_3, p_1_4, p_1_5, p_1_6, p_1_7, p_1_8, p_1_9⟩ := p_1
  refine lv_aload_n hx hb dX2_sendFirstSyn_4 rfl (lv_at hl 0 rfl) ?_
  refine gf_X2_28 E hT_1 hW ha0 dX2_sendFirstSyn_5 (fun h_2 => ?_)
  refine lv_iconst (v := 0) hx hb dX2_sendFirstSyn_8 (by decide) ?_
  refine lv_aload_n hx hb dX2_sendFirstSyn_9 rfl (lv_at hl 0 rfl) ?_
  refine gf_X2_44 E hT_1 hW ha0 dX2_sendFirstSyn_10 (fun h_3 => ?_)
  refine gf_X2_157 E hT_1 h_3 dX2_sendFirstSyn_13 ?_
  refine th_topi (y := 0) (Eq.trans (fi_q (hk_1 _ (fun h => h.elim (th_ne h_3 (TH.ar8 hT (hW _ 10 0 (hW _ 2 2 ha0 (by decide) (by decide) (by decide)) (by decide) (by decide) (by decide)) (by decide)) (by decide)) (fun h => h.elim (th_ne h_3 (hW _ 2 2 ha0 (by decide) (by decide) (by decide)) (by decide)) (th_ne h_3 (hW _ 2 4 ha0 (by decide) (by decide) (by decide)) (by decide)))))) hf_6) ?_
  refine th_Vv (As := [.int 0, .int 0]) (rest := []) E hml hl.1 (c_X7_startTiming l D cI cS τ ρ hW H_1 hT_1 (ρ a0 6) h_2 (Eq.trans (fi_q (hk_1 _ (fun h => h.elim (th_ne h_2 (TH.ar8 hT (hW _ 10 0 (hW _ 2 2 ha0 (by decide) (by decide) (by decide)) (by decide) (by decide) (by decide)) (by decide)) (by decide)) (fun h => h.elim (th_ne h_2 (hW _ 2 2 ha0 (by decide) (by decide) (by decide)) (by decide)) (th_ne h_2 (hW _ 2 4 ha0 (by decide) (by decide) (by decide)) (by decide)))))) hf_7)) lk_X2_162 yd_X7_startTiming hT_1 h_2 rfl (by decide) hS_1 (fun q h => (Or.inr (Or.inr (Or.inr h)))) ⟨by decide, by decide⟩ (Nat.le_of_ble_eq_true rfl) ⟨by decide, by decide⟩ rfl dX2_sendFirstSyn_16 (fun H_4 locs_4 p_4 hT_4 hk_4 hS_4 => ?_)
  have p_4 : fi D 7 3 H_4 (ρ a0 6) = 0 ∧ fi D 7 4 H_4 (ρ a0 6) = 0 := p_4
  obtain ⟨p_4_0, p_4_1⟩ := p_4
  exact th_vret E hr hlk hs hT_4 hS_4 ⟨(Eq.trans (fi_q (hk_4 _ (th_ne (hW _ 2 4 ha0 (by decide) (by decide) (by decide)) h_2 (by decide)))) p_1_9), (Eq.trans (fi_q (hk_4 _ (th_ne (hW _ 2 2 ha0 (by decide) (by decide) (by decide)) h_2 (by decide)))) p_1_8), (Eq.trans (fi_q (hk_4 _ (th_ne (hW _ 2 2 ha0 (by decide) (by decide) (by decide)) h_2 (by decide)))) p_1_7), (Eq.trans (fi_q (hk_4 _ (th_ne (TH.ar8 hT (hW _ 10 0 (hW _ 2 2 ha0 (by decide) (by decide) (by decide)) (by decide) (by decide) (by decide)) (by decide)) h_2 (by decide)))) p_1_6), (Eq.trans (fi_q (hk_4 _ (th_ne (TH.ar8 hT (hW _ 10 0 (hW _ 2 2 ha0 (by decide) (by decide) (by decide)) (by decide) (by decide) (by decide)) (by decide)) h_2 (by decide)))) p_1_5), (Eq.trans (fi_q (hk_4 _ (th_ne (TH.ar8 hT (hW _ 10 0 (hW _ 2 2 ha0 (by decide) (by decide) (by decide)) (by decide) (by decide) (by decide)) (by decide)) h_2 (by decide)))) p_1_4), (Eq.trans (fi_q (hk_4 _ (th_ne (TH.ar8 hT (hW _ 10 0 (hW _ 2 2 ha0 (by decide) (by decide) (by decide)) (by decide) (by decide) (by decide)) (by decide)) h_2 (by decide)))) p_1_3), (Eq.trans (fi_q (hk_4 _ (th_ne (TH.ar8 hT (hW _ 10 0 (hW _ 2 2 ha0 (by decide) (by decide) (by decide)) (by decide) (by decide) (by decide)) (by decide)) h_2 (by decide)))) p_1_2), (Eq.trans (fi_q (hk_4 _ (th_ne (TH.ar8 hT (hW _ 10 0 (hW _ 2 2 ha0 (by decide) (by decide) (by decide)) (by decide) (by decide) (by decide)) (by decide)) h_2 (by decide)))) p_1_1), (Eq.trans (fi_q (hk_4 _ (th_ne (TH.ar8 hT (hW _ 10 0 (hW _ 2 2 ha0 (by decide) (by decide) (by decide)) (by decide) (by decide) (by decide)) (by decide)) h_2 (by decide)))) p_1_0), p_4_1, p_4_0⟩ dX2_sendFirstSyn_19
set_option maxHeartbeats 4000000 in
set_option maxRecDepth 100000 in
/-- StreamEnds$Endpoint.mayTransmit -/
theorem c_X2_mayTransmit (l : Launch) (D : va_G) (cI cS : ClassId) (τ : Nat → Option Nat) (ρ : Nat → Nat → Nat) (hW : WF τ ρ) (H : Heap) (hT : TH D cI cS τ ρ H) (a0 : Nat) (ha0 : τ a0 = some 2) (hf_1 : fi D 2 7 H a0 = 2) : MI l D cI cS τ ρ yX2_mayTransmit cX2_mayTransmit 1 (some .boolean) 0 0 H [.ref a0] (fun (r : Int32) (u : Heap) => H = u ∧ 0 = r) (fun q => False) := by
  refine MI.of (by decide) (Nat.le_of_ble_eq_true rfl) ?_
  intro p e s m args below meth c E hml hr hlk hs ls hl
  have hx := E.1
  have hb := E.2.1
  have hown := E.2.2.1
  have hts := E.2.2.2.1
  have hS : SS (fun q => False) H H [] := SS.rf
  have hl : lv_has ls 1 [(0, .ref a0)] := hl
  refine lv_aload_n hx hb dX2_mayTransmit_0 rfl (lv_at hl 0 rfl) ?_
  refine gf_X2_63 E hT ha0 dX2_mayTransmit_1 ?_
  refine th_topi (y := 2) hf_1 ?_
  refine lv_iconst (v := 4) hx hb dX2_mayTransmit_4 (by decide) ?_
  refine lv_icmp_eq (tgt := 17) hx hb dX2_mayTransmit_5 (by decide) (fun c_1 => absurd c_1 (by decide)) (fun c_1 => ?_)
  refine lv_aload_n hx hb dX2_mayTransmit_8 rfl (lv_at hl 0 rfl) ?_
  refine gf_X2_63 E hT ha0 dX2_mayTransmit_9 ?_
  refine th_topi (y := 2) hf_1 ?_
  refine lv_bipush (v := 7) hx hb dX2_mayTransmit_12 (by decide) ?_
  refine lv_icmp_ne (tgt := 21) hx hb dX2_mayTransmit_14 (by decide) (fun c_2 => ?_) (fun c_2 => absurd c_2 (by decide))
  refine lv_iconst (v := 0) hx hb dX2_mayTransmit_21 (by decide) ?_
  exact th_zret E hr hlk hs (Or.inl rfl) hT hS ⟨rfl, rfl⟩ dX2_mayTransmit_22
set_option maxHeartbeats 4000000 in
set_option maxRecDepth 100000 in
/-- StreamEnds$Endpoint.isStalled -/
theorem c_X2_isStalled (l : Launch) (D : va_G) (cI cS : ClassId) (τ : Nat → Option Nat) (ρ : Nat → Nat → Nat) (hW : WF τ ρ) (H : Heap) (hT : TH D cI cS τ ρ H) (a0 : Nat) (ha0 : τ a0 = some 2) (hf_1 : fi D 2 7 H a0 = 2) : MI l D cI cS τ ρ yX2_isStalled cX2_isStalled 1 (some .boolean) 1 20 H [.ref a0] (fun (r : Int32) (u : Heap) => H = u ∧ 0 = r) (fun q => False) := by
  refine MI.of (by decide) (Nat.le_of_ble_eq_true rfl) ?_
  intro p e s m args below meth c E hml hr hlk hs ls hl
  have hx := E.1
  have hb := E.2.1
  have hown := E.2.2.1
  have hts := E.2.2.2.1
  have hS : SS (fun q => False) H H [] := SS.rf
  have hl : lv_has ls 1 [(0, .ref a0)] := hl
  refine lv_aload_n hx hb dX2_isStalled_0 rfl (lv_at hl 0 rfl) ?_
  refine th_Vi (As := []) (rest := []) E hml hl.1 (c_X2_mayTransmit l D cI cS τ ρ hW H hT a0 ha0 hf_1) lk_X2_82 yd_X2_mayTransmit hT ha0 rfl (by decide) hS (fun _ h => h.elim) ⟨by decide, by decide⟩ (Nat.le_of_ble_eq_true rfl) ⟨by decide, by decide⟩ rfl dX2_isStalled_1 (fun r_1 H_1 locs_1 p_1 hT_1 hk_1 hS_1 => ?_)
  have p_1 : H = H_1 ∧ 0 = r_1 := p_1
  obtain ⟨rfl, rfl⟩ := p_1
  refine lv_if_eq (tgt := 48) hx hb dX2_isStalled_4 (by decide) (fun c_2 => ?_) (fun c_2 => absurd (by decide) c_2)
  refine lv_iconst (v := 0) hx hb dX2_isStalled_48 (by decide) ?_
  exact th_zret E hr hlk hs (Or.inl rfl) hT_1 hS_1 ⟨rfl, rfl⟩ dX2_isStalled_49
set_option maxHeartbeats 4000000 in
set_option maxRecDepth 100000 in
/-- StreamEnds$Endpoint.adjustTimer -/
theorem c_X2_adjustTimer_v2 (l : Launch) (D : va_G) (cI cS : ClassId) (τ : Nat → Option Nat) (ρ : Nat → Nat → Nat) (hW : WF τ ρ) (H : Heap) (hT : TH D cI cS τ ρ H) (a0 : Nat) (ha0 : τ a0 = some 2) (hf_1 : fi D 2 7 H a0 = 2) (hf_2 : fi D 5 1 H (ρ a0 4) = 1) (hf_3 : fi D 2 8 H a0 = 0) : MV l D cI cS τ ρ yX2_adjustTimer cX2_adjustTimer 1 none 2 40 H [.ref a0] (fun (u : Heap) => True) (fun q => q = a0) := by
  refine MV.of (by decide) (Nat.le_of_ble_eq_true rfl) ?_
  intro p e s m args below meth c E hml hr hlk hs ls hl
  have hx := E.1
  have hb := E.2.1
  have hown := E.2.2.1
  have hts := E.2.2.2.1
  have hS : SS (fun q => q = a0) H H [] := SS.rf
  have hl : lv_has ls 1 [(0, .ref a0)] := hl
  refine lv_aload_n hx hb dX2_adjustTimer_0 rfl (lv_at hl 0 rfl) ?_
  refine gf_X2_63 E hT ha0 dX2_adjustTimer_1 ?_
  refine th_topi (y := 2) hf_1 ?_
  refine lv_if_eq (tgt := 39) hx hb dX2_adjustTimer_4 (by decide) (fun c_1 => absurd c_1 (by decide)) (fun c_1 => ?_)
  refine lv_aload_n hx hb dX2_adjustTimer_7 rfl (lv_at hl 0 rfl) ?_
  refine gf_X2_63 E hT ha0 dX2_adjustTimer_8 ?_
  refine th_topi (y := 2) hf_1 ?_
  refine lv_iconst (v := 1) hx hb dX2_adjustTimer_11 (by decide) ?_
  refine lv_icmp_eq (tgt := 39) hx hb dX2_adjustTimer_12 (by decide) (fun c_2 => absurd c_2 (by decide)) (fun c_2 => ?_)
  refine lv_aload_n hx hb dX2_adjustTimer_15 rfl (lv_at hl 0 rfl) ?_
  refine gf_X2_12 E hT hW ha0 dX2_adjustTimer_16 (fun h_3 => ?_)
  refine gf_X2_90 E hT h_3 dX2_adjustTimer_19 ?_
  refine lv_aload_n hx hb dX2_adjustTimer_22 rfl (lv_at hl 0 rfl) ?_
  refine gf_X2_12 E hT hW ha0 dX2_adjustTimer_23 (fun h_4 => ?_)
  refine gf_X2_93 E hT h_3 dX2_adjustTimer_26 ?_
  refine th_topi (y := 1) hf_2 ?_
  refine lv_icmp_lt (tgt := 47) hx hb dX2_adjustTimer_29 (by decide) (fun c_5 => ?_) (fun c_5 => ?_)
  · refine lv_aload_n hx hb dX2_adjustTimer_47 rfl (lv_at hl 0 rfl) ?_
    refine gf_X2_66 E hT ha0 dX2_adjustTimer_48 ?_
    refine th_topi (y := 0) hf_3 ?_
    refine lv_if_ne (tgt := 65) hx hb dX2_adjustTimer_51 (by decide) (fun c_6 => absurd (by decide) c_6) (fun c_6 => ?_)
    refine lv_aload_n hx hb dX2_adjustTimer_54 rfl (lv_at hl 0 rfl) ?_
    refine lv_aload_n hx hb dX2_adjustTimer_55 rfl (lv_at hl 0 rfl) ?_
    refine gf_X2_28 E hT hW ha0 dX2_adjustTimer_56 (fun h_7 => ?_)
    refine gf_X2_106 E hT h_7 dX2_adjustTimer_59 ?_
    refine pf_X2_66 E hT hS ha0 rfl dX2_adjustTimer_62 (fun H_8 locs_8 hT_8 hU_8 hS_8 => ?_)
    exact th_vret E hr hlk hs hT_8 hS_8 trivial dX2_adjustTimer_65
  · refine lv_aload_n hx hb dX2_adjustTimer_32 rfl (lv_at hl 0 rfl) ?_
    refine th_Vi (As := []) (rest := []) E hml hl.1 (c_X2_isStalled l D cI cS τ ρ hW H hT a0 ha0 hf_1) lk_X2_103 yd_X2_isStalled hT ha0 rfl (by decide) hS (fun _ h => h.elim) ⟨by decide, by decide⟩ (Nat.le_of_ble_eq_true rfl) ⟨by decide, by decide⟩ rfl dX2_adjustTimer_33 (fun r_9 H_9 locs_9 p_9 hT_9 hk_9 hS_9 => ?_)
    have p_9 : H = H_9 ∧ 0 = r_9 := p_9
    obtain ⟨rfl, rfl⟩ := p_9
    refine lv_if_ne (tgt := 47) hx hb dX2_adjustTimer_36 (by decide) (fun c_10 => absurd (by decide) c_10) (fun c_10 => ?_)
    refine lv_aload_n hx hb dX2_adjustTimer_39 rfl (lv_at hl 0 rfl) ?_
    refine lv_iconst (v := 0) hx hb dX2_adjustTimer_40 (by decide) ?_
    refine pf_X2_66 E hT_9 hS_9 ha0 rfl dX2_adjustTimer_41 (fun H_11 locs_11 hT_11 hU_11 hS_11 => ?_)
    refine lv_goto (tgt := 65) hx hb dX2_adjustTimer_44 (by decide) ?_
    exact th_vret E hr hlk hs hT_11 hS_11 trivial dX2_adjustTimer_65
set_option maxHeartbeats 4000000 in
set_option maxRecDepth 100000 in
/-- StreamEnds.open -/
theorem c_X11_open_v5 (l : Launch) (D : va_G) (cI cS : ClassId) (τ : Nat → Option Nat) (ρ : Nat → Nat → Nat) (hW : WF τ ρ) (H : Heap) (hT : TH D cI cS τ ρ H) (a0 : Nat) (ha0 : τ a0 = some 11) (hf_1 : fi D 2 7 H (ρ (ρ a0 2) 3) = 0) (hn_2 : ρ (ρ (ρ a0 2) 3) 2 ≠ ρ (ρ a0 2) 3) (hn_3 : ρ (ρ (ρ a0 2) 3) 2 ≠ ρ (ρ (ρ a0 2) 3) 4) (hn_4 : ρ (ρ (ρ a0 2) 3) 2 ≠ ρ (ρ (ρ a0 2) 3) 5) (hn_5 : ρ (ρ (ρ a0 2) 3) 2 ≠ ρ (ρ (ρ a0 2) 3) 6) (hf_6 : fi D 10 2 H (ρ (ρ (ρ a0 2) 3) 2) = 0) (hn_7 : ρ (ρ (ρ a0 2) 3) 1 ≠ ρ (ρ a0 2) 3) (hn_8 : ρ (ρ (ρ a0 2) 3) 1 ≠ ρ (ρ (ρ a0 2) 3) 4) (hn_9 : ρ (ρ (ρ a0 2) 3) 1 ≠ ρ (ρ (ρ a0 2) 3) 5) (hn_10 : ρ (ρ (ρ a0 2) 3) 1 ≠ ρ (ρ (ρ a0 2) 3) 6) (hf_11 : fi D 1 3 H (ρ (ρ (ρ a0 2) 3) 1) = 100) (hf_12 : fi D 1 2 H (ρ (ρ (ρ a0 2) 3) 1) = 250) (hf_13 : fi D 10 3 H (ρ (ρ (ρ a0 2) 3) 2) = 0) (hn_14 : ρ (ρ (ρ a0 2) 3) 3 ≠ ρ (ρ a0 2) 3) (hn_15 : ρ (ρ (ρ a0 2) 3) 3 ≠ ρ (ρ (ρ a0 2) 3) 4) (hn_16 : ρ (ρ (ρ a0 2) 3) 3 ≠ ρ (ρ (ρ a0 2) 3) 5) (hn_17 : ρ (ρ (ρ a0 2) 3) 3 ≠ ρ (ρ (ρ a0 2) 3) 6) (hf_18 : fi D 0 0 H (ρ (ρ (ρ a0 2) 3) 3) = 0) (he_19 : ρ (ρ a0 2) 1 = ρ (ρ (ρ a0 2) 3) 2) : MI l D cI cS τ ρ yX11_open cX11_open 4 (some .int) 4 89 H [.ref a0, .int 0, .int 1] (fun (r : Int32) (u : Heap) => 1 = r ∧ fi D 3 0 u (ρ (ρ (ρ a0 2) 3) 5) = 0 ∧ fi D 3 1 u (ρ (ρ (ρ a0 2) 3) 5) = 1 ∧ fi D 3 2 u (ρ (ρ (ρ a0 2) 3) 5) = (fi D 1 1 H (ρ (ρ (ρ a0 2) 3) 1)) + 1 ∧ fi D 3 3 u (ρ (ρ (ρ a0 2) 3) 5) = (-4) ∧ fi D 3 4 u (ρ (ρ (ρ a0 2) 3) 5) = 0 ∧ fl D 3 5 u (ρ (ρ (ρ a0 2) 3) 5) = 0 ∧ fi D 7 3 u (ρ (ρ (ρ a0 2) 3) 6) = 0 ∧ fi D 7 4 u (ρ (ρ (ρ a0 2) 3) 6) = 0 ∧ fi D 10 2 u (ρ (ρ (ρ a0 2) 3) 2) = 1 ∧ fi D 10 3 u (ρ (ρ (ρ a0 2) 3) 2) = 1 ∧ fi D 5 1 u (ρ (ρ (ρ a0 2) 3) 4) = 1) (fun q => q = ρ (ρ a0 2) 3 ∨ q = ρ (ρ (ρ a0 2) 3) 4 ∨ q = ρ (ρ (ρ a0 2) 3) 5 ∨ q = ρ (ρ (ρ a0 2) 3) 6 ∨ q = ar H (ρ (ρ (ρ (ρ a0 2) 3) 2) 0) 0 ∨ q = ρ (ρ (ρ a0 2) 3) 2) := by
  refine MI.of (by decide) (Nat.le_of_ble_eq_true rfl) ?_
  intro p e s m args below meth c E hml hr hlk hs ls hl
  have hx := E.1
  have hb := E.2.1
  have hown := E.2.2.1
  have hts := E.2.2.2.1
  have hS : SS (fun q => q = ρ (ρ a0 2) 3 ∨ q = ρ (ρ (ρ a0 2) 3) 4 ∨ q = ρ (ρ (ρ a0 2) 3) 5 ∨ q = ρ (ρ (ρ a0 2) 3) 6 ∨ q = ar H (ρ (ρ (ρ (ρ a0 2) 3) 2) 0) 0 ∨ q = ρ (ρ (ρ a0 2) 3) 2) H H [] := SS.rf
  have hl : lv_has ls 4 [(0, .ref a0), (1, .int 0), (2, .int 1)] := hl
  refine lv_iload_n hx hb dX11_open_0 rfl (lv_at hl 1 rfl) ?_
  refine th_Si (As := [.int 0]) (rest := []) E hml hl.1 (c_X11_isEnd_v3 l D cI cS τ ρ hW H hT) lk_X11_65 yd_X11_isEnd hS (fun _ h => h.elim) ⟨by decide, by decide⟩ (Nat.le_of_ble_eq_true rfl) ⟨by decide, by decide⟩ rfl dX11_open_1 (fun r_1 H_1 locs_1 p_1 hT_1 hk_1 hS_1 => ?_)
  have p_1 : H = H_1 ∧ 1 = r_1 := p_1
  obtain ⟨rfl, rfl⟩ := p_1
  refine lv_if_eq (tgt := 16) hx hb dX11_open_4 (by decide) (fun c_2 => absurd c_2 (by decide)) (fun c_2 => ?_)
  refine lv_iload_n hx hb dX11_open_7 rfl (lv_at hl 2 rfl) ?_
  refine lv_if_lt (tgt := 16) hx hb dX11_open_8 (by decide) (fun c_3 => absurd c_3 (by decide)) (fun c_3 => ?_)
  refine lv_iload_n hx hb dX11_open_11 rfl (lv_at hl 2 rfl) ?_
  refine lv_iconst (v := 1) hx hb dX11_open_12 (by decide) ?_
  refine lv_icmp_le (tgt := 18) hx hb dX11_open_13 (by decide) (fun c_4 => ?_) (fun c_4 => absurd (by decide) c_4)
  refine lv_aload_n hx hb dX11_open_18 rfl (lv_at hl 0 rfl) ?_
  refine gf_X11_26 E hT_1 hW ha0 dX11_open_19 (fun h_5 => ?_)
  refine lv_iload_n hx hb dX11_open_22 rfl (lv_at hl 1 rfl) ?_
  refine th_Vr (As := [.int 0]) (rest := []) E hml hl.1 (c_X4_endpoint l D cI cS τ ρ hW H hT_1 (ρ a0 2) h_5) lk_X11_68 yd_X4_endpoint hT_1 h_5 rfl (by decide) hS_1 (fun _ h => h.elim) ⟨by decide, by decide⟩ (Nat.le_of_ble_eq_true rfl) ⟨by decide, by decide⟩ rfl dX11_open_23 (fun r_6 H_6 locs_6 p_6 hT_6 hk_6 hS_6 => ?_)
  have p_6 : H = H_6 ∧ ρ (ρ a0 2) 3 = r_6 := p_6
  obtain ⟨rfl, rfl⟩ := p_6
  have h_6 : τ (ρ (ρ a0 2) 3) = some 2 := hW _ 4 3 h_5 (by decide) (by decide) (by decide)
  refine lv_astore_n (lv' := [(3, .ref (ρ (ρ a0 2) 3)), (0, .ref a0), (1, .int 0), (2, .int 1)]) hx hb dX11_open_26 rfl hl (by decide) rfl (fun ls hl => ?_)
  refine lv_aload_n hx hb dX11_open_27 rfl (lv_at hl 0 rfl) ?_
  refine gf_X11_72 E hT_6 h_6 dX11_open_28 ?_
  refine th_topi (y := 0) hf_1 ?_
  refine lv_if_eq (tgt := 37) hx hb dX11_open_31 (by decide) (fun c_7 => ?_) (fun c_7 => absurd (by decide) c_7)
  refine lv_aload_n hx hb dX11_open_37 rfl (lv_at hl 0 rfl) ?_
  refine th_Vv (As := []) (rest := []) E hml hl.1 (c_X2_start l D cI cS τ ρ hW H hT_6 (ρ (ρ a0 2) 3) h_6) lk_X11_77 yd_X2_start hT_6 h_6 rfl (by decide) hS_6 (fun q => (fun h => h.elim (fun h => (Or.inl h)) (fun h => h.elim (fun h => (Or.inr (Or.inl h))) (fun h => h.elim (fun h => (Or.inr (Or.inr (Or.inl h)))) (fun h => (Or.inr (Or.inr (Or.inr (Or.inl h))))))))) ⟨by decide, by decide⟩ (Nat.le_of_ble_eq_true rfl) ⟨by decide, by decide⟩ rfl dX11_open_38 (fun H_8 locs_8 p_8 hT_8 hk_8 hS_8 => ?_)
  have p_8 : fi D 2 9 H_8 (ρ (ρ a0 2) 3) = 0 ∧ fi D 2 8 H_8 (ρ (ρ a0 2) 3) = 0 ∧ fi D 2 7 H_8 (ρ (ρ a0 2) 3) = 0 ∧ fl D 5 6 H_8 (ρ (ρ (ρ a0 2) 3) 4) = 0 ∧ fi D 5 5 H_8 (ρ (ρ (ρ a0 2) 3) 4) = 0 ∧ fi D 5 4 H_8 (ρ (ρ (ρ a0 2) 3) 4) = 0 ∧ fi D 5 3 H_8 (ρ (ρ (ρ a0 2) 3) 4) = 0 ∧ fi D 5 2 H_8 (ρ (ρ (ρ a0 2) 3) 4) = 1 ∧ fi D 5 1 H_8 (ρ (ρ (ρ a0 2) 3) 4) = 0 ∧ fi D 5 0 H_8 (ρ (ρ (ρ a0 2) 3) 4) = 0 ∧ fl D 3 5 H_8 (ρ (ρ (ρ a0 2) 3) 5) = 0 ∧ fi D 3 4 H_8 (ρ (ρ (ρ a0 2) 3) 5) = 0 ∧ fi D 3 3 H_8 (ρ (ρ (ρ a0 2) 3) 5) = (-4) ∧ fi D 3 2 H_8 (ρ (ρ (ρ a0 2) 3) 5) = (fi D 1 1 H (ρ (ρ (ρ a0 2) 3) 1)) + 1 ∧ fi D 3 1 H_8 (ρ (ρ (ρ a0 2) 3) 5) = 1 ∧ fi D 3 0 H_8 (ρ (ρ (ρ a0 2) 3) 5) = 0 ∧ fi D 7 5 H_8 (ρ (ρ (ρ a0 2) 3) 6) = 0 ∧ fi D 7 4 H_8 (ρ (ρ (ρ a0 2) 3) 6) = 0 ∧ fi D 7 3 H_8 (ρ (ρ (ρ a0 2) 3) 6) = (-4) ∧ fi D 7 2 H_8 (ρ (ρ (ρ a0 2) 3) 6) = 0 ∧ fi D 7 1 H_8 (ρ (ρ (ρ a0 2) 3) 6) = 0 ∧ fi D 7 0 H_8 (ρ (ρ (ρ a0 2) 3) 6) = 6 := p_8
  obtain ⟨p_8_0, p_8_1, p_8_2, p_8_3, p_8_4, p_8_5, p_8_6, p_8_7, p_8_8, p_8_9, p_8_10, p_8_11, p_8_12, p_8_13, p_8_14, p_8_15, p_8_16, p_8_17, p_8_18, p_8_19, p_8_20, p_8_21⟩ := p_8
  refine lv_iload_n hx hb dX11_open_41 rfl (lv_at hl 3 rfl) ?_
  refine lv_if_ne (tgt := 53) hx hb dX11_open_42 (by decide) (fun c_9 => ?_) (fun c_9 => absurd c_9 (by decide))
  refine lv_aload_n hx hb dX11_open_53 rfl (lv_at hl 0 rfl) ?_
  refine lv_iconst (v := 2) hx hb dX11_open_54 (by decide) ?_
  refine pf_X11_72 E hT_8 hS_8 h_6 (Or.inl rfl) dX11_open_55 (fun H_10 locs_10 hT_10 hU_10 hS_10 => ?_)
  refine lv_aload_n hx hb dX11_open_58 rfl (lv_at hl 0 rfl) ?_
  refine th_Vv (As := []) (rest := []) E hml hl.1 (c_X2_sendFirstSyn l D cI cS τ ρ hW H_10 hT_10 (ρ (ρ a0 2) 3) h_6 (PU.i hU_10) (Eq.trans (fi_q (hU_10.2.2 _ hn_2)) (Eq.trans (fi_q (hk_8 _ (fun h => h.elim hn_2 (fun h => h.elim hn_3 (fun h => h.elim hn_4 hn_5))))) hf_6)) (Eq.trans (fi_q (hU_10.2.2 _ hn_7)) (Eq.trans (fi_q (hk_8 _ (fun h => h.elim hn_7 (fun h => h.elim hn_8 (fun h => h.elim hn_9 hn_10))))) hf_11)) (Eq.trans (fi_q (hU_10.2.2 _ hn_7)) (Eq.trans (fi_q (hk_8 _ (fun h => h.elim hn_7 (fun h => h.elim hn_8 (fun h => h.elim hn_9 hn_10))))) hf_12)) (Eq.trans (fi_q (hU_10.2.2 _ hn_2)) (Eq.trans (fi_q (hk_8 _ (fun h => h.elim hn_2 (fun h => h.elim hn_3 (fun h => h.elim hn_4 hn_5))))) hf_13)) (Eq.trans (fi_q (hU_10.2.2 _ hn_14)) (Eq.trans (fi_q (hk_8 _ (fun h => h.elim hn_14 (fun h => h.elim hn_15 (fun h => h.elim hn_16 hn_17))))) hf_18)) (Eq.trans (fi_q (hU_10.2.2 _ (th_ne (hW _ 2 6 h_6 (by decide) (by decide) (by decide)) h_6 (by decide)))) p_8_18)) lk_X11_80 yd_X2_sendFirstSyn hT_10 h_6 rfl (by decide) hS_10 (fun q => (fun h => h.elim (fun h => (Or.inr (Or.inr (Or.inr (Or.inr (Or.inl (h.trans (Eq.trans (ar_q (hU_10.2.2 _ (th_ne (hW _ 10 0 (hW _ 2 2 h_6 (by decide) (by decide) (by decide)) (by decide) (by decide) (by decide)) h_6 (by decide)))) (ar_q (hk_8 _ (fun h => h.elim (th_ne (hW _ 10 0 (hW _ 2 2 h_6 (by decide) (by decide) (by decide)) (by decide) (by decide) (by decide)) h_6 (by decide)) (fun h => h.elim (th_ne (hW _ 10 0 (hW _ 2 2 h_6 (by decide) (by decide) (by decide)) (by decide) (by decide) (by decide)) (hW _ 2 4 h_6 (by decide) (by decide) (by decide)) (by decide)) (fun h => h.elim (th_ne (hW _ 10 0 (hW _ 2 2 h_6 (by decide) (by decide) (by decide)) (by decide) (by decide) (by decide)) (hW _ 2 5 h_6 (by decide) (by decide) (by decide)) (by decide)) (th_ne (hW _ 10 0 (hW _ 2 2 h_6 (by decide) (by decide) (by decide)) (by decide) (by decide) (by decide)) (hW _ 2 6 h_6 (by decide) (by decide) (by decide)) (by decide))))))))))))))) (fun h => h.elim (fun h => (Or.inr (Or.inr (Or.inr (Or.inr (Or.inr h)))))) (fun h => h.elim (fun h => (Or.inr (Or.inl h))) (fun h => (Or.inr (Or.inr (Or.inr (Or.inl h))))))))) ⟨by decide, by decide⟩ (Nat.le_of_ble_eq_true rfl) ⟨by decide, by decide⟩ rfl dX11_open_59 (fun H_11 locs_11 p_11 hT_11 hk_11 hS_11 => ?_)
  have p_11 : fi D 5 1 H_11 (ρ (ρ (ρ a0 2) 3) 4) = 1 ∧ fi D 10 3 H_11 (ρ (ρ (ρ a0 2) 3) 2) = 1 ∧ fi D 10 2 H_11 (ρ (ρ (ρ a0 2) 3) 2) = 1 ∧ fi D 8 8 H_11 (ar H_10 (ρ (ρ (ρ (ρ a0 2) 3) 2) 0) 0) = 0 ∧ fi D 8 6 H_11 (ar H_10 (ρ (ρ (ρ (ρ a0 2) 3) 2) 0) 0) = 0 ∧ fi D 8 5 H_11 (ar H_10 (ρ (ρ (ρ (ρ a0 2) 3) 2) 0) 0) = (-4) ∧ fi D 8 4 H_11 (ar H_10 (ρ (ρ (ρ (ρ a0 2) 3) 2) 0) 0) = (-4) ∧ fi D 8 3 H_11 (ar H_10 (ρ (ρ (ρ (ρ a0 2) 3) 2) 0) 0) = (-4) ∧ fi D 8 1 H_11 (ar H_10 (ρ (ρ (ρ (ρ a0 2) 3) 2) 0) 0) = 1 ∧ fi D 8 0 H_11 (ar H_10 (ρ (ρ (ρ (ρ a0 2) 3) 2) 0) 0) = fi D 2 0 H_10 (ρ (ρ a0 2) 3) ∧ fi D 7 4 H_11 (ρ (ρ (ρ a0 2) 3) 6) = 0 ∧ fi D 7 3 H_11 (ρ (ρ (ρ a0 2) 3) 6) = 0 := p_11
  obtain ⟨p_11_0, p_11_1, p_11_2, p_11_3, p_11_4, p_11_5, p_11_6, p_11_7, p_11_8, p_11_9, p_11_10, p_11_11⟩ := p_11
  refine lv_aload_n hx hb dX11_open_62 rfl (lv_at hl 0 rfl) ?_
  refine th_Vv (As := []) (rest := []) E hml hl.1 (c_X2_adjustTimer_v2 l D cI cS τ ρ hW H_11 hT_11 (ρ (ρ a0 2) 3) h_6 (Eq.trans (fi_q (hk_11 _ (fun h => h.elim (th_ne h_6 (TH.ar8 hT_10 (hW _ 10 0 (hW _ 2 2 h_6 (by decide) (by decide) (by decide)) (by decide) (by decide) (by decide)) (by decide)) (by decide)) (fun h => h.elim (Ne.symm hn_2) (fun h => h.elim (th_ne h_6 (hW _ 2 4 h_6 (by decide) (by decide) (by decide)) (by decide)) (th_ne h_6 (hW _ 2 6 h_6 (by decide) (by decide) (by decide)) (by decide))))))) (PU.i hU_10)) p_11_0 (Eq.trans (fi_q (hk_11 _ (fun h => h.elim (th_ne h_6 (TH.ar8 hT_10 (hW _ 10 0 (hW _ 2 2 h_6 (by decide) (by decide) (by decide)) (by decide) (by decide) (by decide)) (by decide)) (by decide)) (fun h => h.elim (Ne.symm hn_2) (fun h => h.elim (th_ne h_6 (hW _ 2 4 h_6 (by decide) (by decide) (by decide)) (by decide)) (th_ne h_6 (hW _ 2 6 h_6 (by decide) (by decide) (by decide)) (by decide))))))) (Eq.trans (PU.io hU_10 (j := 8) (by decide) (by decide)) p_8_1))) lk_X11_83 yd_X2_adjustTimer hT_11 h_6 rfl (by decide) hS_11 (fun q h => (Or.inl h)) ⟨by decide, by decide⟩ (Nat.le_of_ble_eq_true rfl) ⟨by decide, by decide⟩ rfl dX11_open_63 (fun H_12 locs_12 p_12 hT_12 hk_12 hS_12 => ?_)
  refine lv_aload_n hx hb dX11_open_66 rfl (lv_at hl 1 rfl) ?_
  refine gf_X11_26 E hT_12 hW ha0 dX11_open_67 (fun h_13 => ?_)
  refine gf_X11_86 E hT_12 hW h_5 dX11_open_70 (fun h_14 => ?_)
  refine th_topr he_19 ?_
  refine gf_X11_90 E hT_12 (hW _ 2 2 h_6 (by decide) (by decide) (by decide)) dX11_open_73 ?_
  refine th_topi (y := 1) (Eq.trans (fi_q (hk_12 _ hn_2)) p_11_2) ?_
  exact th_iret E hr hlk hs hT_12 hS_12 ⟨rfl, (Eq.trans (fi_q (hk_12 _ (th_ne (hW _ 2 5 h_6 (by decide) (by decide) (by decide)) h_6 (by decide)))) (Eq.trans (fi_q (hk_11 _ (fun h => h.elim (th_ne (hW _ 2 5 h_6 (by decide) (by decide) (by decide)) (TH.ar8 hT_10 (hW _ 10 0 (hW _ 2 2 h_6 (by decide) (by decide) (by decide)) (by decide) (by decide) (by decide)) (by decide)) (by decide)) (fun h => h.elim (Ne.symm hn_4) (fun h => h.elim (th_ne (hW _ 2 5 h_6 (by decide) (by decide) (by decide)) (hW _ 2 4 h_6 (by decide) (by decide) (by decide)) (by decide)) (th_ne (hW _ 2 5 h_6 (by decide) (by decide) (by decide)) (hW _ 2 6 h_6 (by decide) (by decide) (by decide)) (by decide))))))) (Eq.trans (fi_q (hU_10.2.2 _ (th_ne (hW _ 2 5 h_6 (by decide) (by decide) (by decide)) h_6 (by decide)))) p_8_15))), (Eq.trans (fi_q (hk_12 _ (th_ne (hW _ 2 5 h_6 (by decide) (by decide) (by decide)) h_6 (by decide)))) (Eq.trans (fi_q (hk_11 _ (fun h => h.elim (th_ne (hW _ 2 5 h_6 (by decide) (by decide) (by decide)) (TH.ar8 hT_10 (hW _ 10 0 (hW _ 2 2 h_6 (by decide) (by decide) (by decide)) (by decide) (by decide) (by decide)) (by decide)) (by decide)) (fun h => h.elim (Ne.symm hn_4) (fun h => h.elim (th_ne (hW _ 2 5 h_6 (by decide) (by decide) (by decide)) (hW _ 2 4 h_6 (by decide) (by decide) (by decide)) (by decide)) (th_ne (hW _ 2 5 h_6 (by decide) (by decide) (by decide)) (hW _ 2 6 h_6 (by decide) (by decide) (by decide)) (by decide))))))) (Eq.trans (fi_q (hU_10.2.2 _ (th_ne (hW _ 2 5 h_6 (by decide) (by decide) (by decide)) h_6 (by decide)))) p_8_14))), (Eq.trans (fi_q (hk_12 _ (th_ne (hW _ 2 5 h_6 (by decide) (by decide) (by decide)) h_6 (by decide)))) (Eq.trans (fi_q (hk_11 _ (fun h => h.elim (th_ne (hW _ 2 5 h_6 (by decide) (by decide) (by decide)) (TH.ar8 hT_10 (hW _ 10 0 (hW _ 2 2 h_6 (by decide) (by decide) (by decide)) (by decide) (by decide) (by decide)) (by decide)) (by decide)) (fun h => h.elim (Ne.symm hn_4) (fun h => h.elim (th_ne (hW _ 2 5 h_6 (by decide) (by decide) (by decide)) (hW _ 2 4 h_6 (by decide) (by decide) (by decide)) (by decide)) (th_ne (hW _ 2 5 h_6 (by decide) (by decide) (by decide)) (hW _ 2 6 h_6 (by decide) (by decide) (by decide)) (by decide))))))) (Eq.trans (fi_q (hU_10.2.2 _ (th_ne (hW _ 2 5 h_6 (by decide) (by decide) (by decide)) h_6 (by decide)))) p_8_13))), (Eq.trans (fi_q (hk_12 _ (th_ne (hW _ 2 5 h_6 (by decide) (by decide) (by decide)) h_6 (by decide)))) (Eq.trans (fi_q (hk_11 _ (fun h => h.elim (th_ne (hW _ 2 5 h_6 (by decide) (by decide) (by decide)) (TH.ar8 hT_10 (hW _ 10 0 (hW _ 2 2 h_6 (by decide) (by decide) (by decide)) (by decide) (by decide) (by decide)) (by decide)) (by decide)) (fun h => h.elim (Ne.symm hn_4) (fun h => h.elim (th_ne (hW _ 2 5 h_6 (by decide) (by decide) (by decide)) (hW _ 2 4 h_6 (by decide) (by decide) (by decide)) (by decide)) (th_ne (hW _ 2 5 h_6 (by decide) (by decide) (by decide)) (hW _ 2 6 h_6 (by decide) (by decide) (by decide)) (by decide))))))) (Eq.trans (fi_q (hU_10.2.2 _ (th_ne (hW _ 2 5 h_6 (by decide) (by decide) (by decide)) h_6 (by decide)))) p_8_12))), (Eq.trans (fi_q (hk_12 _ (th_ne (hW _ 2 5 h_6 (by decide) (by decide) (by decide)) h_6 (by decide)))) (Eq.trans (fi_q (hk_11 _ (fun h => h.elim (th_ne (hW _ 2 5 h_6 (by decide) (by decide) (by decide)) (TH.ar8 hT_10 (hW _ 10 0 (hW _ 2 2 h_6 (by decide) (by decide) (by decide)) (by decide) (by decide) (by decide)) (by decide)) (by decide)) (fun h => h.elim (Ne.symm hn_4) (fun h => h.elim (th_ne (hW _ 2 5 h_6 (by decide) (by decide) (by decide)) (hW _ 2 4 h_6 (by decide) (by decide) (by decide)) (by decide)) (th_ne (hW _ 2 5 h_6 (by decide) (by decide) (by decide)) (hW _ 2 6 h_6 (by decide) (by decide) (by decide)) (by decide))))))) (Eq.trans (fi_q (hU_10.2.2 _ (th_ne (hW _ 2 5 h_6 (by decide) (by decide) (by decide)) h_6 (by decide)))) p_8_11))), (Eq.trans (fl_q (hk_12 _ (th_ne (hW _ 2 5 h_6 (by decide) (by decide) (by decide)) h_6 (by decide)))) (Eq.trans (fl_q (hk_11 _ (fun h => h.elim (th_ne (hW _ 2 5 h_6 (by decide) (by decide) (by decide)) (TH.ar8 hT_10 (hW _ 10 0 (hW _ 2 2 h_6 (by decide) (by decide) (by decide)) (by decide) (by decide) (by decide)) (by decide)) (by decide)) (fun h => h.elim (Ne.symm hn_4) (fun h => h.elim (th_ne (hW _ 2 5 h_6 (by decide) (by decide) (by decide)) (hW _ 2 4 h_6 (by decide) (by decide) (by decide)) (by decide)) (th_ne (hW _ 2 5 h_6 (by decide) (by decide) (by decide)) (hW _ 2 6 h_6 (by decide) (by decide) (by decide)) (by decide))))))) (Eq.trans (fl_q (hU_10.2.2 _ (th_ne (hW _ 2 5 h_6 (by decide) (by decide) (by decide)) h_6 (by decide)))) p_8_10))), (Eq.trans (fi_q (hk_12 _ (th_ne (hW _ 2 6 h_6 (by decide) (by decide) (by decide)) h_6 (by decide)))) p_11_11), (Eq.trans (fi_q (hk_12 _ (th_ne (hW _ 2 6 h_6 (by decide) (by decide) (by decide)) h_6 (by decide)))) p_11_10), (Eq.trans (fi_q (hk_12 _ hn_2)) p_11_2), (Eq.trans (fi_q (hk_12 _ hn_2)) p_11_1), (Eq.trans (fi_q (hk_12 _ (th_ne (hW _ 2 4 h_6 (by decide) (by decide) (by decide)) h_6 (by decide)))) p_11_0)⟩ dX11_open_76
set_option maxHeartbeats 4000000 in
set_option maxRecDepth 100000 in
/-- StreamEnds.open -/
theorem c_X11_open_v6 (l : Launch) (D : va_G) (cI cS : ClassId) (τ : Nat → Option Nat) (ρ : Nat → Nat → Nat) (hW : WF τ ρ) (H : Heap) (hT : TH D cI cS τ ρ H) (a0 : Nat) (x0 : Int32) (ha0 : τ a0 = some 11) (bl_x0 : 2 ≤ x0.toInt) : MI l D cI cS τ ρ yX11_open cX11_open 4 (some .int) 1 20 H [.ref a0, .int 0, .int x0] (fun (r : Int32) (u : Heap) => H = u ∧ (-1) = r) (fun q => False) := by
  refine MI.of (by decide) (Nat.le_of_ble_eq_true rfl) ?_
  intro p e s m args below meth c E hml hr hlk hs ls hl
  have hx := E.1
  have hb := E.2.1
  have hown := E.2.2.1
  have hts := E.2.2.2.1
  have hS : SS (fun q => False) H H [] := SS.rf
  have hl : lv_has ls 4 [(0, .ref a0), (1, .int 0), (2, .int x0)] := hl
  refine lv_iload_n hx hb dX11_open_0 rfl (lv_at hl 1 rfl) ?_
  refine th_Si (As := [.int 0]) (rest := []) E hml hl.1 (c_X11_isEnd_v3 l D cI cS τ ρ hW H hT) lk_X11_65 yd_X11_isEnd hS (fun _ h => h.elim) ⟨by decide, by decide⟩ (Nat.le_of_ble_eq_true rfl) ⟨by decide, by decide⟩ rfl dX11_open_1 (fun r_1 H_1 locs_1 p_1 hT_1 hk_1 hS_1 => ?_)
  have p_1 : H = H_1 ∧ 1 = r_1 := p_1
  obtain ⟨rfl, rfl⟩ := p_1
  refine lv_if_eq (tgt := 16) hx hb dX11_open_4 (by decide) (fun c_2 => absurd c_2 (by decide)) (fun c_2 => ?_)
  refine lv_iload_n hx hb dX11_open_7 rfl (lv_at hl 2 rfl) ?_
  refine lv_if_lt (tgt := 16) hx hb dX11_open_8 (by decide) (fun c_3 => False.elim (by (have : (0 : Int32).toInt = 0 := (by decide); have : x0.toInt < (0 : Int32).toInt := Int32.lt_iff_toInt_lt.mp c_3; omega))) (fun c_3 => ?_)
  refine lv_iload_n hx hb dX11_open_11 rfl (lv_at hl 2 rfl) ?_
  refine lv_iconst (v := 1) hx hb dX11_open_12 (by decide) ?_
  refine lv_icmp_le (tgt := 18) hx hb dX11_open_13 (by decide) (fun c_4 => False.elim (by (have : (1 : Int32).toInt = 1 := (by decide); have : x0.toInt ≤ (1 : Int32).toInt := Int32.le_iff_toInt_le.mp c_4; omega))) (fun c_4 => ?_)
  refine lv_iconst (v := (-1)) hx hb dX11_open_16 (by decide) ?_
  exact th_iret E hr hlk hs hT_1 hS_1 ⟨rfl, rfl⟩ dX11_open_17
set_option maxHeartbeats 4000000 in
set_option maxRecDepth 100000 in
/-- StreamEnds.say -/
theorem c_X11_say_v3 (l : Launch) (D : va_G) (cI cS : ClassId) (τ : Nat → Option Nat) (ρ : Nat → Nat → Nat) (hW : WF τ ρ) (H : Heap) (hT : TH D cI cS τ ρ H) (a0 : Nat) (x0 : Int32) (ha0 : τ a0 = some 11) (bh_x0 : x0.toInt ≤ -1) : MI l D cI cS τ ρ yX11_say cX11_say 4 (some .int) 1 20 H [.ref a0, .int 0, .int x0] (fun (r : Int32) (u : Heap) => H = u ∧ (-1) = r) (fun q => False) := by
  refine MI.of (by decide) (Nat.le_of_ble_eq_true rfl) ?_
  intro p e s m args below meth c E hml hr hlk hs ls hl
  have hx := E.1
  have hb := E.2.1
  have hown := E.2.2.1
  have hts := E.2.2.2.1
  have hS : SS (fun q => False) H H [] := SS.rf
  have hl : lv_has ls 4 [(0, .ref a0), (1, .int 0), (2, .int x0)] := hl
  refine lv_iload_n hx hb dX11_say_0 rfl (lv_at hl 1 rfl) ?_
  refine th_Si (As := [.int 0]) (rest := []) E hml hl.1 (c_X11_isEnd_v3 l D cI cS τ ρ hW H hT) lk_X11_65 yd_X11_isEnd hS (fun _ h => h.elim) ⟨by decide, by decide⟩ (Nat.le_of_ble_eq_true rfl) ⟨by decide, by decide⟩ rfl dX11_say_1 (fun r_1 H_1 locs_1 p_1 hT_1 hk_1 hS_1 => ?_)
  have p_1 : H = H_1 ∧ 1 = r_1 := p_1
  obtain ⟨rfl, rfl⟩ := p_1
  refine lv_if_eq (tgt := 18) hx hb dX11_say_4 (by decide) (fun c_2 => absurd c_2 (by decide)) (fun c_2 => ?_)
  refine lv_iload_n hx hb dX11_say_7 rfl (lv_at hl 2 rfl) ?_
  refine lv_if_lt (tgt := 18) hx hb dX11_say_8 (by decide) (fun c_3 => ?_) (fun c_3 => False.elim (by (have : (0 : Int32).toInt = 0 := (by decide); have : ¬ x0.toInt < (0 : Int32).toInt := fun q => c_3 (Int32.lt_iff_toInt_lt.mpr q); omega)))
  refine lv_iconst (v := (-1)) hx hb dX11_say_18 (by decide) ?_
  exact th_iret E hr hlk hs hT_1 hS_1 ⟨rfl, rfl⟩ dX11_say_19
set_option maxHeartbeats 4000000 in
set_option maxRecDepth 100000 in
/-- StreamEnds$Endpoint.mayTransmit -/
theorem c_X2_mayTransmit_v2 (l : Launch) (D : va_G) (cI cS : ClassId) (τ : Nat → Option Nat) (ρ : Nat → Nat → Nat) (hW : WF τ ρ) (H : Heap) (hT : TH D cI cS τ ρ H) (a0 : Nat) (ha0 : τ a0 = some 2) (hf_1 : fi D 2 7 H a0 = 0) : MI l D cI cS τ ρ yX2_mayTransmit cX2_mayTransmit 1 (some .boolean) 0 0 H [.ref a0] (fun (r : Int32) (u : Heap) => H = u ∧ 0 = r) (fun q => False) := by
  refine MI.of (by decide) (Nat.le_of_ble_eq_true rfl) ?_
  intro p e s m args below meth c E hml hr hlk hs ls hl
  have hx := E.1
  have hb := E.2.1
  have hown := E.2.2.1
  have hts := E.2.2.2.1
  have hS : SS (fun q => False) H H [] := SS.rf
  have hl : lv_has ls 1 [(0, .ref a0)] := hl
  refine lv_aload_n hx hb dX2_mayTransmit_0 rfl (lv_at hl 0 rfl) ?_
  refine gf_X2_63 E hT ha0 dX2_mayTransmit_1 ?_
  refine th_topi (y := 0) hf_1 ?_
  refine lv_iconst (v := 4) hx hb dX2_mayTransmit_4 (by decide) ?_
  refine lv_icmp_eq (tgt := 17) hx hb dX2_mayTransmit_5 (by decide) (fun c_1 => absurd c_1 (by decide)) (fun c_1 => ?_)
  refine lv_aload_n hx hb dX2_mayTransmit_8 rfl (lv_at hl 0 rfl) ?_
  refine gf_X2_63 E hT ha0 dX2_mayTransmit_9 ?_
  refine th_topi (y := 0) hf_1 ?_
  refine lv_bipush (v := 7) hx hb dX2_mayTransmit_12 (by decide) ?_
  refine lv_icmp_ne (tgt := 21) hx hb dX2_mayTransmit_14 (by decide) (fun c_2 => ?_) (fun c_2 => absurd c_2 (by decide))
  refine lv_iconst (v := 0) hx hb dX2_mayTransmit_21 (by decide) ?_
  exact th_zret E hr hlk hs (Or.inl rfl) hT hS ⟨rfl, rfl⟩ dX2_mayTransmit_22
set_option maxHeartbeats 4000000 in
set_option maxRecDepth 100000 in
/-- StreamEnds$Endpoint.maySay -/
theorem c_X2_maySay (l : Launch) (D : va_G) (cI cS : ClassId) (τ : Nat → Option Nat) (ρ : Nat → Nat → Nat) (hW : WF τ ρ) (H : Heap) (hT : TH D cI cS τ ρ H) (a0 : Nat) (ha0 : τ a0 = some 2) (hf_1 : fi D 2 7 H a0 = 0) : MI l D cI cS τ ρ yX2_maySay cX2_maySay 1 (some .boolean) 1 20 H [.ref a0] (fun (r : Int32) (u : Heap) => H = u ∧ 0 = r) (fun q => False) := by
  refine MI.of (by decide) (Nat.le_of_ble_eq_true rfl) ?_
  intro p e s m args below meth c E hml hr hlk hs ls hl
  have hx := E.1
  have hb := E.2.1
  have hown := E.2.2.1
  have hts := E.2.2.2.1
  have hS : SS (fun q => False) H H [] := SS.rf
  have hl : lv_has ls 1 [(0, .ref a0)] := hl
  refine lv_aload_n hx hb dX2_maySay_0 rfl (lv_at hl 0 rfl) ?_
  refine gf_X2_63 E hT ha0 dX2_maySay_1 ?_
  refine th_topi (y := 0) hf_1 ?_
  refine lv_iconst (v := 2) hx hb dX2_maySay_4 (by decide) ?_
  refine lv_icmp_eq (tgt := 23) hx hb dX2_maySay_5 (by decide) (fun c_1 => absurd c_1 (by decide)) (fun c_1 => ?_)
  refine lv_aload_n hx hb dX2_maySay_8 rfl (lv_at hl 0 rfl) ?_
  refine gf_X2_63 E hT ha0 dX2_maySay_9 ?_
  refine th_topi (y := 0) hf_1 ?_
  refine lv_iconst (v := 3) hx hb dX2_maySay_12 (by decide) ?_
  refine lv_icmp_eq (tgt := 23) hx hb dX2_maySay_13 (by decide) (fun c_2 => absurd c_2 (by decide)) (fun c_2 => ?_)
  refine lv_aload_n hx hb dX2_maySay_16 rfl (lv_at hl 0 rfl) ?_
  refine th_Vi (As := []) (rest := []) E hml hl.1 (c_X2_mayTransmit_v2 l D cI cS τ ρ hW H hT a0 ha0 hf_1) lk_X2_82 yd_X2_mayTransmit hT ha0 rfl (by decide) hS (fun _ h => h.elim) ⟨by decide, by decide⟩ (Nat.le_of_ble_eq_true rfl) ⟨by decide, by decide⟩ rfl dX2_maySay_17 (fun r_3 H_3 locs_3 p_3 hT_3 hk_3 hS_3 => ?_)
  have p_3 : H = H_3 ∧ 0 = r_3 := p_3
  obtain ⟨rfl, rfl⟩ := p_3
  refine lv_if_eq (tgt := 37) hx hb dX2_maySay_20 (by decide) (fun c_4 => ?_) (fun c_4 => absurd (by decide) c_4)
  refine lv_iconst (v := 0) hx hb dX2_maySay_37 (by decide) ?_
  exact th_zret E hr hlk hs (Or.inl rfl) hT_3 hS_3 ⟨rfl, rfl⟩ dX2_maySay_38
set_option maxHeartbeats 4000000 in
set_option maxRecDepth 100000 in
/-- StreamEnds.say -/
theorem c_X11_say_v4 (l : Launch) (D : va_G) (cI cS : ClassId) (τ : Nat → Option Nat) (ρ : Nat → Nat → Nat) (hW : WF τ ρ) (H : Heap) (hT : TH D cI cS τ ρ H) (a0 : Nat) (x0 : Int32) (ha0 : τ a0 = some 11) (bl_x0 : 0 ≤ x0.toInt) (bh_x0 : x0.toInt ≤ 255) (hf_1 : fi D 2 7 H (ρ (ρ a0 2) 3) = 0) : MI l D cI cS τ ρ yX11_say cX11_say 4 (some .int) 2 40 H [.ref a0, .int 0, .int x0] (fun (r : Int32) (u : Heap) => H = u ∧ (-2) = r) (fun q => False) := by
  refine MI.of (by decide) (Nat.le_of_ble_eq_true rfl) ?_
  intro p e s m args below meth c E hml hr hlk hs ls hl
  have hx := E.1
  have hb := E.2.1
  have hown := E.2.2.1
  have hts := E.2.2.2.1
  have hS : SS (fun q => False) H H [] := SS.rf
  have hl : lv_has ls 4 [(0, .ref a0), (1, .int 0), (2, .int x0)] := hl
  refine lv_iload_n hx hb dX11_say_0 rfl (lv_at hl 1 rfl) ?_
  refine th_Si (As := [.int 0]) (rest := []) E hml hl.1 (c_X11_isEnd_v3 l D cI cS τ ρ hW H hT) lk_X11_65 yd_X11_isEnd hS (fun _ h => h.elim) ⟨by decide, by decide⟩ (Nat.le_of_ble_eq_true rfl) ⟨by decide, by decide⟩ rfl dX11_say_1 (fun r_1 H_1 locs_1 p_1 hT_1 hk_1 hS_1 => ?_)
  have p_1 : H = H_1 ∧ 1 = r_1 := p_1
  obtain ⟨rfl, rfl⟩ := p_1
  refine lv_if_eq (tgt := 18) hx hb dX11_say_4 (by decide) (fun c_2 => absurd c_2 (by decide)) (fun c_2 => ?_)
  refine lv_iload_n hx hb dX11_say_7 rfl (lv_at hl 2 rfl) ?_
  refine lv_if_lt (tgt := 18) hx hb dX11_say_8 (by decide) (fun c_3 => False.elim (by (have : (0 : Int32).toInt = 0 := (by decide); have : x0.toInt < (0 : Int32).toInt := Int32.lt_iff_toInt_lt.mp c_3; omega))) (fun c_3 => ?_)
  refine lv_iload_n hx hb dX11_say_11 rfl (lv_at hl 2 rfl) ?_
  refine lv_sipush (v := 255) hx hb dX11_say_12 (by decide) ?_
  refine lv_icmp_le (tgt := 20) hx hb dX11_say_15 (by decide) (fun c_4 => ?_) (fun c_4 => False.elim (by (have : (255 : Int32).toInt = 255 := (by decide); have : ¬ x0.toInt ≤ (255 : Int32).toInt := fun q => c_4 (Int32.le_iff_toInt_le.mpr q); omega)))
  refine lv_aload_n hx hb dX11_say_20 rfl (lv_at hl 0 rfl) ?_
  refine gf_X11_26 E hT_1 hW ha0 dX11_say_21 (fun h_5 => ?_)
  refine lv_iload_n hx hb dX11_say_24 rfl (lv_at hl 1 rfl) ?_
  refine th_Vr (As := [.int 0]) (rest := []) E hml hl.1 (c_X4_endpoint l D cI cS τ ρ hW H hT_1 (ρ a0 2) h_5) lk_X11_68 yd_X4_endpoint hT_1 h_5 rfl (by decide) hS_1 (fun _ h => h.elim) ⟨by decide, by decide⟩ (Nat.le_of_ble_eq_true rfl) ⟨by decide, by decide⟩ rfl dX11_say_25 (fun r_6 H_6 locs_6 p_6 hT_6 hk_6 hS_6 => ?_)
  have p_6 : H = H_6 ∧ ρ (ρ a0 2) 3 = r_6 := p_6
  obtain ⟨rfl, rfl⟩ := p_6
  have h_6 : τ (ρ (ρ a0 2) 3) = some 2 := hW _ 4 3 h_5 (by decide) (by decide) (by decide)
  refine lv_astore_n (lv' := [(3, .ref (ρ (ρ a0 2) 3)), (0, .ref a0), (1, .int 0), (2, .int x0)]) hx hb dX11_say_28 rfl hl (by decide) rfl (fun ls hl => ?_)
  refine lv_aload_n hx hb dX11_say_29 rfl (lv_at hl 0 rfl) ?_
  refine th_Vi (As := []) (rest := []) E hml hl.1 (c_X2_maySay l D cI cS τ ρ hW H hT_6 (ρ (ρ a0 2) 3) h_6 hf_1) lk_X11_95 yd_X2_maySay hT_6 h_6 rfl (by decide) hS_6 (fun _ h => h.elim) ⟨by decide, by decide⟩ (Nat.le_of_ble_eq_true rfl) ⟨by decide, by decide⟩ rfl dX11_say_30 (fun r_7 H_7 locs_7 p_7 hT_7 hk_7 hS_7 => ?_)
  have p_7 : H = H_7 ∧ 0 = r_7 := p_7
  obtain ⟨rfl, rfl⟩ := p_7
  refine lv_if_ne (tgt := 39) hx hb dX11_say_33 (by decide) (fun c_8 => absurd (by decide) c_8) (fun c_8 => ?_)
  refine lv_bipush (v := (-2)) hx hb dX11_say_36 (by decide) ?_
  exact th_iret E hr hlk hs hT_7 hS_7 ⟨rfl, rfl⟩ dX11_say_38
set_option maxHeartbeats 4000000 in
set_option maxRecDepth 100000 in
/-- StreamEnds.say -/
theorem c_X11_say_v5 (l : Launch) (D : va_G) (cI cS : ClassId) (τ : Nat → Option Nat) (ρ : Nat → Nat → Nat) (hW : WF τ ρ) (H : Heap) (hT : TH D cI cS τ ρ H) (a0 : Nat) (x0 : Int32) (ha0 : τ a0 = some 11) (bl_x0 : 256 ≤ x0.toInt) : MI l D cI cS τ ρ yX11_say cX11_say 4 (some .int) 1 20 H [.ref a0, .int 0, .int x0] (fun (r : Int32) (u : Heap) => H = u ∧ (-1) = r) (fun q => False) := by
  refine MI.of (by decide) (Nat.le_of_ble_eq_true rfl) ?_
  intro p e s m args below meth c E hml hr hlk hs ls hl
  have hx := E.1
  have hb := E.2.1
  have hown := E.2.2.1
  have hts := E.2.2.2.1
  have hS : SS (fun q => False) H H [] := SS.rf
  have hl : lv_has ls 4 [(0, .ref a0), (1, .int 0), (2, .int x0)] := hl
  refine lv_iload_n hx hb dX11_say_0 rfl (lv_at hl 1 rfl) ?_
  refine th_Si (As := [.int 0]) (rest := []) E hml hl.1 (c_X11_isEnd_v3 l D cI cS τ ρ hW H hT) lk_X11_65 yd_X11_isEnd hS (fun _ h => h.elim) ⟨by decide, by decide⟩ (Nat.le_of_ble_eq_true rfl) ⟨by decide, by decide⟩ rfl dX11_say_1 (fun r_1 H_1 locs_1 p_1 hT_1 hk_1 hS_1 => ?_)
  have p_1 : H = H_1 ∧ 1 = r_1 := p_1
  obtain ⟨rfl, rfl⟩ := p_1
  refine lv_if_eq (tgt := 18) hx hb dX11_say_4 (by decide) (fun c_2 => absurd c_2 (by decide)) (fun c_2 => ?_)
  refine lv_iload_n hx hb dX11_say_7 rfl (lv_at hl 2 rfl) ?_
  refine lv_if_lt (tgt := 18) hx hb dX11_say_8 (by decide) (fun c_3 => False.elim (by (have : (0 : Int32).toInt = 0 := (by decide); have : x0.toInt < (0 : Int32).toInt := Int32.lt_iff_toInt_lt.mp c_3; omega))) (fun c_3 => ?_)
  refine lv_iload_n hx hb dX11_say_11 rfl (lv_at hl 2 rfl) ?_
  refine lv_sipush (v := 255) hx hb dX11_say_12 (by decide) ?_
  refine lv_icmp_le (tgt := 20) hx hb dX11_say_15 (by decide) (fun c_4 => False.elim (by (have : (255 : Int32).toInt = 255 := (by decide); have : x0.toInt ≤ (255 : Int32).toInt := Int32.le_iff_toInt_le.mp c_4; omega))) (fun c_4 => ?_)
  refine lv_iconst (v := (-1)) hx hb dX11_say_18 (by decide) ?_
  exact th_iret E hr hlk hs hT_1 hS_1 ⟨rfl, rfl⟩ dX11_say_19
set_option maxHeartbeats 4000000 in
set_option maxRecDepth 100000 in
/-- StreamEnds.cry -/
theorem c_X11_cry_v3 (l : Launch) (D : va_G) (cI cS : ClassId) (τ : Nat → Option Nat) (ρ : Nat → Nat → Nat) (hW : WF τ ρ) (H : Heap) (hT : TH D cI cS τ ρ H) (a0 : Nat) (ha0 : τ a0 = some 11) (hf_1 : fi D 2 7 H (ρ (ρ a0 2) 3) = 0) : MI l D cI cS τ ρ yX11_cry cX11_cry 3 (some .int) 2 40 H [.ref a0, .int 0] (fun (r : Int32) (u : Heap) => H = u ∧ (-2) = r) (fun q => False) := by
  refine MI.of (by decide) (Nat.le_of_ble_eq_true rfl) ?_
  intro p e s m args below meth c E hml hr hlk hs ls hl
  have hx := E.1
  have hb := E.2.1
  have hown := E.2.2.1
  have hts := E.2.2.2.1
  have hS : SS (fun q => False) H H [] := SS.rf
  have hl : lv_has ls 3 [(0, .ref a0), (1, .int 0)] := hl
  refine lv_iload_n hx hb dX11_cry_0 rfl (lv_at hl 1 rfl) ?_
  refine th_Si (As := [.int 0]) (rest := []) E hml hl.1 (c_X11_isEnd_v3 l D cI cS τ ρ hW H hT) lk_X11_65 yd_X11_isEnd hS (fun _ h => h.elim) ⟨by decide, by decide⟩ (Nat.le_of_ble_eq_true rfl) ⟨by decide, by decide⟩ rfl dX11_cry_1 (fun r_1 H_1 locs_1 p_1 hT_1 hk_1 hS_1 => ?_)
  have p_1 : H = H_1 ∧ 1 = r_1 := p_1
  obtain ⟨rfl, rfl⟩ := p_1
  refine lv_if_ne (tgt := 9) hx hb dX11_cry_4 (by decide) (fun c_2 => ?_) (fun c_2 => absurd c_2 (by decide))
  refine lv_aload_n hx hb dX11_cry_9 rfl (lv_at hl 0 rfl) ?_
  refine gf_X11_26 E hT_1 hW ha0 dX11_cry_10 (fun h_3 => ?_)
  refine lv_iload_n hx hb dX11_cry_13 rfl (lv_at hl 1 rfl) ?_
  refine th_Vr (As := [.int 0]) (rest := []) E hml hl.1 (c_X4_endpoint l D cI cS τ ρ hW H hT_1 (ρ a0 2) h_3) lk_X11_68 yd_X4_endpoint hT_1 h_3 rfl (by decide) hS_1 (fun _ h => h.elim) ⟨by decide, by decide⟩ (Nat.le_of_ble_eq_true rfl) ⟨by decide, by decide⟩ rfl dX11_cry_14 (fun r_4 H_4 locs_4 p_4 hT_4 hk_4 hS_4 => ?_)
  have p_4 : H = H_4 ∧ ρ (ρ a0 2) 3 = r_4 := p_4
  obtain ⟨rfl, rfl⟩ := p_4
  have h_4 : τ (ρ (ρ a0 2) 3) = some 2 := hW _ 4 3 h_3 (by decide) (by decide) (by decide)
  refine lv_astore_n (lv' := [(2, .ref (ρ (ρ a0 2) 3)), (0, .ref a0), (1, .int 0)]) hx hb dX11_cry_17 rfl hl (by decide) rfl (fun ls hl => ?_)
  refine lv_aload_n hx hb dX11_cry_18 rfl (lv_at hl 0 rfl) ?_
  refine th_Vi (As := []) (rest := []) E hml hl.1 (c_X2_maySay l D cI cS τ ρ hW H hT_4 (ρ (ρ a0 2) 3) h_4 hf_1) lk_X11_95 yd_X2_maySay hT_4 h_4 rfl (by decide) hS_4 (fun _ h => h.elim) ⟨by decide, by decide⟩ (Nat.le_of_ble_eq_true rfl) ⟨by decide, by decide⟩ rfl dX11_cry_19 (fun r_5 H_5 locs_5 p_5 hT_5 hk_5 hS_5 => ?_)
  have p_5 : H = H_5 ∧ 0 = r_5 := p_5
  obtain ⟨rfl, rfl⟩ := p_5
  refine lv_if_eq (tgt := 35) hx hb dX11_cry_22 (by decide) (fun c_6 => ?_) (fun c_6 => absurd (by decide) c_6)
  refine lv_bipush (v := (-2)) hx hb dX11_cry_35 (by decide) ?_
  exact th_iret E hr hlk hs hT_5 hS_5 ⟨rfl, rfl⟩ dX11_cry_37
set_option maxHeartbeats 4000000 in
set_option maxRecDepth 100000 in
/-- StreamEnds.leave -/
theorem c_X11_leave_v3 (l : Launch) (D : va_G) (cI cS : ClassId) (τ : Nat → Option Nat) (ρ : Nat → Nat → Nat) (hW : WF τ ρ) (H : Heap) (hT : TH D cI cS τ ρ H) (a0 : Nat) (ha0 : τ a0 = some 11) (hf_1 : fi D 2 7 H (ρ (ρ a0 2) 3) = 0) : MI l D cI cS τ ρ yX11_leave cX11_leave 3 (some .int) 1 21 H [.ref a0, .int 0] (fun (r : Int32) (u : Heap) => H = u ∧ (-2) = r) (fun q => False) := by
  refine MI.of (by decide) (Nat.le_of_ble_eq_true rfl) ?_
  intro p e s m args below meth c E hml hr hlk hs ls hl
  have hx := E.1
  have hb := E.2.1
  have hown := E.2.2.1
  have hts := E.2.2.2.1
  have hS : SS (fun q => False) H H [] := SS.rf
  have hl : lv_has ls 3 [(0, .ref a0), (1, .int 0)] := hl
  refine lv_iload_n hx hb dX11_leave_0 rfl (lv_at hl 1 rfl) ?_
  refine th_Si (As := [.int 0]) (rest := []) E hml hl.1 (c_X11_isEnd_v3 l D cI cS τ ρ hW H hT) lk_X11_65 yd_X11_isEnd hS (fun _ h => h.elim) ⟨by decide, by decide⟩ (Nat.le_of_ble_eq_true rfl) ⟨by decide, by decide⟩ rfl dX11_leave_1 (fun r_1 H_1 locs_1 p_1 hT_1 hk_1 hS_1 => ?_)
  have p_1 : H = H_1 ∧ 1 = r_1 := p_1
  obtain ⟨rfl, rfl⟩ := p_1
  refine lv_if_ne (tgt := 9) hx hb dX11_leave_4 (by decide) (fun c_2 => ?_) (fun c_2 => absurd c_2 (by decide))
  refine lv_aload_n hx hb dX11_leave_9 rfl (lv_at hl 0 rfl) ?_
  refine gf_X11_26 E hT_1 hW ha0 dX11_leave_10 (fun h_3 => ?_)
  refine lv_iload_n hx hb dX11_leave_13 rfl (lv_at hl 1 rfl) ?_
  refine th_Vr (As := [.int 0]) (rest := []) E hml hl.1 (c_X4_endpoint l D cI cS τ ρ hW H hT_1 (ρ a0 2) h_3) lk_X11_68 yd_X4_endpoint hT_1 h_3 rfl (by decide) hS_1 (fun _ h => h.elim) ⟨by decide, by decide⟩ (Nat.le_of_ble_eq_true rfl) ⟨by decide, by decide⟩ rfl dX11_leave_14 (fun r_4 H_4 locs_4 p_4 hT_4 hk_4 hS_4 => ?_)
  have p_4 : H = H_4 ∧ ρ (ρ a0 2) 3 = r_4 := p_4
  obtain ⟨rfl, rfl⟩ := p_4
  have h_4 : τ (ρ (ρ a0 2) 3) = some 2 := hW _ 4 3 h_3 (by decide) (by decide) (by decide)
  refine lv_astore_n (lv' := [(2, .ref (ρ (ρ a0 2) 3)), (0, .ref a0), (1, .int 0)]) hx hb dX11_leave_17 rfl hl (by decide) rfl (fun ls hl => ?_)
  refine lv_aload_n hx hb dX11_leave_18 rfl (lv_at hl 0 rfl) ?_
  refine gf_X11_72 E hT_4 h_4 dX11_leave_19 ?_
  refine th_topi (y := 0) hf_1 ?_
  refine lv_tableOut (tgt := 107) hx hb dX11_leave_22 (by decide) (by decide) ?_
  refine lv_bipush (v := (-2)) hx hb dX11_leave_107 (by decide) ?_
  exact th_iret E hr hlk hs hT_4 hS_4 ⟨rfl, rfl⟩ dX11_leave_109
set_option maxHeartbeats 4000000 in
set_option maxRecDepth 100000 in
/-- StreamEnds.quit -/
theorem c_X11_quit_v3 (l : Launch) (D : va_G) (cI cS : ClassId) (τ : Nat → Option Nat) (ρ : Nat → Nat → Nat) (hW : WF τ ρ) (H : Heap) (hT : TH D cI cS τ ρ H) (a0 : Nat) (ha0 : τ a0 = some 11) (hf_1 : fi D 2 7 H (ρ (ρ a0 2) 3) = 0) : MI l D cI cS τ ρ yX11_quit cX11_quit 4 (some .int) 1 21 H [.ref a0, .int 0] (fun (r : Int32) (u : Heap) => H = u ∧ (-2) = r) (fun q => False) := by
  refine MI.of (by decide) (Nat.le_of_ble_eq_true rfl) ?_
  intro p e s m args below meth c E hml hr hlk hs ls hl
  have hx := E.1
  have hb := E.2.1
  have hown := E.2.2.1
  have hts := E.2.2.2.1
  have hS : SS (fun q => False) H H [] := SS.rf
  have hl : lv_has ls 4 [(0, .ref a0), (1, .int 0)] := hl
  refine lv_iload_n hx hb dX11_quit_0 rfl (lv_at hl 1 rfl) ?_
  refine th_Si (As := [.int 0]) (rest := []) E hml hl.1 (c_X11_isEnd_v3 l D cI cS τ ρ hW H hT) lk_X11_65 yd_X11_isEnd hS (fun _ h => h.elim) ⟨by decide, by decide⟩ (Nat.le_of_ble_eq_true rfl) ⟨by decide, by decide⟩ rfl dX11_quit_1 (fun r_1 H_1 locs_1 p_1 hT_1 hk_1 hS_1 => ?_)
  have p_1 : H = H_1 ∧ 1 = r_1 := p_1
  obtain ⟨rfl, rfl⟩ := p_1
  refine lv_if_ne (tgt := 9) hx hb dX11_quit_4 (by decide) (fun c_2 => ?_) (fun c_2 => absurd c_2 (by decide))
  refine lv_aload_n hx hb dX11_quit_9 rfl (lv_at hl 0 rfl) ?_
  refine gf_X11_26 E hT_1 hW ha0 dX11_quit_10 (fun h_3 => ?_)
  refine lv_iload_n hx hb dX11_quit_13 rfl (lv_at hl 1 rfl) ?_
  refine th_Vr (As := [.int 0]) (rest := []) E hml hl.1 (c_X4_endpoint l D cI cS τ ρ hW H hT_1 (ρ a0 2) h_3) lk_X11_68 yd_X4_endpoint hT_1 h_3 rfl (by decide) hS_1 (fun _ h => h.elim) ⟨by decide, by decide⟩ (Nat.le_of_ble_eq_true rfl) ⟨by decide, by decide⟩ rfl dX11_quit_14 (fun r_4 H_4 locs_4 p_4 hT_4 hk_4 hS_4 => ?_)
  have p_4 : H = H_4 ∧ ρ (ρ a0 2) 3 = r_4 := p_4
  obtain ⟨rfl, rfl⟩ := p_4
  have h_4 : τ (ρ (ρ a0 2) 3) = some 2 := hW _ 4 3 h_3 (by decide) (by decide) (by decide)
  refine lv_astore_n (lv' := [(2, .ref (ρ (ρ a0 2) 3)), (0, .ref a0), (1, .int 0)]) hx hb dX11_quit_17 rfl hl (by decide) rfl (fun ls hl => ?_)
  refine lv_aload_n hx hb dX11_quit_18 rfl (lv_at hl 0 rfl) ?_
  refine gf_X11_72 E hT_4 h_4 dX11_quit_19 ?_
  refine th_topi (y := 0) hf_1 ?_
  refine lv_istore_n (lv' := [(3, .int 0), (2, .ref (ρ (ρ a0 2) 3)), (0, .ref a0), (1, .int 0)]) hx hb dX11_quit_22 rfl hl (by decide) rfl (fun ls hl => ?_)
  refine lv_iload_n hx hb dX11_quit_23 rfl (lv_at hl 0 rfl) ?_
  refine lv_if_ne (tgt := 30) hx hb dX11_quit_24 (by decide) (fun c_5 => absurd (by decide) c_5) (fun c_5 => ?_)
  refine lv_bipush (v := (-2)) hx hb dX11_quit_27 (by decide) ?_
  exact th_iret E hr hlk hs hT_4 hS_4 ⟨rfl, rfl⟩ dX11_quit_29
set_option maxHeartbeats 4000000 in
set_option maxRecDepth 100000 in
/-- StreamEnds$Incoming.consumable -/
theorem c_X3_consumable (l : Launch) (D : va_G) (cI cS : ClassId) (τ : Nat → Option Nat) (ρ : Nat → Nat → Nat) (hW : WF τ ρ) (H : Heap) (hT : TH D cI cS τ ρ H) (a0 : Nat) (ha0 : τ a0 = some 3) (hf_1 : fi D 3 3 H a0 = (-4)) (hf_2 : fi D 3 1 H a0 = 1) (hf_3 : fi D 3 0 H a0 = 0) : MI l D cI cS τ ρ yX3_consumable cX3_consumable 2 (some .int) 1 13 H [.ref a0] (fun (r : Int32) (u : Heap) => H = u ∧ 0 = r) (fun q => False) := by
  refine MI.of (by decide) (Nat.le_of_ble_eq_true rfl) ?_
  intro p e s m args below meth c E hml hr hlk hs ls hl
  have hx := E.1
  have hb := E.2.1
  have hown := E.2.2.1
  have hts := E.2.2.2.1
  have hS : SS (fun q => False) H H [] := SS.rf
  have hl : lv_has ls 2 [(0, .ref a0)] := hl
  refine lv_aload_n hx hb dX3_consumable_0 rfl (lv_at hl 0 rfl) ?_
  refine gf_X3_25 E hT ha0 dX3_consumable_1 ?_
  refine th_topi (y := (-4)) hf_1 ?_
  refine lv_aload_n hx hb dX3_consumable_4 rfl (lv_at hl 0 rfl) ?_
  refine gf_X3_19 E hT ha0 dX3_consumable_5 ?_
  refine th_topi (y := 1) hf_2 ?_
  refine lv_icmp_lt (tgt := 25) hx hb dX3_consumable_8 (by decide) (fun c_1 => ?_) (fun c_1 => absurd (by decide) c_1)
  refine lv_aload_n hx hb dX3_consumable_25 rfl (lv_at hl 0 rfl) ?_
  refine gf_X3_15 E hT ha0 dX3_consumable_26 ?_
  refine th_topi (y := 0) hf_3 ?_
  refine lv_istore_n (lv' := [(1, .int 0), (0, .ref a0)]) hx hb dX3_consumable_29 rfl hl (by decide) rfl (fun ls hl => ?_)
  refine lv_iconst (v := 0) hx hb dX3_consumable_30 (by decide) ?_
  refine lv_iload_n hx hb dX3_consumable_31 rfl (lv_at hl 0 rfl) ?_
  refine lv_aload_n hx hb dX3_consumable_32 rfl (lv_at hl 1 rfl) ?_
  refine gf_X3_19 E hT ha0 dX3_consumable_33 ?_
  refine th_topi (y := 1) hf_2 ?_
  refine lv_isub hx hb dX3_consumable_36 ?_
  refine th_topi (y := (-1)) (by decide) ?_
  refine mm_X3_45 E hml hl.1 (by decide) (Nat.le_of_ble_eq_true rfl) ⟨by decide, by decide⟩ dX3_consumable_37 ?_
  refine th_topi (y := 0) (by decide) ?_
  exact th_iret E hr hlk hs hT hS ⟨rfl, rfl⟩ dX3_consumable_40
set_option maxHeartbeats 4000000 in
set_option maxRecDepth 100000 in
/-- StreamEnds.take -/
theorem c_X11_take_v3 (l : Launch) (D : va_G) (cI cS : ClassId) (τ : Nat → Option Nat) (ρ : Nat → Nat → Nat) (hW : WF τ ρ) (H : Heap) (hT : TH D cI cS τ ρ H) (a0 : Nat) (ha0 : τ a0 = some 11) (hf_1 : fi D 3 3 H (ρ (ρ (ρ a0 2) 3) 5) = (-4)) (hf_2 : fi D 3 1 H (ρ (ρ (ρ a0 2) 3) 5) = 1) (hf_3 : fi D 3 0 H (ρ (ρ (ρ a0 2) 3) 5) = 0) : MI l D cI cS τ ρ yX11_take cX11_take 4 (some .int) 2 34 H [.ref a0, .int 0] (fun (r : Int32) (u : Heap) => H = u ∧ (-4) = r) (fun q => False) := by
  refine MI.of (by decide) (Nat.le_of_ble_eq_true rfl) ?_
  intro p e s m args below meth c E hml hr hlk hs ls hl
  have hx := E.1
  have hb := E.2.1
  have hown := E.2.2.1
  have hts := E.2.2.2.1
  have hS : SS (fun q => False) H H [] := SS.rf
  have hl : lv_has ls 4 [(0, .ref a0), (1, .int 0)] := hl
  refine lv_iload_n hx hb dX11_take_0 rfl (lv_at hl 1 rfl) ?_
  refine th_Si (As := [.int 0]) (rest := []) E hml hl.1 (c_X11_isEnd_v3 l D cI cS τ ρ hW H hT) lk_X11_65 yd_X11_isEnd hS (fun _ h => h.elim) ⟨by decide, by decide⟩ (Nat.le_of_ble_eq_true rfl) ⟨by decide, by decide⟩ rfl dX11_take_1 (fun r_1 H_1 locs_1 p_1 hT_1 hk_1 hS_1 => ?_)
  have p_1 : H = H_1 ∧ 1 = r_1 := p_1
  obtain ⟨rfl, rfl⟩ := p_1
  refine lv_if_ne (tgt := 9) hx hb dX11_take_4 (by decide) (fun c_2 => ?_) (fun c_2 => absurd c_2 (by decide))
  refine lv_aload_n hx hb dX11_take_9 rfl (lv_at hl 0 rfl) ?_
  refine gf_X11_26 E hT_1 hW ha0 dX11_take_10 (fun h_3 => ?_)
  refine lv_iload_n hx hb dX11_take_13 rfl (lv_at hl 1 rfl) ?_
  refine th_Vr (As := [.int 0]) (rest := []) E hml hl.1 (c_X4_endpoint l D cI cS τ ρ hW H hT_1 (ρ a0 2) h_3) lk_X11_68 yd_X4_endpoint hT_1 h_3 rfl (by decide) hS_1 (fun _ h => h.elim) ⟨by decide, by decide⟩ (Nat.le_of_ble_eq_true rfl) ⟨by decide, by decide⟩ rfl dX11_take_14 (fun r_4 H_4 locs_4 p_4 hT_4 hk_4 hS_4 => ?_)
  have p_4 : H = H_4 ∧ ρ (ρ a0 2) 3 = r_4 := p_4
  obtain ⟨rfl, rfl⟩ := p_4
  have h_4 : τ (ρ (ρ a0 2) 3) = some 2 := hW _ 4 3 h_3 (by decide) (by decide) (by decide)
  refine lv_astore_n (lv' := [(2, .ref (ρ (ρ a0 2) 3)), (0, .ref a0), (1, .int 0)]) hx hb dX11_take_17 rfl hl (by decide) rfl (fun ls hl => ?_)
  refine lv_aload_n hx hb dX11_take_18 rfl (lv_at hl 0 rfl) ?_
  refine gf_X11_143 E hT_4 hW h_4 dX11_take_19 (fun h_5 => ?_)
  refine th_Vi (As := []) (rest := []) E hml hl.1 (c_X3_consumable l D cI cS τ ρ hW H hT_4 (ρ (ρ (ρ a0 2) 3) 5) h_5 hf_1 hf_2 hf_3) lk_X11_147 yd_X3_consumable hT_4 h_5 rfl (by decide) hS_4 (fun _ h => h.elim) ⟨by decide, by decide⟩ (Nat.le_of_ble_eq_true rfl) ⟨by decide, by decide⟩ rfl dX11_take_22 (fun r_6 H_6 locs_6 p_6 hT_6 hk_6 hS_6 => ?_)
  have p_6 : H = H_6 ∧ 0 = r_6 := p_6
  obtain ⟨rfl, rfl⟩ := p_6
  refine lv_if_ne (tgt := 31) hx hb dX11_take_25 (by decide) (fun c_7 => absurd (by decide) c_7) (fun c_7 => ?_)
  refine lv_bipush (v := (-4)) hx hb dX11_take_28 (by decide) ?_
  exact th_iret E hr hlk hs hT_6 hS_6 ⟨rfl, rfl⟩ dX11_take_30
set_option maxHeartbeats 4000000 in
set_option maxRecDepth 100000 in
/-- StreamEnds.end -/
theorem c_X11_end_v3 (l : Launch) (D : va_G) (cI cS : ClassId) (τ : Nat → Option Nat) (ρ : Nat → Nat → Nat) (hW : WF τ ρ) (H : Heap) (hT : TH D cI cS τ ρ H) (a0 : Nat) (x0 : Int32) (ha0 : τ a0 = some 11) (bh_x0 : x0.toInt ≤ -1) : MI l D cI cS τ ρ yX11_end cX11_end 3 (some .int) 1 20 H [.ref a0, .int 0, .int x0] (fun (r : Int32) (u : Heap) => H = u ∧ (-1) = r) (fun q => False) := by
  refine MI.of (by decide) (Nat.le_of_ble_eq_true rfl) ?_
  intro p e s m args below meth c E hml hr hlk hs ls hl
  have hx := E.1
  have hb := E.2.1
  have hown := E.2.2.1
  have hts := E.2.2.2.1
  have hS : SS (fun q => False) H H [] := SS.rf
  have hl : lv_has ls 3 [(0, .ref a0), (1, .int 0), (2, .int x0)] := hl
  refine lv_iload_n hx hb dX11_end_0 rfl (lv_at hl 1 rfl) ?_
  refine th_Si (As := [.int 0]) (rest := []) E hml hl.1 (c_X11_isEnd_v3 l D cI cS τ ρ hW H hT) lk_X11_65 yd_X11_isEnd hS (fun _ h => h.elim) ⟨by decide, by decide⟩ (Nat.le_of_ble_eq_true rfl) ⟨by decide, by decide⟩ rfl dX11_end_1 (fun r_1 H_1 locs_1 p_1 hT_1 hk_1 hS_1 => ?_)
  have p_1 : H = H_1 ∧ 1 = r_1 := p_1
  obtain ⟨rfl, rfl⟩ := p_1
  refine lv_if_eq (tgt := 17) hx hb dX11_end_4 (by decide) (fun c_2 => absurd c_2 (by decide)) (fun c_2 => ?_)
  refine lv_iload_n hx hb dX11_end_7 rfl (lv_at hl 2 rfl) ?_
  refine lv_if_lt (tgt := 17) hx hb dX11_end_8 (by decide) (fun c_3 => ?_) (fun c_3 => False.elim (by (have : (0 : Int32).toInt = 0 := (by decide); have : ¬ x0.toInt < (0 : Int32).toInt := fun q => c_3 (Int32.lt_iff_toInt_lt.mpr q); omega)))
  refine lv_iconst (v := (-1)) hx hb dX11_end_17 (by decide) ?_
  exact th_iret E hr hlk hs hT_1 hS_1 ⟨rfl, rfl⟩ dX11_end_18
set_option maxHeartbeats 4000000 in
set_option maxRecDepth 100000 in
/-- StreamEnds$Endpoint.value -/
theorem c_X2_value (l : Launch) (D : va_G) (cI cS : ClassId) (τ : Nat → Option Nat) (ρ : Nat → Nat → Nat) (hW : WF τ ρ) (H : Heap) (hT : TH D cI cS τ ρ H) (a0 : Nat) (ha0 : τ a0 = some 2) (hf_1 : fi D 2 7 H a0 = 0) : MI l D cI cS τ ρ yX2_value cX2_value 2 (some .int) 0 0 H [.ref a0, .int 0] (fun (r : Int32) (u : Heap) => H = u ∧ 0 = r) (fun q => False) := by
  refine MI.of (by decide) (Nat.le_of_ble_eq_true rfl) ?_
  intro p e s m args below meth c E hml hr hlk hs ls hl
  have hx := E.1
  have hb := E.2.1
  have hown := E.2.2.1
  have hts := E.2.2.2.1
  have hS : SS (fun q => False) H H [] := SS.rf
  have hl : lv_has ls 2 [(0, .ref a0), (1, .int 0)] := hl
  refine lv_iload_n hx hb dX2_value_0 rfl (lv_at hl 1 rfl) ?_
  refine lv_tableIn (tgt := 84) hx hb dX2_value_1 (by decide) (by decide) rfl (by decide) ?_
  refine lv_aload_n hx hb dX2_value_84 rfl (lv_at hl 0 rfl) ?_
  refine gf_X2_63 E hT ha0 dX2_value_85 ?_
  refine th_topi (y := 0) hf_1 ?_
  exact th_iret E hr hlk hs hT hS ⟨rfl, rfl⟩ dX2_value_88
set_option maxHeartbeats 4000000 in
set_option maxRecDepth 100000 in
/-- StreamEnds.end -/
theorem c_X11_end_v4 (l : Launch) (D : va_G) (cI cS : ClassId) (τ : Nat → Option Nat) (ρ : Nat → Nat → Nat) (hW : WF τ ρ) (H : Heap) (hT : TH D cI cS τ ρ H) (a0 : Nat) (ha0 : τ a0 = some 11) (hf_1 : fi D 2 7 H (ρ (ρ a0 2) 3) = 0) : MI l D cI cS τ ρ yX11_end cX11_end 3 (some .int) 1 21 H [.ref a0, .int 0, .int 0] (fun (r : Int32) (u : Heap) => H = u ∧ 0 = r) (fun q => False) := by
  refine MI.of (by decide) (Nat.le_of_ble_eq_true rfl) ?_
  intro p e s m args below meth c E hml hr hlk hs ls hl
  have hx := E.1
  have hb := E.2.1
  have hown := E.2.2.1
  have hts := E.2.2.2.1
  have hS : SS (fun q => False) H H [] := SS.rf
  have hl : lv_has ls 3 [(0, .ref a0), (1, .int 0), (2, .int 0)] := hl
  refine lv_iload_n hx hb dX11_end_0 rfl (lv_at hl 1 rfl) ?_
  refine th_Si (As := [.int 0]) (rest := []) E hml hl.1 (c_X11_isEnd_v3 l D cI cS τ ρ hW H hT) lk_X11_65 yd_X11_isEnd hS (fun _ h => h.elim) ⟨by decide, by decide⟩ (Nat.le_of_ble_eq_true rfl) ⟨by decide, by decide⟩ rfl dX11_end_1 (fun r_1 H_1 locs_1 p_1 hT_1 hk_1 hS_1 => ?_)
  have p_1 : H = H_1 ∧ 1 = r_1 := p_1
  obtain ⟨rfl, rfl⟩ := p_1
  refine lv_if_eq (tgt := 17) hx hb dX11_end_4 (by decide) (fun c_2 => absurd c_2 (by decide)) (fun c_2 => ?_)
  refine lv_iload_n hx hb dX11_end_7 rfl (lv_at hl 2 rfl) ?_
  refine lv_if_lt (tgt := 17) hx hb dX11_end_8 (by decide) (fun c_3 => absurd c_3 (by decide)) (fun c_3 => ?_)
  refine lv_iload_n hx hb dX11_end_11 rfl (lv_at hl 2 rfl) ?_
  refine lv_bipush (v := 17) hx hb dX11_end_12 (by decide) ?_
  refine lv_icmp_le (tgt := 19) hx hb dX11_end_14 (by decide) (fun c_4 => ?_) (fun c_4 => absurd (by decide) c_4)
  refine lv_aload_n hx hb dX11_end_19 rfl (lv_at hl 0 rfl) ?_
  refine gf_X11_26 E hT_1 hW ha0 dX11_end_20 (fun h_5 => ?_)
  refine lv_iload_n hx hb dX11_end_23 rfl (lv_at hl 1 rfl) ?_
  refine th_Vr (As := [.int 0]) (rest := []) E hml hl.1 (c_X4_endpoint l D cI cS τ ρ hW H hT_1 (ρ a0 2) h_5) lk_X11_68 yd_X4_endpoint hT_1 h_5 rfl (by decide) hS_1 (fun _ h => h.elim) ⟨by decide, by decide⟩ (Nat.le_of_ble_eq_true rfl) ⟨by decide, by decide⟩ rfl dX11_end_24 (fun r_6 H_6 locs_6 p_6 hT_6 hk_6 hS_6 => ?_)
  have p_6 : H = H_6 ∧ ρ (ρ a0 2) 3 = r_6 := p_6
  obtain ⟨rfl, rfl⟩ := p_6
  have h_6 : τ (ρ (ρ a0 2) 3) = some 2 := hW _ 4 3 h_5 (by decide) (by decide) (by decide)
  refine lv_iload_n hx hb dX11_end_27 rfl (lv_at hl 2 rfl) ?_
  refine th_Vi (As := [.int 0]) (rest := []) E hml hl.1 (c_X2_value l D cI cS τ ρ hW H hT_6 (ρ (ρ a0 2) 3) h_6 hf_1) lk_X11_204 yd_X2_value hT_6 h_6 rfl (by decide) hS_6 (fun _ h => h.elim) ⟨by decide, by decide⟩ (Nat.le_of_ble_eq_true rfl) ⟨by decide, by decide⟩ rfl dX11_end_28 (fun r_7 H_7 locs_7 p_7 hT_7 hk_7 hS_7 => ?_)
  have p_7 : H = H_7 ∧ 0 = r_7 := p_7
  obtain ⟨rfl, rfl⟩ := p_7
  exact th_iret E hr hlk hs hT_7 hS_7 ⟨rfl, rfl⟩ dX11_end_31
set_option maxHeartbeats 4000000 in
set_option maxRecDepth 100000 in
/-- StreamEnds$Endpoint.value -/
theorem c_X2_value_v2 (l : Launch) (D : va_G) (cI cS : ClassId) (τ : Nat → Option Nat) (ρ : Nat → Nat → Nat) (hW : WF τ ρ) (H : Heap) (hT : TH D cI cS τ ρ H) (a0 : Nat) (ha0 : τ a0 = some 2) (hf_1 : fi D 5 0 H (ρ a0 4) = 0) : MI l D cI cS τ ρ yX2_value cX2_value 2 (some .int) 0 0 H [.ref a0, .int 1] (fun (r : Int32) (u : Heap) => H = u ∧ 0 = r) (fun q => False) := by
  refine MI.of (by decide) (Nat.le_of_ble_eq_true rfl) ?_
  intro p e s m args below meth c E hml hr hlk hs ls hl
  have hx := E.1
  have hb := E.2.1
  have hown := E.2.2.1
  have hts := E.2.2.2.1
  have hS : SS (fun q => False) H H [] := SS.rf
  have hl : lv_has ls 2 [(0, .ref a0), (1, .int 1)] := hl
  refine lv_iload_n hx hb dX2_value_0 rfl (lv_at hl 1 rfl) ?_
  refine lv_tableIn (tgt := 89) hx hb dX2_value_1 (by decide) (by decide) rfl (by decide) ?_
  refine lv_aload_n hx hb dX2_value_89 rfl (lv_at hl 0 rfl) ?_
  refine gf_X2_12 E hT hW ha0 dX2_value_90 (fun h_1 => ?_)
  refine gf_X2_90 E hT h_1 dX2_value_93 ?_
  refine th_topi (y := 0) hf_1 ?_
  exact th_iret E hr hlk hs hT hS ⟨rfl, rfl⟩ dX2_value_96
set_option maxHeartbeats 4000000 in
set_option maxRecDepth 100000 in
/-- StreamEnds.end -/
theorem c_X11_end_v5 (l : Launch) (D : va_G) (cI cS : ClassId) (τ : Nat → Option Nat) (ρ : Nat → Nat → Nat) (hW : WF τ ρ) (H : Heap) (hT : TH D cI cS τ ρ H) (a0 : Nat) (ha0 : τ a0 = some 11) (hf_1 : fi D 5 0 H (ρ (ρ (ρ a0 2) 3) 4) = 0) : MI l D cI cS τ ρ yX11_end cX11_end 3 (some .int) 1 21 H [.ref a0, .int 0, .int 1] (fun (r : Int32) (u : Heap) => H = u ∧ 0 = r) (fun q => False) := by
  refine MI.of (by decide) (Nat.le_of_ble_eq_true rfl) ?_
  intro p e s m args below meth c E hml hr hlk hs ls hl
  have hx := E.1
  have hb := E.2.1
  have hown := E.2.2.1
  have hts := E.2.2.2.1
  have hS : SS (fun q => False) H H [] := SS.rf
  have hl : lv_has ls 3 [(0, .ref a0), (1, .int 0), (2, .int 1)] := hl
  refine lv_iload_n hx hb dX11_end_0 rfl (lv_at hl 1 rfl) ?_
  refine th_Si (As := [.int 0]) (rest := []) E hml hl.1 (c_X11_isEnd_v3 l D cI cS τ ρ hW H hT) lk_X11_65 yd_X11_isEnd hS (fun _ h => h.elim) ⟨by decide, by decide⟩ (Nat.le_of_ble_eq_true rfl) ⟨by decide, by decide⟩ rfl dX11_end_1 (fun r_1 H_1 locs_1 p_1 hT_1 hk_1 hS_1 => ?_)
  have p_1 : H = H_1 ∧ 1 = r_1 := p_1
  obtain ⟨rfl, rfl⟩ := p_1
  refine lv_if_eq (tgt := 17) hx hb dX11_end_4 (by decide) (fun c_2 => absurd c_2 (by decide)) (fun c_2 => ?_)
  refine lv_iload_n hx hb dX11_end_7 rfl (lv_at hl 2 rfl) ?_
  refine lv_if_lt (tgt := 17) hx hb dX11_end_8 (by decide) (fun c_3 => absurd c_3 (by decide)) (fun c_3 => ?_)
  refine lv_iload_n hx hb dX11_end_11 rfl (lv_at hl 2 rfl) ?_
  refine lv_bipush (v := 17) hx hb dX11_end_12 (by decide) ?_
  refine lv_icmp_le (tgt := 19) hx hb dX11_end_14 (by decide) (fun c_4 => ?_) (fun c_4 => absurd (by decide) c_4)
  refine lv_aload_n hx hb dX11_end_19 rfl (lv_at hl 0 rfl) ?_
  refine gf_X11_26 E hT_1 hW ha0 dX11_end_20 (fun h_5 => ?_)
  refine lv_iload_n hx hb dX11_end_23 rfl (lv_at hl 1 rfl) ?_
  refine th_Vr (As := [.int 0]) (rest := []) E hml hl.1 (c_X4_endpoint l D cI cS τ ρ hW H hT_1 (ρ a0 2) h_5) lk_X11_68 yd_X4_endpoint hT_1 h_5 rfl (by decide) hS_1 (fun _ h => h.elim) ⟨by decide, by decide⟩ (Nat.le_of_ble_eq_true rfl) ⟨by decide, by decide⟩ rfl dX11_end_24 (fun r_6 H_6 locs_6 p_6 hT_6 hk_6 hS_6 => ?_)
  have p_6 : H = H_6 ∧ ρ (ρ a0 2) 3 = r_6 := p_6
  obtain ⟨rfl, rfl⟩ := p_6
  have h_6 : τ (ρ (ρ a0 2) 3) = some 2 := hW _ 4 3 h_5 (by decide) (by decide) (by decide)
  refine lv_iload_n hx hb dX11_end_27 rfl (lv_at hl 2 rfl) ?_
  refine th_Vi (As := [.int 1]) (rest := []) E hml hl.1 (c_X2_value_v2 l D cI cS τ ρ hW H hT_6 (ρ (ρ a0 2) 3) h_6 hf_1) lk_X11_204 yd_X2_value hT_6 h_6 rfl (by decide) hS_6 (fun _ h => h.elim) ⟨by decide, by decide⟩ (Nat.le_of_ble_eq_true rfl) ⟨by decide, by decide⟩ rfl dX11_end_28 (fun r_7 H_7 locs_7 p_7 hT_7 hk_7 hS_7 => ?_)
  have p_7 : H = H_7 ∧ 0 = r_7 := p_7
  obtain ⟨rfl, rfl⟩ := p_7
  exact th_iret E hr hlk hs hT_7 hS_7 ⟨rfl, rfl⟩ dX11_end_31
set_option maxHeartbeats 4000000 in
set_option maxRecDepth 100000 in
/-- StreamEnds$Endpoint.value -/
theorem c_X2_value_v3 (l : Launch) (D : va_G) (cI cS : ClassId) (τ : Nat → Option Nat) (ρ : Nat → Nat → Nat) (hW : WF τ ρ) (H : Heap) (hT : TH D cI cS τ ρ H) (a0 : Nat) (ha0 : τ a0 = some 2) (hf_1 : fi D 5 1 H (ρ a0 4) = 0) : MI l D cI cS τ ρ yX2_value cX2_value 2 (some .int) 0 0 H [.ref a0, .int 2] (fun (r : Int32) (u : Heap) => H = u ∧ 0 = r) (fun q => False) := by
  refine MI.of (by decide) (Nat.le_of_ble_eq_true rfl) ?_
  intro p e s m args below meth c E hml hr hlk hs ls hl
  have hx := E.1
  have hb := E.2.1
  have hown := E.2.2.1
  have hts := E.2.2.2.1
  have hS : SS (fun q => False) H H [] := SS.rf
  have hl : lv_has ls 2 [(0, .ref a0), (1, .int 2)] := hl
  refine lv_iload_n hx hb dX2_value_0 rfl (lv_at hl 1 rfl) ?_
  refine lv_tableIn (tgt := 97) hx hb dX2_value_1 (by decide) (by decide) rfl (by decide) ?_
  refine lv_aload_n hx hb dX2_value_97 rfl (lv_at hl 0 rfl) ?_
  refine gf_X2_12 E hT hW ha0 dX2_value_98 (fun h_1 => ?_)
  refine gf_X2_93 E hT h_1 dX2_value_101 ?_
  refine th_topi (y := 0) hf_1 ?_
  exact th_iret E hr hlk hs hT hS ⟨rfl, rfl⟩ dX2_value_104
set_option maxHeartbeats 4000000 in
set_option maxRecDepth 100000 in
/-- StreamEnds.end -/
theorem c_X11_end_v6 (l : Launch) (D : va_G) (cI cS : ClassId) (τ : Nat → Option Nat) (ρ : Nat → Nat → Nat) (hW : WF τ ρ) (H : Heap) (hT : TH D cI cS τ ρ H) (a0 : Nat) (ha0 : τ a0 = some 11) (hf_1 : fi D 5 1 H (ρ (ρ (ρ a0 2) 3) 4) = 0) : MI l D cI cS τ ρ yX11_end cX11_end 3 (some .int) 1 21 H [.ref a0, .int 0, .int 2] (fun (r : Int32) (u : Heap) => H = u ∧ 0 = r) (fun q => False) := by
  refine MI.of (by decide) (Nat.le_of_ble_eq_true rfl) ?_
  intro p e s m args below meth c E hml hr hlk hs ls hl
  have hx := E.1
  have hb := E.2.1
  have hown := E.2.2.1
  have hts := E.2.2.2.1
  have hS : SS (fun q => False) H H [] := SS.rf
  have hl : lv_has ls 3 [(0, .ref a0), (1, .int 0), (2, .int 2)] := hl
  refine lv_iload_n hx hb dX11_end_0 rfl (lv_at hl 1 rfl) ?_
  refine th_Si (As := [.int 0]) (rest := []) E hml hl.1 (c_X11_isEnd_v3 l D cI cS τ ρ hW H hT) lk_X11_65 yd_X11_isEnd hS (fun _ h => h.elim) ⟨by decide, by decide⟩ (Nat.le_of_ble_eq_true rfl) ⟨by decide, by decide⟩ rfl dX11_end_1 (fun r_1 H_1 locs_1 p_1 hT_1 hk_1 hS_1 => ?_)
  have p_1 : H = H_1 ∧ 1 = r_1 := p_1
  obtain ⟨rfl, rfl⟩ := p_1
  refine lv_if_eq (tgt := 17) hx hb dX11_end_4 (by decide) (fun c_2 => absurd c_2 (by decide)) (fun c_2 => ?_)
  refine lv_iload_n hx hb dX11_end_7 rfl (lv_at hl 2 rfl) ?_
  refine lv_if_lt (tgt := 17) hx hb dX11_end_8 (by decide) (fun c_3 => absurd c_3 (by decide)) (fun c_3 => ?_)
  refine lv_iload_n hx hb dX11_end_11 rfl (lv_at hl 2 rfl) ?_
  refine lv_bipush (v := 17) hx hb dX11_end_12 (by decide) ?_
  refine lv_icmp_le (tgt := 19) hx hb dX11_end_14 (by decide) (fun c_4 => ?_) (fun c_4 => absurd (by decide) c_4)
  refine lv_aload_n hx hb dX11_end_19 rfl (lv_at hl 0 rfl) ?_
  refine gf_X11_26 E hT_1 hW ha0 dX11_end_20 (fun h_5 => ?_)
  refine lv_iload_n hx hb dX11_end_23 rfl (lv_at hl 1 rfl) ?_
  refine th_Vr (As := [.int 0]) (rest := []) E hml hl.1 (c_X4_endpoint l D cI cS τ ρ hW H hT_1 (ρ a0 2) h_5) lk_X11_68 yd_X4_endpoint hT_1 h_5 rfl (by decide) hS_1 (fun _ h => h.elim) ⟨by decide, by decide⟩ (Nat.le_of_ble_eq_true rfl) ⟨by decide, by decide⟩ rfl dX11_end_24 (fun r_6 H_6 locs_6 p_6 hT_6 hk_6 hS_6 => ?_)
  have p_6 : H = H_6 ∧ ρ (ρ a0 2) 3 = r_6 := p_6
  obtain ⟨rfl, rfl⟩ := p_6
  have h_6 : τ (ρ (ρ a0 2) 3) = some 2 := hW _ 4 3 h_5 (by decide) (by decide) (by decide)
  refine lv_iload_n hx hb dX11_end_27 rfl (lv_at hl 2 rfl) ?_
  refine th_Vi (As := [.int 2]) (rest := []) E hml hl.1 (c_X2_value_v3 l D cI cS τ ρ hW H hT_6 (ρ (ρ a0 2) 3) h_6 hf_1) lk_X11_204 yd_X2_value hT_6 h_6 rfl (by decide) hS_6 (fun _ h => h.elim) ⟨by decide, by decide⟩ (Nat.le_of_ble_eq_true rfl) ⟨by decide, by decide⟩ rfl dX11_end_28 (fun r_7 H_7 locs_7 p_7 hT_7 hk_7 hS_7 => ?_)
  have p_7 : H = H_7 ∧ 0 = r_7 := p_7
  obtain ⟨rfl, rfl⟩ := p_7
  exact th_iret E hr hlk hs hT_7 hS_7 ⟨rfl, rfl⟩ dX11_end_31
set_option maxHeartbeats 4000000 in
set_option maxRecDepth 100000 in
/-- StreamEnds$Endpoint.value -/
theorem c_X2_value_v4 (l : Launch) (D : va_G) (cI cS : ClassId) (τ : Nat → Option Nat) (ρ : Nat → Nat → Nat) (hW : WF τ ρ) (H : Heap) (hT : TH D cI cS τ ρ H) (a0 : Nat) (ha0 : τ a0 = some 2) (hf_1 : fi D 5 2 H (ρ a0 4) = 1) : MI l D cI cS τ ρ yX2_value cX2_value 2 (some .int) 0 0 H [.ref a0, .int 3] (fun (r : Int32) (u : Heap) => H = u ∧ 1 = r) (fun q => False) := by
  refine MI.of (by decide) (Nat.le_of_ble_eq_true rfl) ?_
  intro p e s m args below meth c E hml hr hlk hs ls hl
  have hx := E.1
  have hb := E.2.1
  have hown := E.2.2.1
  have hts := E.2.2.2.1
  have hS : SS (fun q => False) H H [] := SS.rf
  have hl : lv_has ls 2 [(0, .ref a0), (1, .int 3)] := hl
  refine lv_iload_n hx hb dX2_value_0 rfl (lv_at hl 1 rfl) ?_
  refine lv_tableIn (tgt := 105) hx hb dX2_value_1 (by decide) (by decide) rfl (by decide) ?_
  refine lv_aload_n hx hb dX2_value_105 rfl (lv_at hl 0 rfl) ?_
  refine gf_X2_12 E hT hW ha0 dX2_value_106 (fun h_1 => ?_)
  refine gf_X2_195 E hT h_1 dX2_value_109 ?_
  refine th_topi (y := 1) hf_1 ?_
  exact th_iret E hr hlk hs hT hS ⟨rfl, rfl⟩ dX2_value_112
set_option maxHeartbeats 4000000 in
set_option maxRecDepth 100000 in
/-- StreamEnds.end -/
theorem c_X11_end_v7 (l : Launch) (D : va_G) (cI cS : ClassId) (τ : Nat → Option Nat) (ρ : Nat → Nat → Nat) (hW : WF τ ρ) (H : Heap) (hT : TH D cI cS τ ρ H) (a0 : Nat) (ha0 : τ a0 = some 11) (hf_1 : fi D 5 2 H (ρ (ρ (ρ a0 2) 3) 4) = 1) : MI l D cI cS τ ρ yX11_end cX11_end 3 (some .int) 1 21 H [.ref a0, .int 0, .int 3] (fun (r : Int32) (u : Heap) => H = u ∧ 1 = r) (fun q => False) := by
  refine MI.of (by decide) (Nat.le_of_ble_eq_true rfl) ?_
  intro p e s m args below meth c E hml hr hlk hs ls hl
  have hx := E.1
  have hb := E.2.1
  have hown := E.2.2.1
  have hts := E.2.2.2.1
  have hS : SS (fun q => False) H H [] := SS.rf
  have hl : lv_has ls 3 [(0, .ref a0), (1, .int 0), (2, .int 3)] := hl
  refine lv_iload_n hx hb dX11_end_0 rfl (lv_at hl 1 rfl) ?_
  refine th_Si (As := [.int 0]) (rest := []) E hml hl.1 (c_X11_isEnd_v3 l D cI cS τ ρ hW H hT) lk_X11_65 yd_X11_isEnd hS (fun _ h => h.elim) ⟨by decide, by decide⟩ (Nat.le_of_ble_eq_true rfl) ⟨by decide, by decide⟩ rfl dX11_end_1 (fun r_1 H_1 locs_1 p_1 hT_1 hk_1 hS_1 => ?_)
  have p_1 : H = H_1 ∧ 1 = r_1 := p_1
  obtain ⟨rfl, rfl⟩ := p_1
  refine lv_if_eq (tgt := 17) hx hb dX11_end_4 (by decide) (fun c_2 => absurd c_2 (by decide)) (fun c_2 => ?_)
  refine lv_iload_n hx hb dX11_end_7 rfl (lv_at hl 2 rfl) ?_
  refine lv_if_lt (tgt := 17) hx hb dX11_end_8 (by decide) (fun c_3 => absurd c_3 (by decide)) (fun c_3 => ?_)
  refine lv_iload_n hx hb dX11_end_11 rfl (lv_at hl 2 rfl) ?_
  refine lv_bipush (v := 17) hx hb dX11_end_12 (by decide) ?_
  refine lv_icmp_le (tgt := 19) hx hb dX11_end_14 (by decide) (fun c_4 => ?_) (fun c_4 => absurd (by decide) c_4)
  refine lv_aload_n hx hb dX11_end_19 rfl (lv_at hl 0 rfl) ?_
  refine gf_X11_26 E hT_1 hW ha0 dX11_end_20 (fun h_5 => ?_)
  refine lv_iload_n hx hb dX11_end_23 rfl (lv_at hl 1 rfl) ?_
  refine th_Vr (As := [.int 0]) (rest := []) E hml hl.1 (c_X4_endpoint l D cI cS τ ρ hW H hT_1 (ρ a0 2) h_5) lk_X11_68 yd_X4_endpoint hT_1 h_5 rfl (by decide) hS_1 (fun _ h => h.elim) ⟨by decide, by decide⟩ (Nat.le_of_ble_eq_true rfl) ⟨by decide, by decide⟩ rfl dX11_end_24 (fun r_6 H_6 locs_6 p_6 hT_6 hk_6 hS_6 => ?_)
  have p_6 : H = H_6 ∧ ρ (ρ a0 2) 3 = r_6 := p_6
  obtain ⟨rfl, rfl⟩ := p_6
  have h_6 : τ (ρ (ρ a0 2) 3) = some 2 := hW _ 4 3 h_5 (by decide) (by decide) (by decide)
  refine lv_iload_n hx hb dX11_end_27 rfl (lv_at hl 2 rfl) ?_
  refine th_Vi (As := [.int 3]) (rest := []) E hml hl.1 (c_X2_value_v4 l D cI cS τ ρ hW H hT_6 (ρ (ρ a0 2) 3) h_6 hf_1) lk_X11_204 yd_X2_value hT_6 h_6 rfl (by decide) hS_6 (fun _ h => h.elim) ⟨by decide, by decide⟩ (Nat.le_of_ble_eq_true rfl) ⟨by decide, by decide⟩ rfl dX11_end_28 (fun r_7 H_7 locs_7 p_7 hT_7 hk_7 hS_7 => ?_)
  have p_7 : H = H_7 ∧ 1 = r_7 := p_7
  obtain ⟨rfl, rfl⟩ := p_7
  exact th_iret E hr hlk hs hT_7 hS_7 ⟨rfl, rfl⟩ dX11_end_31
set_option maxHeartbeats 4000000 in
set_option maxRecDepth 100000 in
/-- StreamEnds$Outgoing.pending -/
theorem c_X5_pending (l : Launch) (D : va_G) (cI cS : ClassId) (τ : Nat → Option Nat) (ρ : Nat → Nat → Nat) (hW : WF τ ρ) (H : Heap) (hT : TH D cI cS τ ρ H) (a0 : Nat) (ha0 : τ a0 = some 5) (hf_1 : fi D 5 3 H a0 = 0) (hf_2 : fi D 5 0 H a0 = 0) : MI l D cI cS τ ρ yX5_pending cX5_pending 1 (some .int) 1 15 H [.ref a0] (fun (r : Int32) (u : Heap) => H = u ∧ 0 = r) (fun q => False) := by
  refine MI.of (by decide) (Nat.le_of_ble_eq_true rfl) ?_
  intro p e s m args below meth c E hml hr hlk hs ls hl
  have hx := E.1
  have hb := E.2.1
  have hown := E.2.2.1
  have hts := E.2.2.2.1
  have hS : SS (fun q => False) H H [] := SS.rf
  have hl : lv_has ls 1 [(0, .ref a0)] := hl
  refine lv_iconst (v := 0) hx hb dX5_pending_0 (by decide) ?_
  refine lv_aload_n hx hb dX5_pending_1 rfl (lv_at hl 0 rfl) ?_
  refine gf_X5_25 E hT ha0 dX5_pending_2 ?_
  refine th_topi (y := 0) hf_1 ?_
  refine lv_iconst (v := 1) hx hb dX5_pending_5 (by decide) ?_
  refine lv_iadd hx hb dX5_pending_6 ?_
  refine th_topi (y := 1) (by decide) ?_
  refine lv_iconst (v := 1) hx hb dX5_pending_7 (by decide) ?_
  refine lv_aload_n hx hb dX5_pending_8 rfl (lv_at hl 0 rfl) ?_
  refine gf_X5_15 E hT ha0 dX5_pending_9 ?_
  refine th_topi (y := 0) hf_2 ?_
  refine mm_X5_45 E hml hl.1 (by decide) (Nat.le_of_ble_eq_true rfl) ⟨by decide, by decide⟩ dX5_pending_12 ?_
  refine th_topi (y := 1) (by decide) ?_
  refine lv_isub hx hb dX5_pending_15 ?_
  refine th_topi (y := 0) (by decide) ?_
  refine mm_X5_45 E hml hl.1 (by decide) (Nat.le_of_ble_eq_true rfl) ⟨by decide, by decide⟩ dX5_pending_16 ?_
  refine th_topi (y := 0) (by decide) ?_
  exact th_iret E hr hlk hs hT hS ⟨rfl, rfl⟩ dX5_pending_19
set_option maxHeartbeats 4000000 in
set_option maxRecDepth 100000 in
/-- StreamEnds$Endpoint.value -/
theorem c_X2_value_v5 (l : Launch) (D : va_G) (cI cS : ClassId) (τ : Nat → Option Nat) (ρ : Nat → Nat → Nat) (hW : WF τ ρ) (H : Heap) (hT : TH D cI cS τ ρ H) (a0 : Nat) (ha0 : τ a0 = some 2) (hf_1 : fi D 5 3 H (ρ a0 4) = 0) (hf_2 : fi D 5 0 H (ρ a0 4) = 0) : MI l D cI cS τ ρ yX2_value cX2_value 2 (some .int) 2 35 H [.ref a0, .int 4] (fun (r : Int32) (u : Heap) => H = u ∧ 0 = r) (fun q => False) := by
  refine MI.of (by decide) (Nat.le_of_ble_eq_true rfl) ?_
  intro p e s m args below meth c E hml hr hlk hs ls hl
  have hx := E.1
  have hb := E.2.1
  have hown := E.2.2.1
  have hts := E.2.2.2.1
  have hS : SS (fun q => False) H H [] := SS.rf
  have hl : lv_has ls 2 [(0, .ref a0), (1, .int 4)] := hl
  refine lv_iload_n hx hb dX2_value_0 rfl (lv_at hl 1 rfl) ?_
  refine lv_tableIn (tgt := 113) hx hb dX2_value_1 (by decide) (by decide) rfl (by decide) ?_
  refine lv_aload_n hx hb dX2_value_113 rfl (lv_at hl 0 rfl) ?_
  refine gf_X2_12 E hT hW ha0 dX2_value_114 (fun h_1 => ?_)
  refine th_Vi (As := []) (rest := []) E hml hl.1 (c_X5_pending l D cI cS τ ρ hW H hT (ρ a0 4) h_1 hf_1 hf_2) lk_X2_244 yd_X5_pending hT h_1 rfl (by decide) hS (fun _ h => h.elim) ⟨by decide, by decide⟩ (Nat.le_of_ble_eq_true rfl) ⟨by decide, by decide⟩ rfl dX2_value_117 (fun r_2 H_2 locs_2 p_2 hT_2 hk_2 hS_2 => ?_)
  have p_2 : H = H_2 ∧ 0 = r_2 := p_2
  obtain ⟨rfl, rfl⟩ := p_2
  exact th_iret E hr hlk hs hT_2 hS_2 ⟨rfl, rfl⟩ dX2_value_120
set_option maxHeartbeats 4000000 in
set_option maxRecDepth 100000 in
/-- StreamEnds.end -/
theorem c_X11_end_v8 (l : Launch) (D : va_G) (cI cS : ClassId) (τ : Nat → Option Nat) (ρ : Nat → Nat → Nat) (hW : WF τ ρ) (H : Heap) (hT : TH D cI cS τ ρ H) (a0 : Nat) (ha0 : τ a0 = some 11) (hf_1 : fi D 5 3 H (ρ (ρ (ρ a0 2) 3) 4) = 0) (hf_2 : fi D 5 0 H (ρ (ρ (ρ a0 2) 3) 4) = 0) : MI l D cI cS τ ρ yX11_end cX11_end 3 (some .int) 3 56 H [.ref a0, .int 0, .int 4] (fun (r : Int32) (u : Heap) => H = u ∧ 0 = r) (fun q => False) := by
  refine MI.of (by decide) (Nat.le_of_ble_eq_true rfl) ?_
  intro p e s m args below meth c E hml hr hlk hs ls hl
  have hx := E.1
  have hb := E.2.1
  have hown := E.2.2.1
  have hts := E.2.2.2.1
  have hS : SS (fun q => False) H H [] := SS.rf
  have hl : lv_has ls 3 [(0, .ref a0), (1, .int 0), (2, .int 4)] := hl
  refine lv_iload_n hx hb dX11_end_0 rfl (lv_at hl 1 rfl) ?_
  refine th_Si (As := [.int 0]) (rest := []) E hml hl.1 (c_X11_isEnd_v3 l D cI cS τ ρ hW H hT) lk_X11_65 yd_X11_isEnd hS (fun _ h => h.elim) ⟨by decide, by decide⟩ (Nat.le_of_ble_eq_true rfl) ⟨by decide, by decide⟩ rfl dX11_end_1 (fun r_1 H_1 locs_1 p_1 hT_1 hk_1 hS_1 => ?_)
  have p_1 : H = H_1 ∧ 1 = r_1 := p_1
  obtain ⟨rfl, rfl⟩ := p_1
  refine lv_if_eq (tgt := 17) hx hb dX11_end_4 (by decide) (fun c_2 => absurd c_2 (by decide)) (fun c_2 => ?_)
  refine lv_iload_n hx hb dX11_end_7 rfl (lv_at hl 2 rfl) ?_
  refine lv_if_lt (tgt := 17) hx hb dX11_end_8 (by decide) (fun c_3 => absurd c_3 (by decide)) (fun c_3 => ?_)
  refine lv_iload_n hx hb dX11_end_11 rfl (lv_at hl 2 rfl) ?_
  refine lv_bipush (v := 17) hx hb dX11_end_12 (by decide) ?_
  refine lv_icmp_le (tgt := 19) hx hb dX11_end_14 (by decide) (fun c_4 => ?_) (fun c_4 => absurd (by decide) c_4)
  refine lv_aload_n hx hb dX11_end_19 rfl (lv_at hl 0 rfl) ?_
  refine gf_X11_26 E hT_1 hW ha0 dX11_end_20 (fun h_5 => ?_)
  refine lv_iload_n hx hb dX11_end_23 rfl (lv_at hl 1 rfl) ?_
  refine th_Vr (As := [.int 0]) (rest := []) E hml hl.1 (c_X4_endpoint l D cI cS τ ρ hW H hT_1 (ρ a0 2) h_5) lk_X11_68 yd_X4_endpoint hT_1 h_5 rfl (by decide) hS_1 (fun _ h => h.elim) ⟨by decide, by decide⟩ (Nat.le_of_ble_eq_true rfl) ⟨by decide, by decide⟩ rfl dX11_end_24 (fun r_6 H_6 locs_6 p_6 hT_6 hk_6 hS_6 => ?_)
  have p_6 : H = H_6 ∧ ρ (ρ a0 2) 3 = r_6 := p_6
  obtain ⟨rfl, rfl⟩ := p_6
  have h_6 : τ (ρ (ρ a0 2) 3) = some 2 := hW _ 4 3 h_5 (by decide) (by decide) (by decide)
  refine lv_iload_n hx hb dX11_end_27 rfl (lv_at hl 2 rfl) ?_
  refine th_Vi (As := [.int 4]) (rest := []) E hml hl.1 (c_X2_value_v5 l D cI cS τ ρ hW H hT_6 (ρ (ρ a0 2) 3) h_6 hf_1 hf_2) lk_X11_204 yd_X2_value hT_6 h_6 rfl (by decide) hS_6 (fun _ h => h.elim) ⟨by decide, by decide⟩ (Nat.le_of_ble_eq_true rfl) ⟨by decide, by decide⟩ rfl dX11_end_28 (fun r_7 H_7 locs_7 p_7 hT_7 hk_7 hS_7 => ?_)
  have p_7 : H = H_7 ∧ 0 = r_7 := p_7
  obtain ⟨rfl, rfl⟩ := p_7
  exact th_iret E hr hlk hs hT_7 hS_7 ⟨rfl, rfl⟩ dX11_end_31
set_option maxHeartbeats 4000000 in
set_option maxRecDepth 100000 in
/-- StreamEnds$Endpoint.value -/
theorem c_X2_value_v6 (l : Launch) (D : va_G) (cI cS : ClassId) (τ : Nat → Option Nat) (ρ : Nat → Nat → Nat) (hW : WF τ ρ) (H : Heap) (hT : TH D cI cS τ ρ H) (a0 : Nat) (ha0 : τ a0 = some 2) (hf_1 : fi D 3 0 H (ρ a0 5) = 0) : MI l D cI cS τ ρ yX2_value cX2_value 2 (some .int) 0 0 H [.ref a0, .int 5] (fun (r : Int32) (u : Heap) => H = u ∧ 0 = r) (fun q => False) := by
  refine MI.of (by decide) (Nat.le_of_ble_eq_true rfl) ?_
  intro p e s m args below meth c E hml hr hlk hs ls hl
  have hx := E.1
  have hb := E.2.1
  have hown := E.2.2.1
  have hts := E.2.2.2.1
  have hS : SS (fun q => False) H H [] := SS.rf
  have hl : lv_has ls 2 [(0, .ref a0), (1, .int 5)] := hl
  refine lv_iload_n hx hb dX2_value_0 rfl (lv_at hl 1 rfl) ?_
  refine lv_tableIn (tgt := 121) hx hb dX2_value_1 (by decide) (by decide) rfl (by decide) ?_
  refine lv_aload_n hx hb dX2_value_121 rfl (lv_at hl 0 rfl) ?_
  refine gf_X2_21 E hT hW ha0 dX2_value_122 (fun h_1 => ?_)
  refine gf_X2_129 E hT h_1 dX2_value_125 ?_
  refine th_topi (y := 0) hf_1 ?_
  exact th_iret E hr hlk hs hT hS ⟨rfl, rfl⟩ dX2_value_128
set_option maxHeartbeats 4000000 in
set_option maxRecDepth 100000 in
/-- StreamEnds.end -/
theorem c_X11_end_v9 (l : Launch) (D : va_G) (cI cS : ClassId) (τ : Nat → Option Nat) (ρ : Nat → Nat → Nat) (hW : WF τ ρ) (H : Heap) (hT : TH D cI cS τ ρ H) (a0 : Nat) (ha0 : τ a0 = some 11) (hf_1 : fi D 3 0 H (ρ (ρ (ρ a0 2) 3) 5) = 0) : MI l D cI cS τ ρ yX11_end cX11_end 3 (some .int) 1 21 H [.ref a0, .int 0, .int 5] (fun (r : Int32) (u : Heap) => H = u ∧ 0 = r) (fun q => False) := by
  refine MI.of (by decide) (Nat.le_of_ble_eq_true rfl) ?_
  intro p e s m args below meth c E hml hr hlk hs ls hl
  have hx := E.1
  have hb := E.2.1
  have hown := E.2.2.1
  have hts := E.2.2.2.1
  have hS : SS (fun q => False) H H [] := SS.rf
  have hl : lv_has ls 3 [(0, .ref a0), (1, .int 0), (2, .int 5)] := hl
  refine lv_iload_n hx hb dX11_end_0 rfl (lv_at hl 1 rfl) ?_
  refine th_Si (As := [.int 0]) (rest := []) E hml hl.1 (c_X11_isEnd_v3 l D cI cS τ ρ hW H hT) lk_X11_65 yd_X11_isEnd hS (fun _ h => h.elim) ⟨by decide, by decide⟩ (Nat.le_of_ble_eq_true rfl) ⟨by decide, by decide⟩ rfl dX11_end_1 (fun r_1 H_1 locs_1 p_1 hT_1 hk_1 hS_1 => ?_)
  have p_1 : H = H_1 ∧ 1 = r_1 := p_1
  obtain ⟨rfl, rfl⟩ := p_1
  refine lv_if_eq (tgt := 17) hx hb dX11_end_4 (by decide) (fun c_2 => absurd c_2 (by decide)) (fun c_2 => ?_)
  refine lv_iload_n hx hb dX11_end_7 rfl (lv_at hl 2 rfl) ?_
  refine lv_if_lt (tgt := 17) hx hb dX11_end_8 (by decide) (fun c_3 => absurd c_3 (by decide)) (fun c_3 => ?_)
  refine lv_iload_n hx hb dX11_end_11 rfl (lv_at hl 2 rfl) ?_
  refine lv_bipush (v := 17) hx hb dX11_end_12 (by decide) ?_
  refine lv_icmp_le (tgt := 19) hx hb dX11_end_14 (by decide) (fun c_4 => ?_) (fun c_4 => absurd (by decide) c_4)
  refine lv_aload_n hx hb dX11_end_19 rfl (lv_at hl 0 rfl) ?_
  refine gf_X11_26 E hT_1 hW ha0 dX11_end_20 (fun h_5 => ?_)
  refine lv_iload_n hx hb dX11_end_23 rfl (lv_at hl 1 rfl) ?_
  refine th_Vr (As := [.int 0]) (rest := []) E hml hl.1 (c_X4_endpoint l D cI cS τ ρ hW H hT_1 (ρ a0 2) h_5) lk_X11_68 yd_X4_endpoint hT_1 h_5 rfl (by decide) hS_1 (fun _ h => h.elim) ⟨by decide, by decide⟩ (Nat.le_of_ble_eq_true rfl) ⟨by decide, by decide⟩ rfl dX11_end_24 (fun r_6 H_6 locs_6 p_6 hT_6 hk_6 hS_6 => ?_)
  have p_6 : H = H_6 ∧ ρ (ρ a0 2) 3 = r_6 := p_6
  obtain ⟨rfl, rfl⟩ := p_6
  have h_6 : τ (ρ (ρ a0 2) 3) = some 2 := hW _ 4 3 h_5 (by decide) (by decide) (by decide)
  refine lv_iload_n hx hb dX11_end_27 rfl (lv_at hl 2 rfl) ?_
  refine th_Vi (As := [.int 5]) (rest := []) E hml hl.1 (c_X2_value_v6 l D cI cS τ ρ hW H hT_6 (ρ (ρ a0 2) 3) h_6 hf_1) lk_X11_204 yd_X2_value hT_6 h_6 rfl (by decide) hS_6 (fun _ h => h.elim) ⟨by decide, by decide⟩ (Nat.le_of_ble_eq_true rfl) ⟨by decide, by decide⟩ rfl dX11_end_28 (fun r_7 H_7 locs_7 p_7 hT_7 hk_7 hS_7 => ?_)
  have p_7 : H = H_7 ∧ 0 = r_7 := p_7
  obtain ⟨rfl, rfl⟩ := p_7
  exact th_iret E hr hlk hs hT_7 hS_7 ⟨rfl, rfl⟩ dX11_end_31
set_option maxHeartbeats 4000000 in
set_option maxRecDepth 100000 in
/-- StreamEnds$Endpoint.value -/
theorem c_X2_value_v7 (l : Launch) (D : va_G) (cI cS : ClassId) (τ : Nat → Option Nat) (ρ : Nat → Nat → Nat) (hW : WF τ ρ) (H : Heap) (hT : TH D cI cS τ ρ H) (a0 : Nat) (ha0 : τ a0 = some 2) (hf_1 : fi D 3 1 H (ρ a0 5) = 1) : MI l D cI cS τ ρ yX2_value cX2_value 2 (some .int) 0 0 H [.ref a0, .int 6] (fun (r : Int32) (u : Heap) => H = u ∧ 1 = r) (fun q => False) := by
  refine MI.of (by decide) (Nat.le_of_ble_eq_true rfl) ?_
  intro p e s m args below meth c E hml hr hlk hs ls hl
  have hx := E.1
  have hb := E.2.1
  have hown := E.2.2.1
  have hts := E.2.2.2.1
  have hS : SS (fun q => False) H H [] := SS.rf
  have hl : lv_has ls 2 [(0, .ref a0), (1, .int 6)] := hl
  refine lv_iload_n hx hb dX2_value_0 rfl (lv_at hl 1 rfl) ?_
  refine lv_tableIn (tgt := 129) hx hb dX2_value_1 (by decide) (by decide) rfl (by decide) ?_
  refine lv_aload_n hx hb dX2_value_129 rfl (lv_at hl 0 rfl) ?_
  refine gf_X2_21 E hT hW ha0 dX2_value_130 (fun h_1 => ?_)
  refine gf_X2_205 E hT h_1 dX2_value_133 ?_
  refine th_topi (y := 1) hf_1 ?_
  exact th_iret E hr hlk hs hT hS ⟨rfl, rfl⟩ dX2_value_136
set_option maxHeartbeats 4000000 in
set_option maxRecDepth 100000 in
/-- StreamEnds.end -/
theorem c_X11_end_v10 (l : Launch) (D : va_G) (cI cS : ClassId) (τ : Nat → Option Nat) (ρ : Nat → Nat → Nat) (hW : WF τ ρ) (H : Heap) (hT : TH D cI cS τ ρ H) (a0 : Nat) (ha0 : τ a0 = some 11) (hf_1 : fi D 3 1 H (ρ (ρ (ρ a0 2) 3) 5) = 1) : MI l D cI cS τ ρ yX11_end cX11_end 3 (some .int) 1 21 H [.ref a0, .int 0, .int 6] (fun (r : Int32) (u : Heap) => H = u ∧ 1 = r) (fun q => False) := by
  refine MI.of (by decide) (Nat.le_of_ble_eq_true rfl) ?_
  intro p e s m args below meth c E hml hr hlk hs ls hl
  have hx := E.1
  have hb := E.2.1
  have hown := E.2.2.1
  have hts := E.2.2.2.1
  have hS : SS (fun q => False) H H [] := SS.rf
  have hl : lv_has ls 3 [(0, .ref a0), (1, .int 0), (2, .int 6)] := hl
  refine lv_iload_n hx hb dX11_end_0 rfl (lv_at hl 1 rfl) ?_
  refine th_Si (As := [.int 0]) (rest := []) E hml hl.1 (c_X11_isEnd_v3 l D cI cS τ ρ hW H hT) lk_X11_65 yd_X11_isEnd hS (fun _ h => h.elim) ⟨by decide, by decide⟩ (Nat.le_of_ble_eq_true rfl) ⟨by decide, by decide⟩ rfl dX11_end_1 (fun r_1 H_1 locs_1 p_1 hT_1 hk_1 hS_1 => ?_)
  have p_1 : H = H_1 ∧ 1 = r_1 := p_1
  obtain ⟨rfl, rfl⟩ := p_1
  refine lv_if_eq (tgt := 17) hx hb dX11_end_4 (by decide) (fun c_2 => absurd c_2 (by decide)) (fun c_2 => ?_)
  refine lv_iload_n hx hb dX11_end_7 rfl (lv_at hl 2 rfl) ?_
  refine lv_if_lt (tgt := 17) hx hb dX11_end_8 (by decide) (fun c_3 => absurd c_3 (by decide)) (fun c_3 => ?_)
  refine lv_iload_n hx hb dX11_end_11 rfl (lv_at hl 2 rfl) ?_
  refine lv_bipush (v := 17) hx hb dX11_end_12 (by decide) ?_
  refine lv_icmp_le (tgt := 19) hx hb dX11_end_14 (by decide) (fun c_4 => ?_) (fun c_4 => absurd (by decide) c_4)
  refine lv_aload_n hx hb dX11_end_19 rfl (lv_at hl 0 rfl) ?_
  refine gf_X11_26 E hT_1 hW ha0 dX11_end_20 (fun h_5 => ?_)
  refine lv_iload_n hx hb dX11_end_23 rfl (lv_at hl 1 rfl) ?_
  refine th_Vr (As := [.int 0]) (rest := []) E hml hl.1 (c_X4_endpoint l D cI cS τ ρ hW H hT_1 (ρ a0 2) h_5) lk_X11_68 yd_X4_endpoint hT_1 h_5 rfl (by decide) hS_1 (fun _ h => h.elim) ⟨by decide, by decide⟩ (Nat.le_of_ble_eq_true rfl) ⟨by decide, by decide⟩ rfl dX11_end_24 (fun r_6 H_6 locs_6 p_6 hT_6 hk_6 hS_6 => ?_)
  have p_6 : H = H_6 ∧ ρ (ρ a0 2) 3 = r_6 := p_6
  obtain ⟨rfl, rfl⟩ := p_6
  have h_6 : τ (ρ (ρ a0 2) 3) = some 2 := hW _ 4 3 h_5 (by decide) (by decide) (by decide)
  refine lv_iload_n hx hb dX11_end_27 rfl (lv_at hl 2 rfl) ?_
  refine th_Vi (As := [.int 6]) (rest := []) E hml hl.1 (c_X2_value_v7 l D cI cS τ ρ hW H hT_6 (ρ (ρ a0 2) 3) h_6 hf_1) lk_X11_204 yd_X2_value hT_6 h_6 rfl (by decide) hS_6 (fun _ h => h.elim) ⟨by decide, by decide⟩ (Nat.le_of_ble_eq_true rfl) ⟨by decide, by decide⟩ rfl dX11_end_28 (fun r_7 H_7 locs_7 p_7 hT_7 hk_7 hS_7 => ?_)
  have p_7 : H = H_7 ∧ 1 = r_7 := p_7
  obtain ⟨rfl, rfl⟩ := p_7
  exact th_iret E hr hlk hs hT_7 hS_7 ⟨rfl, rfl⟩ dX11_end_31
set_option maxHeartbeats 4000000 in
set_option maxRecDepth 100000 in
/-- StreamEnds$Endpoint.value -/
theorem c_X2_value_v8 (l : Launch) (D : va_G) (cI cS : ClassId) (τ : Nat → Option Nat) (ρ : Nat → Nat → Nat) (hW : WF τ ρ) (H : Heap) (hT : TH D cI cS τ ρ H) (a0 : Nat) (ha0 : τ a0 = some 2) (hf_1 : fi D 3 2 H (ρ a0 5) = 13) : MI l D cI cS τ ρ yX2_value cX2_value 2 (some .int) 0 0 H [.ref a0, .int 7] (fun (r : Int32) (u : Heap) => H = u ∧ 13 = r) (fun q => False) := by
  refine MI.of (by decide) (Nat.le_of_ble_eq_true rfl) ?_
  intro p e s m args below meth c E hml hr hlk hs ls hl
  have hx := E.1
  have hb := E.2.1
  have hown := E.2.2.1
  have hts := E.2.2.2.1
  have hS : SS (fun q => False) H H [] := SS.rf
  have hl : lv_has ls 2 [(0, .ref a0), (1, .int 7)] := hl
  refine lv_iload_n hx hb dX2_value_0 rfl (lv_at hl 1 rfl) ?_
  refine lv_tableIn (tgt := 137) hx hb dX2_value_1 (by decide) (by decide) rfl (by decide) ?_
  refine lv_aload_n hx hb dX2_value_137 rfl (lv_at hl 0 rfl) ?_
  refine gf_X2_21 E hT hW ha0 dX2_value_138 (fun h_1 => ?_)
  refine gf_X2_144 E hT h_1 dX2_value_141 ?_
  refine th_topi (y := 13) hf_1 ?_
  exact th_iret E hr hlk hs hT hS ⟨rfl, rfl⟩ dX2_value_144
set_option maxHeartbeats 4000000 in
set_option maxRecDepth 100000 in
/-- StreamEnds.end -/
theorem c_X11_end_v11 (l : Launch) (D : va_G) (cI cS : ClassId) (τ : Nat → Option Nat) (ρ : Nat → Nat → Nat) (hW : WF τ ρ) (H : Heap) (hT : TH D cI cS τ ρ H) (a0 : Nat) (ha0 : τ a0 = some 11) (hf_1 : fi D 3 2 H (ρ (ρ (ρ a0 2) 3) 5) = 13) : MI l D cI cS τ ρ yX11_end cX11_end 3 (some .int) 1 21 H [.ref a0, .int 0, .int 7] (fun (r : Int32) (u : Heap) => H = u ∧ 13 = r) (fun q => False) := by
  refine MI.of (by decide) (Nat.le_of_ble_eq_true rfl) ?_
  intro p e s m args below meth c E hml hr hlk hs ls hl
  have hx := E.1
  have hb := E.2.1
  have hown := E.2.2.1
  have hts := E.2.2.2.1
  have hS : SS (fun q => False) H H [] := SS.rf
  have hl : lv_has ls 3 [(0, .ref a0), (1, .int 0), (2, .int 7)] := hl
  refine lv_iload_n hx hb dX11_end_0 rfl (lv_at hl 1 rfl) ?_
  refine th_Si (As := [.int 0]) (rest := []) E hml hl.1 (c_X11_isEnd_v3 l D cI cS τ ρ hW H hT) lk_X11_65 yd_X11_isEnd hS (fun _ h => h.elim) ⟨by decide, by decide⟩ (Nat.le_of_ble_eq_true rfl) ⟨by decide, by decide⟩ rfl dX11_end_1 (fun r_1 H_1 locs_1 p_1 hT_1 hk_1 hS_1 => ?_)
  have p_1 : H = H_1 ∧ 1 = r_1 := p_1
  obtain ⟨rfl, rfl⟩ := p_1
  refine lv_if_eq (tgt := 17) hx hb dX11_end_4 (by decide) (fun c_2 => absurd c_2 (by decide)) (fun c_2 => ?_)
  refine lv_iload_n hx hb dX11_end_7 rfl (lv_at hl 2 rfl) ?_
  refine lv_if_lt (tgt := 17) hx hb dX11_end_8 (by decide) (fun c_3 => absurd c_3 (by decide)) (fun c_3 => ?_)
  refine lv_iload_n hx hb dX11_end_11 rfl (lv_at hl 2 rfl) ?_
  refine lv_bipush (v := 17) hx hb dX11_end_12 (by decide) ?_
  refine lv_icmp_le (tgt := 19) hx hb dX11_end_14 (by decide) (fun c_4 => ?_) (fun c_4 => absurd (by decide) c_4)
  refine lv_aload_n hx hb dX11_end_19 rfl (lv_at hl 0 rfl) ?_
  refine gf_X11_26 E hT_1 hW ha0 dX11_end_20 (fun h_5 => ?_)
  refine lv_iload_n hx hb dX11_end_23 rfl (lv_at hl 1 rfl) ?_
  refine th_Vr (As := [.int 0]) (rest := []) E hml hl.1 (c_X4_endpoint l D cI cS τ ρ hW H hT_1 (ρ a0 2) h_5) lk_X11_68 yd_X4_endpoint hT_1 h_5 rfl (by decide) hS_1 (fun _ h => h.elim) ⟨by decide, by decide⟩ (Nat.le_of_ble_eq_true rfl) ⟨by decide, by decide⟩ rfl dX11_end_24 (fun r_6 H_6 locs_6 p_6 hT_6 hk_6 hS_6 => ?_)
  have p_6 : H = H_6 ∧ ρ (ρ a0 2) 3 = r_6 := p_6
  obtain ⟨rfl, rfl⟩ := p_6
  have h_6 : τ (ρ (ρ a0 2) 3) = some 2 := hW _ 4 3 h_5 (by decide) (by decide) (by decide)
  refine lv_iload_n hx hb dX11_end_27 rfl (lv_at hl 2 rfl) ?_
  refine th_Vi (As := [.int 7]) (rest := []) E hml hl.1 (c_X2_value_v8 l D cI cS τ ρ hW H hT_6 (ρ (ρ a0 2) 3) h_6 hf_1) lk_X11_204 yd_X2_value hT_6 h_6 rfl (by decide) hS_6 (fun _ h => h.elim) ⟨by decide, by decide⟩ (Nat.le_of_ble_eq_true rfl) ⟨by decide, by decide⟩ rfl dX11_end_28 (fun r_7 H_7 locs_7 p_7 hT_7 hk_7 hS_7 => ?_)
  have p_7 : H = H_7 ∧ 13 = r_7 := p_7
  obtain ⟨rfl, rfl⟩ := p_7
  exact th_iret E hr hlk hs hT_7 hS_7 ⟨rfl, rfl⟩ dX11_end_31
set_option maxHeartbeats 4000000 in
set_option maxRecDepth 100000 in
/-- StreamEnds$Endpoint.value -/
theorem c_X2_value_v9 (l : Launch) (D : va_G) (cI cS : ClassId) (τ : Nat → Option Nat) (ρ : Nat → Nat → Nat) (hW : WF τ ρ) (H : Heap) (hT : TH D cI cS τ ρ H) (a0 : Nat) (ha0 : τ a0 = some 2) (hf_1 : fi D 7 0 H (ρ a0 6) = 6) : MI l D cI cS τ ρ yX2_value cX2_value 2 (some .int) 0 0 H [.ref a0, .int 8] (fun (r : Int32) (u : Heap) => H = u ∧ 6 = r) (fun q => False) := by
  refine MI.of (by decide) (Nat.le_of_ble_eq_true rfl) ?_
  intro p e s m args below meth c E hml hr hlk hs ls hl
  have hx := E.1
  have hb := E.2.1
  have hown := E.2.2.1
  have hts := E.2.2.2.1
  have hS : SS (fun q => False) H H [] := SS.rf
  have hl : lv_has ls 2 [(0, .ref a0), (1, .int 8)] := hl
  refine lv_iload_n hx hb dX2_value_0 rfl (lv_at hl 1 rfl) ?_
  refine lv_tableIn (tgt := 145) hx hb dX2_value_1 (by decide) (by decide) rfl (by decide) ?_
  refine lv_aload_n hx hb dX2_value_145 rfl (lv_at hl 0 rfl) ?_
  refine gf_X2_28 E hT hW ha0 dX2_value_146 (fun h_1 => ?_)
  refine gf_X2_106 E hT h_1 dX2_value_149 ?_
  refine th_topi (y := 6) hf_1 ?_
  exact th_iret E hr hlk hs hT hS ⟨rfl, rfl⟩ dX2_value_152
set_option maxHeartbeats 4000000 in
set_option maxRecDepth 100000 in
/-- StreamEnds.end -/
theorem c_X11_end_v12 (l : Launch) (D : va_G) (cI cS : ClassId) (τ : Nat → Option Nat) (ρ : Nat → Nat → Nat) (hW : WF τ ρ) (H : Heap) (hT : TH D cI cS τ ρ H) (a0 : Nat) (ha0 : τ a0 = some 11) (hf_1 : fi D 7 0 H (ρ (ρ (ρ a0 2) 3) 6) = 6) : MI l D cI cS τ ρ yX11_end cX11_end 3 (some .int) 1 21 H [.ref a0, .int 0, .int 8] (fun (r : Int32) (u : Heap) => H = u ∧ 6 = r) (fun q => False) := by
  refine MI.of (by decide) (Nat.le_of_ble_eq_true rfl) ?_
  intro p e s m args below meth c E hml hr hlk hs ls hl
  have hx := E.1
  have hb := E.2.1
  have hown := E.2.2.1
  have hts := E.2.2.2.1
  have hS : SS (fun q => False) H H [] := SS.rf
  have hl : lv_has ls 3 [(0, .ref a0), (1, .int 0), (2, .int 8)] := hl
  refine lv_iload_n hx hb dX11_end_0 rfl (lv_at hl 1 rfl) ?_
  refine th_Si (As := [.int 0]) (rest := []) E hml hl.1 (c_X11_isEnd_v3 l D cI cS τ ρ hW H hT) lk_X11_65 yd_X11_isEnd hS (fun _ h => h.elim) ⟨by decide, by decide⟩ (Nat.le_of_ble_eq_true rfl) ⟨by decide, by decide⟩ rfl dX11_end_1 (fun r_1 H_1 locs_1 p_1 hT_1 hk_1 hS_1 => ?_)
  have p_1 : H = H_1 ∧ 1 = r_1 := p_1
  obtain ⟨rfl, rfl⟩ := p_1
  refine lv_if_eq (tgt := 17) hx hb dX11_end_4 (by decide) (fun c_2 => absurd c_2 (by decide)) (fun c_2 => ?_)
  refine lv_iload_n hx hb dX11_end_7 rfl (lv_at hl 2 rfl) ?_
  refine lv_if_lt (tgt := 17) hx hb dX11_end_8 (by decide) (fun c_3 => absurd c_3 (by decide)) (fun c_3 => ?_)
  refine lv_iload_n hx hb dX11_end_11 rfl (lv_at hl 2 rfl) ?_
  refine lv_bipush (v := 17) hx hb dX11_end_12 (by decide) ?_
  refine lv_icmp_le (tgt := 19) hx hb dX11_end_14 (by decide) (fun c_4 => ?_) (fun c_4 => absurd (by decide) c_4)
  refine lv_aload_n hx hb dX11_end_19 rfl (lv_at hl 0 rfl) ?_
  refine gf_X11_26 E hT_1 hW ha0 dX11_end_20 (fun h_5 => ?_)
  refine lv_iload_n hx hb dX11_end_23 rfl (lv_at hl 1 rfl) ?_
  refine th_Vr (As := [.int 0]) (rest := []) E hml hl.1 (c_X4_endpoint l D cI cS τ ρ hW H hT_1 (ρ a0 2) h_5) lk_X11_68 yd_X4_endpoint hT_1 h_5 rfl (by decide) hS_1 (fun _ h => h.elim) ⟨by decide, by decide⟩ (Nat.le_of_ble_eq_true rfl) ⟨by decide, by decide⟩ rfl dX11_end_24 (fun r_6 H_6 locs_6 p_6 hT_6 hk_6 hS_6 => ?_)
  have p_6 : H = H_6 ∧ ρ (ρ a0 2) 3 = r_6 := p_6
  obtain ⟨rfl, rfl⟩ := p_6
  have h_6 : τ (ρ (ρ a0 2) 3) = some 2 := hW _ 4 3 h_5 (by decide) (by decide) (by decide)
  refine lv_iload_n hx hb dX11_end_27 rfl (lv_at hl 2 rfl) ?_
  refine th_Vi (As := [.int 8]) (rest := []) E hml hl.1 (c_X2_value_v9 l D cI cS τ ρ hW H hT_6 (ρ (ρ a0 2) 3) h_6 hf_1) lk_X11_204 yd_X2_value hT_6 h_6 rfl (by decide) hS_6 (fun _ h => h.elim) ⟨by decide, by decide⟩ (Nat.le_of_ble_eq_true rfl) ⟨by decide, by decide⟩ rfl dX11_end_28 (fun r_7 H_7 locs_7 p_7 hT_7 hk_7 hS_7 => ?_)
  have p_7 : H = H_7 ∧ 6 = r_7 := p_7
  obtain ⟨rfl, rfl⟩ := p_7
  exact th_iret E hr hlk hs hT_7 hS_7 ⟨rfl, rfl⟩ dX11_end_31
set_option maxHeartbeats 4000000 in
set_option maxRecDepth 100000 in
/-- StreamEnds$Endpoint.value -/
theorem c_X2_value_v10 (l : Launch) (D : va_G) (cI cS : ClassId) (τ : Nat → Option Nat) (ρ : Nat → Nat → Nat) (hW : WF τ ρ) (H : Heap) (hT : TH D cI cS τ ρ H) (a0 : Nat) (ha0 : τ a0 = some 2) (hf_1 : fi D 7 1 H (ρ a0 6) = 0) : MI l D cI cS τ ρ yX2_value cX2_value 2 (some .int) 0 0 H [.ref a0, .int 9] (fun (r : Int32) (u : Heap) => H = u ∧ 0 = r) (fun q => False) := by
  refine MI.of (by decide) (Nat.le_of_ble_eq_true rfl) ?_
  intro p e s m args below meth c E hml hr hlk hs ls hl
  have hx := E.1
  have hb := E.2.1
  have hown := E.2.2.1
  have hts := E.2.2.2.1
  have hS : SS (fun q => False) H H [] := SS.rf
  have hl : lv_has ls 2 [(0, .ref a0), (1, .int 9)] := hl
  refine lv_iload_n hx hb dX2_value_0 rfl (lv_at hl 1 rfl) ?_
  refine lv_tableIn (tgt := 153) hx hb dX2_value_1 (by decide) (by decide) rfl (by decide) ?_
  refine lv_aload_n hx hb dX2_value_153 rfl (lv_at hl 0 rfl) ?_
  refine gf_X2_28 E hT hW ha0 dX2_value_154 (fun h_1 => ?_)
  refine gf_X2_247 E hT h_1 dX2_value_157 ?_
  refine th_topi (y := 0) hf_1 ?_
  exact th_iret E hr hlk hs hT hS ⟨rfl, rfl⟩ dX2_value_160
set_option maxHeartbeats 4000000 in
set_option maxRecDepth 100000 in
/-- StreamEnds.end -/
theorem c_X11_end_v13 (l : Launch) (D : va_G) (cI cS : ClassId) (τ : Nat → Option Nat) (ρ : Nat → Nat → Nat) (hW : WF τ ρ) (H : Heap) (hT : TH D cI cS τ ρ H) (a0 : Nat) (ha0 : τ a0 = some 11) (hf_1 : fi D 7 1 H (ρ (ρ (ρ a0 2) 3) 6) = 0) : MI l D cI cS τ ρ yX11_end cX11_end 3 (some .int) 1 21 H [.ref a0, .int 0, .int 9] (fun (r : Int32) (u : Heap) => H = u ∧ 0 = r) (fun q => False) := by
  refine MI.of (by decide) (Nat.le_of_ble_eq_true rfl) ?_
  intro p e s m args below meth c E hml hr hlk hs ls hl
  have hx := E.1
  have hb := E.2.1
  have hown := E.2.2.1
  have hts := E.2.2.2.1
  have hS : SS (fun q => False) H H [] := SS.rf
  have hl : lv_has ls 3 [(0, .ref a0), (1, .int 0), (2, .int 9)] := hl
  refine lv_iload_n hx hb dX11_end_0 rfl (lv_at hl 1 rfl) ?_
  refine th_Si (As := [.int 0]) (rest := []) E hml hl.1 (c_X11_isEnd_v3 l D cI cS τ ρ hW H hT) lk_X11_65 yd_X11_isEnd hS (fun _ h => h.elim) ⟨by decide, by decide⟩ (Nat.le_of_ble_eq_true rfl) ⟨by decide, by decide⟩ rfl dX11_end_1 (fun r_1 H_1 locs_1 p_1 hT_1 hk_1 hS_1 => ?_)
  have p_1 : H = H_1 ∧ 1 = r_1 := p_1
  obtain ⟨rfl, rfl⟩ := p_1
  refine lv_if_eq (tgt := 17) hx hb dX11_end_4 (by decide) (fun c_2 => absurd c_2 (by decide)) (fun c_2 => ?_)
  refine lv_iload_n hx hb dX11_end_7 rfl (lv_at hl 2 rfl) ?_
  refine lv_if_lt (tgt := 17) hx hb dX11_end_8 (by decide) (fun c_3 => absurd c_3 (by decide)) (fun c_3 => ?_)
  refine lv_iload_n hx hb dX11_end_11 rfl (lv_at hl 2 rfl) ?_
  refine lv_bipush (v := 17) hx hb dX11_end_12 (by decide) ?_
  refine lv_icmp_le (tgt := 19) hx hb dX11_end_14 (by decide) (fun c_4 => ?_) (fun c_4 => absurd (by decide) c_4)
  refine lv_aload_n hx hb dX11_end_19 rfl (lv_at hl 0 rfl) ?_
  refine gf_X11_26 E hT_1 hW ha0 dX11_end_20 (fun h_5 => ?_)
  refine lv_iload_n hx hb dX11_end_23 rfl (lv_at hl 1 rfl) ?_
  refine th_Vr (As := [.int 0]) (rest := []) E hml hl.1 (c_X4_endpoint l D cI cS τ ρ hW H hT_1 (ρ a0 2) h_5) lk_X11_68 yd_X4_endpoint hT_1 h_5 rfl (by decide) hS_1 (fun _ h => h.elim) ⟨by decide, by decide⟩ (Nat.le_of_ble_eq_true rfl) ⟨by decide, by decide⟩ rfl dX11_end_24 (fun r_6 H_6 locs_6 p_6 hT_6 hk_6 hS_6 => ?_)
  have p_6 : H = H_6 ∧ ρ (ρ a0 2) 3 = r_6 := p_6
  obtain ⟨rfl, rfl⟩ := p_6
  have h_6 : τ (ρ (ρ a0 2) 3) = some 2 := hW _ 4 3 h_5 (by decide) (by decide) (by decide)
  refine lv_iload_n hx hb dX11_end_27 rfl (lv_at hl 2 rfl) ?_
  refine th_Vi (As := [.int 9]) (rest := []) E hml hl.1 (c_X2_value_v10 l D cI cS τ ρ hW H hT_6 (ρ (ρ a0 2) 3) h_6 hf_1) lk_X11_204 yd_X2_value hT_6 h_6 rfl (by decide) hS_6 (fun _ h => h.elim) ⟨by decide, by decide⟩ (Nat.le_of_ble_eq_true rfl) ⟨by decide, by decide⟩ rfl dX11_end_28 (fun r_7 H_7 locs_7 p_7 hT_7 hk_7 hS_7 => ?_)
  have p_7 : H = H_7 ∧ 0 = r_7 := p_7
  obtain ⟨rfl, rfl⟩ := p_7
  exact th_iret E hr hlk hs hT_7 hS_7 ⟨rfl, rfl⟩ dX11_end_31
set_option maxHeartbeats 4000000 in
set_option maxRecDepth 100000 in
/-- StreamEnds$Endpoint.value -/
theorem c_X2_value_v11 (l : Launch) (D : va_G) (cI cS : ClassId) (τ : Nat → Option Nat) (ρ : Nat → Nat → Nat) (hW : WF τ ρ) (H : Heap) (hT : TH D cI cS τ ρ H) (a0 : Nat) (ha0 : τ a0 = some 2) (hf_1 : fi D 7 2 H (ρ a0 6) = 0) : MI l D cI cS τ ρ yX2_value cX2_value 2 (some .int) 0 0 H [.ref a0, .int 10] (fun (r : Int32) (u : Heap) => H = u ∧ 0 = r) (fun q => False) := by
  refine MI.of (by decide) (Nat.le_of_ble_eq_true rfl) ?_
  intro p e s m args below meth c E hml hr hlk hs ls hl
  have hx := E.1
  have hb := E.2.1
  have hown := E.2.2.1
  have hts := E.2.2.2.1
  have hS : SS (fun q => False) H H [] := SS.rf
  have hl : lv_has ls 2 [(0, .ref a0), (1, .int 10)] := hl
  refine lv_iload_n hx hb dX2_value_0 rfl (lv_at hl 1 rfl) ?_
  refine lv_tableIn (tgt := 161) hx hb dX2_value_1 (by decide) (by decide) rfl (by decide) ?_
  refine lv_aload_n hx hb dX2_value_161 rfl (lv_at hl 0 rfl) ?_
  refine gf_X2_28 E hT hW ha0 dX2_value_162 (fun h_1 => ?_)
  refine gf_X2_250 E hT h_1 dX2_value_165 ?_
  refine th_topi (y := 0) hf_1 ?_
  exact th_iret E hr hlk hs hT hS ⟨rfl, rfl⟩ dX2_value_168
set_option maxHeartbeats 4000000 in
set_option maxRecDepth 100000 in
/-- StreamEnds.end -/
theorem c_X11_end_v14 (l : Launch) (D : va_G) (cI cS : ClassId) (τ : Nat → Option Nat) (ρ : Nat → Nat → Nat) (hW : WF τ ρ) (H : Heap) (hT : TH D cI cS τ ρ H) (a0 : Nat) (ha0 : τ a0 = some 11) (hf_1 : fi D 7 2 H (ρ (ρ (ρ a0 2) 3) 6) = 0) : MI l D cI cS τ ρ yX11_end cX11_end 3 (some .int) 1 21 H [.ref a0, .int 0, .int 10] (fun (r : Int32) (u : Heap) => H = u ∧ 0 = r) (fun q => False) := by
  refine MI.of (by decide) (Nat.le_of_ble_eq_true rfl) ?_
  intro p e s m args below meth c E hml hr hlk hs ls hl
  have hx := E.1
  have hb := E.2.1
  have hown := E.2.2.1
  have hts := E.2.2.2.1
  have hS : SS (fun q => False) H H [] := SS.rf
  have hl : lv_has ls 3 [(0, .ref a0), (1, .int 0), (2, .int 10)] := hl
  refine lv_iload_n hx hb dX11_end_0 rfl (lv_at hl 1 rfl) ?_
  refine th_Si (As := [.int 0]) (rest := []) E hml hl.1 (c_X11_isEnd_v3 l D cI cS τ ρ hW H hT) lk_X11_65 yd_X11_isEnd hS (fun _ h => h.elim) ⟨by decide, by decide⟩ (Nat.le_of_ble_eq_true rfl) ⟨by decide, by decide⟩ rfl dX11_end_1 (fun r_1 H_1 locs_1 p_1 hT_1 hk_1 hS_1 => ?_)
  have p_1 : H = H_1 ∧ 1 = r_1 := p_1
  obtain ⟨rfl, rfl⟩ := p_1
  refine lv_if_eq (tgt := 17) hx hb dX11_end_4 (by decide) (fun c_2 => absurd c_2 (by decide)) (fun c_2 => ?_)
  refine lv_iload_n hx hb dX11_end_7 rfl (lv_at hl 2 rfl) ?_
  refine lv_if_lt (tgt := 17) hx hb dX11_end_8 (by decide) (fun c_3 => absurd c_3 (by decide)) (fun c_3 => ?_)
  refine lv_iload_n hx hb dX11_end_11 rfl (lv_at hl 2 rfl) ?_
  refine lv_bipush (v := 17) hx hb dX11_end_12 (by decide) ?_
  refine lv_icmp_le (tgt := 19) hx hb dX11_end_14 (by decide) (fun c_4 => ?_) (fun c_4 => absurd (by decide) c_4)
  refine lv_aload_n hx hb dX11_end_19 rfl (lv_at hl 0 rfl) ?_
  refine gf_X11_26 E hT_1 hW ha0 dX11_end_20 (fun h_5 => ?_)
  refine lv_iload_n hx hb dX11_end_23 rfl (lv_at hl 1 rfl) ?_
  refine th_Vr (As := [.int 0]) (rest := []) E hml hl.1 (c_X4_endpoint l D cI cS τ ρ hW H hT_1 (ρ a0 2) h_5) lk_X11_68 yd_X4_endpoint hT_1 h_5 rfl (by decide) hS_1 (fun _ h => h.elim) ⟨by decide, by decide⟩ (Nat.le_of_ble_eq_true rfl) ⟨by decide, by decide⟩ rfl dX11_end_24 (fun r_6 H_6 locs_6 p_6 hT_6 hk_6 hS_6 => ?_)
  have p_6 : H = H_6 ∧ ρ (ρ a0 2) 3 = r_6 := p_6
  obtain ⟨rfl, rfl⟩ := p_6
  have h_6 : τ (ρ (ρ a0 2) 3) = some 2 := hW _ 4 3 h_5 (by decide) (by decide) (by decide)
  refine lv_iload_n hx hb dX11_end_27 rfl (lv_at hl 2 rfl) ?_
  refine th_Vi (As := [.int 10]) (rest := []) E hml hl.1 (c_X2_value_v11 l D cI cS τ ρ hW H hT_6 (ρ (ρ a0 2) 3) h_6 hf_1) lk_X11_204 yd_X2_value hT_6 h_6 rfl (by decide) hS_6 (fun _ h => h.elim) ⟨by decide, by decide⟩ (Nat.le_of_ble_eq_true rfl) ⟨by decide, by decide⟩ rfl dX11_end_28 (fun r_7 H_7 locs_7 p_7 hT_7 hk_7 hS_7 => ?_)
  have p_7 : H = H_7 ∧ 0 = r_7 := p_7
  obtain ⟨rfl, rfl⟩ := p_7
  exact th_iret E hr hlk hs hT_7 hS_7 ⟨rfl, rfl⟩ dX11_end_31
set_option maxHeartbeats 4000000 in
set_option maxRecDepth 100000 in
/-- StreamEnds$Endpoint.value -/
theorem c_X2_value_v12 (l : Launch) (D : va_G) (cI cS : ClassId) (τ : Nat → Option Nat) (ρ : Nat → Nat → Nat) (hW : WF τ ρ) (H : Heap) (hT : TH D cI cS τ ρ H) (a0 : Nat) (ha0 : τ a0 = some 2) (hf_1 : fi D 2 8 H a0 = 0) : MI l D cI cS τ ρ yX2_value cX2_value 2 (some .int) 0 0 H [.ref a0, .int 11] (fun (r : Int32) (u : Heap) => H = u ∧ 0 = r) (fun q => False) := by
  refine MI.of (by decide) (Nat.le_of_ble_eq_true rfl) ?_
  intro p e s m args below meth c E hml hr hlk hs ls hl
  have hx := E.1
  have hb := E.2.1
  have hown := E.2.2.1
  have hts := E.2.2.2.1
  have hS : SS (fun q => False) H H [] := SS.rf
  have hl : lv_has ls 2 [(0, .ref a0), (1, .int 11)] := hl
  refine lv_iload_n hx hb dX2_value_0 rfl (lv_at hl 1 rfl) ?_
  refine lv_tableIn (tgt := 169) hx hb dX2_value_1 (by decide) (by decide) rfl (by decide) ?_
  refine lv_aload_n hx hb dX2_value_169 rfl (lv_at hl 0 rfl) ?_
  refine gf_X2_66 E hT ha0 dX2_value_170 ?_
  refine th_topi (y := 0) hf_1 ?_
  exact th_iret E hr hlk hs hT hS ⟨rfl, rfl⟩ dX2_value_173
set_option maxHeartbeats 4000000 in
set_option maxRecDepth 100000 in
/-- StreamEnds.end -/
theorem c_X11_end_v15 (l : Launch) (D : va_G) (cI cS : ClassId) (τ : Nat → Option Nat) (ρ : Nat → Nat → Nat) (hW : WF τ ρ) (H : Heap) (hT : TH D cI cS τ ρ H) (a0 : Nat) (ha0 : τ a0 = some 11) (hf_1 : fi D 2 8 H (ρ (ρ a0 2) 3) = 0) : MI l D cI cS τ ρ yX11_end cX11_end 3 (some .int) 1 21 H [.ref a0, .int 0, .int 11] (fun (r : Int32) (u : Heap) => H = u ∧ 0 = r) (fun q => False) := by
  refine MI.of (by decide) (Nat.le_of_ble_eq_true rfl) ?_
  intro p e s m args below meth c E hml hr hlk hs ls hl
  have hx := E.1
  have hb := E.2.1
  have hown := E.2.2.1
  have hts := E.2.2.2.1
  have hS : SS (fun q => False) H H [] := SS.rf
  have hl : lv_has ls 3 [(0, .ref a0), (1, .int 0), (2, .int 11)] := hl
  refine lv_iload_n hx hb dX11_end_0 rfl (lv_at hl 1 rfl) ?_
  refine th_Si (As := [.int 0]) (rest := []) E hml hl.1 (c_X11_isEnd_v3 l D cI cS τ ρ hW H hT) lk_X11_65 yd_X11_isEnd hS (fun _ h => h.elim) ⟨by decide, by decide⟩ (Nat.le_of_ble_eq_true rfl) ⟨by decide, by decide⟩ rfl dX11_end_1 (fun r_1 H_1 locs_1 p_1 hT_1 hk_1 hS_1 => ?_)
  have p_1 : H = H_1 ∧ 1 = r_1 := p_1
  obtain ⟨rfl, rfl⟩ := p_1
  refine lv_if_eq (tgt := 17) hx hb dX11_end_4 (by decide) (fun c_2 => absurd c_2 (by decide)) (fun c_2 => ?_)
  refine lv_iload_n hx hb dX11_end_7 rfl (lv_at hl 2 rfl) ?_
  refine lv_if_lt (tgt := 17) hx hb dX11_end_8 (by decide) (fun c_3 => absurd c_3 (by decide)) (fun c_3 => ?_)
  refine lv_iload_n hx hb dX11_end_11 rfl (lv_at hl 2 rfl) ?_
  refine lv_bipush (v := 17) hx hb dX11_end_12 (by decide) ?_
  refine lv_icmp_le (tgt := 19) hx hb dX11_end_14 (by decide) (fun c_4 => ?_) (fun c_4 => absurd (by decide) c_4)
  refine lv_aload_n hx hb dX11_end_19 rfl (lv_at hl 0 rfl) ?_
  refine gf_X11_26 E hT_1 hW ha0 dX11_end_20 (fun h_5 => ?_)
  refine lv_iload_n hx hb dX11_end_23 rfl (lv_at hl 1 rfl) ?_
  refine th_Vr (As := [.int 0]) (rest := []) E hml hl.1 (c_X4_endpoint l D cI cS τ ρ hW H hT_1 (ρ a0 2) h_5) lk_X11_68 yd_X4_endpoint hT_1 h_5 rfl (by decide) hS_1 (fun _ h => h.elim) ⟨by decide, by decide⟩ (Nat.le_of_ble_eq_true rfl) ⟨by decide, by decide⟩ rfl dX11_end_24 (fun r_6 H_6 locs_6 p_6 hT_6 hk_6 hS_6 => ?_)
  have p_6 : H = H_6 ∧ ρ (ρ a0 2) 3 = r_6 := p_6
  obtain ⟨rfl, rfl⟩ := p_6
  have h_6 : τ (ρ (ρ a0 2) 3) = some 2 := hW _ 4 3 h_5 (by decide) (by decide) (by decide)
  refine lv_iload_n hx hb dX11_end_27 rfl (lv_at hl 2 rfl) ?_
  refine th_Vi (As := [.int 11]) (rest := []) E hml hl.1 (c_X2_value_v12 l D cI cS τ ρ hW H hT_6 (ρ (ρ a0 2) 3) h_6 hf_1) lk_X11_204 yd_X2_value hT_6 h_6 rfl (by decide) hS_6 (fun _ h => h.elim) ⟨by decide, by decide⟩ (Nat.le_of_ble_eq_true rfl) ⟨by decide, by decide⟩ rfl dX11_end_28 (fun r_7 H_7 locs_7 p_7 hT_7 hk_7 hS_7 => ?_)
  have p_7 : H = H_7 ∧ 0 = r_7 := p_7
  obtain ⟨rfl, rfl⟩ := p_7
  exact th_iret E hr hlk hs hT_7 hS_7 ⟨rfl, rfl⟩ dX11_end_31
set_option maxHeartbeats 4000000 in
set_option maxRecDepth 100000 in
/-- StreamEnds$Endpoint.value -/
theorem c_X2_value_v13 (l : Launch) (D : va_G) (cI cS : ClassId) (τ : Nat → Option Nat) (ρ : Nat → Nat → Nat) (hW : WF τ ρ) (H : Heap) (hT : TH D cI cS τ ρ H) (a0 : Nat) (ha0 : τ a0 = some 2) (hf_1 : fi D 2 9 H a0 = 0) : MI l D cI cS τ ρ yX2_value cX2_value 2 (some .int) 0 0 H [.ref a0, .int 12] (fun (r : Int32) (u : Heap) => H = u ∧ 0 = r) (fun q => False) := by
  refine MI.of (by decide) (Nat.le_of_ble_eq_true rfl) ?_
  intro p e s m args below meth c E hml hr hlk hs ls hl
  have hx := E.1
  have hb := E.2.1
  have hown := E.2.2.1
  have hts := E.2.2.2.1
  have hS : SS (fun q => False) H H [] := SS.rf
  have hl : lv_has ls 2 [(0, .ref a0), (1, .int 12)] := hl
  refine lv_iload_n hx hb dX2_value_0 rfl (lv_at hl 1 rfl) ?_
  refine lv_tableIn (tgt := 174) hx hb dX2_value_1 (by decide) (by decide) rfl (by decide) ?_
  refine lv_aload_n hx hb dX2_value_174 rfl (lv_at hl 0 rfl) ?_
  refine gf_X2_69 E hT ha0 dX2_value_175 ?_
  refine th_topi (y := 0) hf_1 ?_
  exact th_iret E hr hlk hs hT hS ⟨rfl, rfl⟩ dX2_value_178
set_option maxHeartbeats 4000000 in
set_option maxRecDepth 100000 in
/-- StreamEnds.end -/
theorem c_X11_end_v16 (l : Launch) (D : va_G) (cI cS : ClassId) (τ : Nat → Option Nat) (ρ : Nat → Nat → Nat) (hW : WF τ ρ) (H : Heap) (hT : TH D cI cS τ ρ H) (a0 : Nat) (ha0 : τ a0 = some 11) (hf_1 : fi D 2 9 H (ρ (ρ a0 2) 3) = 0) : MI l D cI cS τ ρ yX11_end cX11_end 3 (some .int) 1 21 H [.ref a0, .int 0, .int 12] (fun (r : Int32) (u : Heap) => H = u ∧ 0 = r) (fun q => False) := by
  refine MI.of (by decide) (Nat.le_of_ble_eq_true rfl) ?_
  intro p e s m args below meth c E hml hr hlk hs ls hl
  have hx := E.1
  have hb := E.2.1
  have hown := E.2.2.1
  have hts := E.2.2.2.1
  have hS : SS (fun q => False) H H [] := SS.rf
  have hl : lv_has ls 3 [(0, .ref a0), (1, .int 0), (2, .int 12)] := hl
  refine lv_iload_n hx hb dX11_end_0 rfl (lv_at hl 1 rfl) ?_
  refine th_Si (As := [.int 0]) (rest := []) E hml hl.1 (c_X11_isEnd_v3 l D cI cS τ ρ hW H hT) lk_X11_65 yd_X11_isEnd hS (fun _ h => h.elim) ⟨by decide, by decide⟩ (Nat.le_of_ble_eq_true rfl) ⟨by decide, by decide⟩ rfl dX11_end_1 (fun r_1 H_1 locs_1 p_1 hT_1 hk_1 hS_1 => ?_)
  have p_1 : H = H_1 ∧ 1 = r_1 := p_1
  obtain ⟨rfl, rfl⟩ := p_1
  refine lv_if_eq (tgt := 17) hx hb dX11_end_4 (by decide) (fun c_2 => absurd c_2 (by decide)) (fun c_2 => ?_)
  refine lv_iload_n hx hb dX11_end_7 rfl (lv_at hl 2 rfl) ?_
  refine lv_if_lt (tgt := 17) hx hb dX11_end_8 (by decide) (fun c_3 => absurd c_3 (by decide)) (fun c_3 => ?_)
  refine lv_iload_n hx hb dX11_end_11 rfl (lv_at hl 2 rfl) ?_
  refine lv_bipush (v := 17) hx hb dX11_end_12 (by decide) ?_
  refine lv_icmp_le (tgt := 19) hx hb dX11_end_14 (by decide) (fun c_4 => ?_) (fun c_4 => absurd (by decide) c_4)
  refine lv_aload_n hx hb dX11_end_19 rfl (lv_at hl 0 rfl) ?_
  refine gf_X11_26 E hT_1 hW ha0 dX11_end_20 (fun h_5 => ?_)
  refine lv_iload_n hx hb dX11_end_23 rfl (lv_at hl 1 rfl) ?_
  refine th_Vr (As := [.int 0]) (rest := []) E hml hl.1 (c_X4_endpoint l D cI cS τ ρ hW H hT_1 (ρ a0 2) h_5) lk_X11_68 yd_X4_endpoint hT_1 h_5 rfl (by decide) hS_1 (fun _ h => h.elim) ⟨by decide, by decide⟩ (Nat.le_of_ble_eq_true rfl) ⟨by decide, by decide⟩ rfl dX11_end_24 (fun r_6 H_6 locs_6 p_6 hT_6 hk_6 hS_6 => ?_)
  have p_6 : H = H_6 ∧ ρ (ρ a0 2) 3 = r_6 := p_6
  obtain ⟨rfl, rfl⟩ := p_6
  have h_6 : τ (ρ (ρ a0 2) 3) = some 2 := hW _ 4 3 h_5 (by decide) (by decide) (by decide)
  refine lv_iload_n hx hb dX11_end_27 rfl (lv_at hl 2 rfl) ?_
  refine th_Vi (As := [.int 12]) (rest := []) E hml hl.1 (c_X2_value_v13 l D cI cS τ ρ hW H hT_6 (ρ (ρ a0 2) 3) h_6 hf_1) lk_X11_204 yd_X2_value hT_6 h_6 rfl (by decide) hS_6 (fun _ h => h.elim) ⟨by decide, by decide⟩ (Nat.le_of_ble_eq_true rfl) ⟨by decide, by decide⟩ rfl dX11_end_28 (fun r_7 H_7 locs_7 p_7 hT_7 hk_7 hS_7 => ?_)
  have p_7 : H = H_7 ∧ 0 = r_7 := p_7
  obtain ⟨rfl, rfl⟩ := p_7
  exact th_iret E hr hlk hs hT_7 hS_7 ⟨rfl, rfl⟩ dX11_end_31
set_option maxHeartbeats 4000000 in
set_option maxRecDepth 100000 in
/-- StreamEnds$Endpoint.value -/
theorem c_X2_value_v14 (l : Launch) (D : va_G) (cI cS : ClassId) (τ : Nat → Option Nat) (ρ : Nat → Nat → Nat) (hW : WF τ ρ) (H : Heap) (hT : TH D cI cS τ ρ H) (a0 : Nat) (ha0 : τ a0 = some 2) (hf_1 : fi D 5 5 H (ρ a0 4) = 0) : MI l D cI cS τ ρ yX2_value cX2_value 2 (some .int) 0 0 H [.ref a0, .int 13] (fun (r : Int32) (u : Heap) => H = u ∧ 0 = r) (fun q => False) := by
  refine MI.of (by decide) (Nat.le_of_ble_eq_true rfl) ?_
  intro p e s m args below meth c E hml hr hlk hs ls hl
  have hx := E.1
  have hb := E.2.1
  have hown := E.2.2.1
  have hts := E.2.2.2.1
  have hS : SS (fun q => False) H H [] := SS.rf
  have hl : lv_has ls 2 [(0, .ref a0), (1, .int 13)] := hl
  refine lv_iload_n hx hb dX2_value_0 rfl (lv_at hl 1 rfl) ?_
  refine lv_tableIn (tgt := 179) hx hb dX2_value_1 (by decide) (by decide) rfl (by decide) ?_
  refine lv_aload_n hx hb dX2_value_179 rfl (lv_at hl 0 rfl) ?_
  refine gf_X2_12 E hT hW ha0 dX2_value_180 (fun h_1 => ?_)
  refine gf_X2_86 E hT h_1 dX2_value_183 ?_
  refine th_topi (y := 0) hf_1 ?_
  refine lv_if_eq (tgt := 193) hx hb dX2_value_186 (by decide) (fun c_2 => ?_) (fun c_2 => absurd (by decide) c_2)
  refine lv_iconst (v := 0) hx hb dX2_value_193 (by decide) ?_
  exact th_iret E hr hlk hs hT hS ⟨rfl, rfl⟩ dX2_value_194
set_option maxHeartbeats 4000000 in
set_option maxRecDepth 100000 in
/-- StreamEnds.end -/
theorem c_X11_end_v17 (l : Launch) (D : va_G) (cI cS : ClassId) (τ : Nat → Option Nat) (ρ : Nat → Nat → Nat) (hW : WF τ ρ) (H : Heap) (hT : TH D cI cS τ ρ H) (a0 : Nat) (ha0 : τ a0 = some 11) (hf_1 : fi D 5 5 H (ρ (ρ (ρ a0 2) 3) 4) = 0) : MI l D cI cS τ ρ yX11_end cX11_end 3 (some .int) 1 21 H [.ref a0, .int 0, .int 13] (fun (r : Int32) (u : Heap) => H = u ∧ 0 = r) (fun q => False) := by
  refine MI.of (by decide) (Nat.le_of_ble_eq_true rfl) ?_
  intro p e s m args below meth c E hml hr hlk hs ls hl
  have hx := E.1
  have hb := E.2.1
  have hown := E.2.2.1
  have hts := E.2.2.2.1
  have hS : SS (fun q => False) H H [] := SS.rf
  have hl : lv_has ls 3 [(0, .ref a0), (1, .int 0), (2, .int 13)] := hl
  refine lv_iload_n hx hb dX11_end_0 rfl (lv_at hl 1 rfl) ?_
  refine th_Si (As := [.int 0]) (rest := []) E hml hl.1 (c_X11_isEnd_v3 l D cI cS τ ρ hW H hT) lk_X11_65 yd_X11_isEnd hS (fun _ h => h.elim) ⟨by decide, by decide⟩ (Nat.le_of_ble_eq_true rfl) ⟨by decide, by decide⟩ rfl dX11_end_1 (fun r_1 H_1 locs_1 p_1 hT_1 hk_1 hS_1 => ?_)
  have p_1 : H = H_1 ∧ 1 = r_1 := p_1
  obtain ⟨rfl, rfl⟩ := p_1
  refine lv_if_eq (tgt := 17) hx hb dX11_end_4 (by decide) (fun c_2 => absurd c_2 (by decide)) (fun c_2 => ?_)
  refine lv_iload_n hx hb dX11_end_7 rfl (lv_at hl 2 rfl) ?_
  refine lv_if_lt (tgt := 17) hx hb dX11_end_8 (by decide) (fun c_3 => absurd c_3 (by decide)) (fun c_3 => ?_)
  refine lv_iload_n hx hb dX11_end_11 rfl (lv_at hl 2 rfl) ?_
  refine lv_bipush (v := 17) hx hb dX11_end_12 (by decide) ?_
  refine lv_icmp_le (tgt := 19) hx hb dX11_end_14 (by decide) (fun c_4 => ?_) (fun c_4 => absurd (by decide) c_4)
  refine lv_aload_n hx hb dX11_end_19 rfl (lv_at hl 0 rfl) ?_
  refine gf_X11_26 E hT_1 hW ha0 dX11_end_20 (fun h_5 => ?_)
  refine lv_iload_n hx hb dX11_end_23 rfl (lv_at hl 1 rfl) ?_
  refine th_Vr (As := [.int 0]) (rest := []) E hml hl.1 (c_X4_endpoint l D cI cS τ ρ hW H hT_1 (ρ a0 2) h_5) lk_X11_68 yd_X4_endpoint hT_1 h_5 rfl (by decide) hS_1 (fun _ h => h.elim) ⟨by decide, by decide⟩ (Nat.le_of_ble_eq_true rfl) ⟨by decide, by decide⟩ rfl dX11_end_24 (fun r_6 H_6 locs_6 p_6 hT_6 hk_6 hS_6 => ?_)
  have p_6 : H = H_6 ∧ ρ (ρ a0 2) 3 = r_6 := p_6
  obtain ⟨rfl, rfl⟩ := p_6
  have h_6 : τ (ρ (ρ a0 2) 3) = some 2 := hW _ 4 3 h_5 (by decide) (by decide) (by decide)
  refine lv_iload_n hx hb dX11_end_27 rfl (lv_at hl 2 rfl) ?_
  refine th_Vi (As := [.int 13]) (rest := []) E hml hl.1 (c_X2_value_v14 l D cI cS τ ρ hW H hT_6 (ρ (ρ a0 2) 3) h_6 hf_1) lk_X11_204 yd_X2_value hT_6 h_6 rfl (by decide) hS_6 (fun _ h => h.elim) ⟨by decide, by decide⟩ (Nat.le_of_ble_eq_true rfl) ⟨by decide, by decide⟩ rfl dX11_end_28 (fun r_7 H_7 locs_7 p_7 hT_7 hk_7 hS_7 => ?_)
  have p_7 : H = H_7 ∧ 0 = r_7 := p_7
  obtain ⟨rfl, rfl⟩ := p_7
  exact th_iret E hr hlk hs hT_7 hS_7 ⟨rfl, rfl⟩ dX11_end_31
set_option maxHeartbeats 4000000 in
set_option maxRecDepth 100000 in
/-- StreamEnds$Endpoint.value -/
theorem c_X2_value_v15 (l : Launch) (D : va_G) (cI cS : ClassId) (τ : Nat → Option Nat) (ρ : Nat → Nat → Nat) (hW : WF τ ρ) (H : Heap) (hT : TH D cI cS τ ρ H) (a0 : Nat) (ha0 : τ a0 = some 2) (hf_1 : fi D 5 4 H (ρ a0 4) = 0) : MI l D cI cS τ ρ yX2_value cX2_value 2 (some .int) 0 0 H [.ref a0, .int 14] (fun (r : Int32) (u : Heap) => H = u ∧ 0 = r) (fun q => False) := by
  refine MI.of (by decide) (Nat.le_of_ble_eq_true rfl) ?_
  intro p e s m args below meth c E hml hr hlk hs ls hl
  have hx := E.1
  have hb := E.2.1
  have hown := E.2.2.1
  have hts := E.2.2.2.1
  have hS : SS (fun q => False) H H [] := SS.rf
  have hl : lv_has ls 2 [(0, .ref a0), (1, .int 14)] := hl
  refine lv_iload_n hx hb dX2_value_0 rfl (lv_at hl 1 rfl) ?_
  refine lv_tableIn (tgt := 195) hx hb dX2_value_1 (by decide) (by decide) rfl (by decide) ?_
  refine lv_aload_n hx hb dX2_value_195 rfl (lv_at hl 0 rfl) ?_
  refine gf_X2_12 E hT hW ha0 dX2_value_196 (fun h_1 => ?_)
  refine gf_X2_185 E hT h_1 dX2_value_199 ?_
  refine th_topi (y := 0) hf_1 ?_
  exact th_iret E hr hlk hs hT hS ⟨rfl, rfl⟩ dX2_value_202
set_option maxHeartbeats 4000000 in
set_option maxRecDepth 100000 in
/-- StreamEnds.end -/
theorem c_X11_end_v18 (l : Launch) (D : va_G) (cI cS : ClassId) (τ : Nat → Option Nat) (ρ : Nat → Nat → Nat) (hW : WF τ ρ) (H : Heap) (hT : TH D cI cS τ ρ H) (a0 : Nat) (ha0 : τ a0 = some 11) (hf_1 : fi D 5 4 H (ρ (ρ (ρ a0 2) 3) 4) = 0) : MI l D cI cS τ ρ yX11_end cX11_end 3 (some .int) 1 21 H [.ref a0, .int 0, .int 14] (fun (r : Int32) (u : Heap) => H = u ∧ 0 = r) (fun q => False) := by
  refine MI.of (by decide) (Nat.le_of_ble_eq_true rfl) ?_
  intro p e s m args below meth c E hml hr hlk hs ls hl
  have hx := E.1
  have hb := E.2.1
  have hown := E.2.2.1
  have hts := E.2.2.2.1
  have hS : SS (fun q => False) H H [] := SS.rf
  have hl : lv_has ls 3 [(0, .ref a0), (1, .int 0), (2, .int 14)] := hl
  refine lv_iload_n hx hb dX11_end_0 rfl (lv_at hl 1 rfl) ?_
  refine th_Si (As := [.int 0]) (rest := []) E hml hl.1 (c_X11_isEnd_v3 l D cI cS τ ρ hW H hT) lk_X11_65 yd_X11_isEnd hS (fun _ h => h.elim) ⟨by decide, by decide⟩ (Nat.le_of_ble_eq_true rfl) ⟨by decide, by decide⟩ rfl dX11_end_1 (fun r_1 H_1 locs_1 p_1 hT_1 hk_1 hS_1 => ?_)
  have p_1 : H = H_1 ∧ 1 = r_1 := p_1
  obtain ⟨rfl, rfl⟩ := p_1
  refine lv_if_eq (tgt := 17) hx hb dX11_end_4 (by decide) (fun c_2 => absurd c_2 (by decide)) (fun c_2 => ?_)
  refine lv_iload_n hx hb dX11_end_7 rfl (lv_at hl 2 rfl) ?_
  refine lv_if_lt (tgt := 17) hx hb dX11_end_8 (by decide) (fun c_3 => absurd c_3 (by decide)) (fun c_3 => ?_)
  refine lv_iload_n hx hb dX11_end_11 rfl (lv_at hl 2 rfl) ?_
  refine lv_bipush (v := 17) hx hb dX11_end_12 (by decide) ?_
  refine lv_icmp_le (tgt := 19) hx hb dX11_end_14 (by decide) (fun c_4 => ?_) (fun c_4 => absurd (by decide) c_4)
  refine lv_aload_n hx hb dX11_end_19 rfl (lv_at hl 0 rfl) ?_
  refine gf_X11_26 E hT_1 hW ha0 dX11_end_20 (fun h_5 => ?_)
  refine lv_iload_n hx hb dX11_end_23 rfl (lv_at hl 1 rfl) ?_
  refine th_Vr (As := [.int 0]) (rest := []) E hml hl.1 (c_X4_endpoint l D cI cS τ ρ hW H hT_1 (ρ a0 2) h_5) lk_X11_68 yd_X4_endpoint hT_1 h_5 rfl (by decide) hS_1 (fun _ h => h.elim) ⟨by decide, by decide⟩ (Nat.le_of_ble_eq_true rfl) ⟨by decide, by decide⟩ rfl dX11_end_24 (fun r_6 H_6 locs_6 p_6 hT_6 hk_6 hS_6 => ?_)
  have p_6 : H = H_6 ∧ ρ (ρ a0 2) 3 = r_6 := p_6
  obtain ⟨rfl, rfl⟩ := p_6
  have h_6 : τ (ρ (ρ a0 2) 3) = some 2 := hW _ 4 3 h_5 (by decide) (by decide) (by decide)
  refine lv_iload_n hx hb dX11_end_27 rfl (lv_at hl 2 rfl) ?_
  refine th_Vi (As := [.int 14]) (rest := []) E hml hl.1 (c_X2_value_v15 l D cI cS τ ρ hW H hT_6 (ρ (ρ a0 2) 3) h_6 hf_1) lk_X11_204 yd_X2_value hT_6 h_6 rfl (by decide) hS_6 (fun _ h => h.elim) ⟨by decide, by decide⟩ (Nat.le_of_ble_eq_true rfl) ⟨by decide, by decide⟩ rfl dX11_end_28 (fun r_7 H_7 locs_7 p_7 hT_7 hk_7 hS_7 => ?_)
  have p_7 : H = H_7 ∧ 0 = r_7 := p_7
  obtain ⟨rfl, rfl⟩ := p_7
  exact th_iret E hr hlk hs hT_7 hS_7 ⟨rfl, rfl⟩ dX11_end_31
set_option maxHeartbeats 4000000 in
set_option maxRecDepth 100000 in
/-- StreamEnds$Endpoint.value -/
theorem c_X2_value_v16 (l : Launch) (D : va_G) (cI cS : ClassId) (τ : Nat → Option Nat) (ρ : Nat → Nat → Nat) (hW : WF τ ρ) (H : Heap) (hT : TH D cI cS τ ρ H) (a0 : Nat) (ha0 : τ a0 = some 2) (hf_1 : fi D 3 4 H (ρ a0 5) = 0) : MI l D cI cS τ ρ yX2_value cX2_value 2 (some .int) 0 0 H [.ref a0, .int 15] (fun (r : Int32) (u : Heap) => H = u ∧ 0 = r) (fun q => False) := by
  refine MI.of (by decide) (Nat.le_of_ble_eq_true rfl) ?_
  intro p e s m args below meth c E hml hr hlk hs ls hl
  have hx := E.1
  have hb := E.2.1
  have hown := E.2.2.1
  have hts := E.2.2.2.1
  have hS : SS (fun q => False) H H [] := SS.rf
  have hl : lv_has ls 2 [(0, .ref a0), (1, .int 15)] := hl
  refine lv_iload_n hx hb dX2_value_0 rfl (lv_at hl 1 rfl) ?_
  refine lv_tableIn (tgt := 203) hx hb dX2_value_1 (by decide) (by decide) rfl (by decide) ?_
  refine lv_aload_n hx hb dX2_value_203 rfl (lv_at hl 0 rfl) ?_
  refine gf_X2_21 E hT hW ha0 dX2_value_204 (fun h_1 => ?_)
  refine gf_X2_253 E hT h_1 dX2_value_207 ?_
  refine th_topi (y := 0) hf_1 ?_
  exact th_iret E hr hlk hs hT hS ⟨rfl, rfl⟩ dX2_value_210
set_option maxHeartbeats 4000000 in
set_option maxRecDepth 100000 in
/-- StreamEnds.end -/
theorem c_X11_end_v19 (l : Launch) (D : va_G) (cI cS : ClassId) (τ : Nat → Option Nat) (ρ : Nat → Nat → Nat) (hW : WF τ ρ) (H : Heap) (hT : TH D cI cS τ ρ H) (a0 : Nat) (ha0 : τ a0 = some 11) (hf_1 : fi D 3 4 H (ρ (ρ (ρ a0 2) 3) 5) = 0) : MI l D cI cS τ ρ yX11_end cX11_end 3 (some .int) 1 21 H [.ref a0, .int 0, .int 15] (fun (r : Int32) (u : Heap) => H = u ∧ 0 = r) (fun q => False) := by
  refine MI.of (by decide) (Nat.le_of_ble_eq_true rfl) ?_
  intro p e s m args below meth c E hml hr hlk hs ls hl
  have hx := E.1
  have hb := E.2.1
  have hown := E.2.2.1
  have hts := E.2.2.2.1
  have hS : SS (fun q => False) H H [] := SS.rf
  have hl : lv_has ls 3 [(0, .ref a0), (1, .int 0), (2, .int 15)] := hl
  refine lv_iload_n hx hb dX11_end_0 rfl (lv_at hl 1 rfl) ?_
  refine th_Si (As := [.int 0]) (rest := []) E hml hl.1 (c_X11_isEnd_v3 l D cI cS τ ρ hW H hT) lk_X11_65 yd_X11_isEnd hS (fun _ h => h.elim) ⟨by decide, by decide⟩ (Nat.le_of_ble_eq_true rfl) ⟨by decide, by decide⟩ rfl dX11_end_1 (fun r_1 H_1 locs_1 p_1 hT_1 hk_1 hS_1 => ?_)
  have p_1 : H = H_1 ∧ 1 = r_1 := p_1
  obtain ⟨rfl, rfl⟩ := p_1
  refine lv_if_eq (tgt := 17) hx hb dX11_end_4 (by decide) (fun c_2 => absurd c_2 (by decide)) (fun c_2 => ?_)
  refine lv_iload_n hx hb dX11_end_7 rfl (lv_at hl 2 rfl) ?_
  refine lv_if_lt (tgt := 17) hx hb dX11_end_8 (by decide) (fun c_3 => absurd c_3 (by decide)) (fun c_3 => ?_)
  refine lv_iload_n hx hb dX11_end_11 rfl (lv_at hl 2 rfl) ?_
  refine lv_bipush (v := 17) hx hb dX11_end_12 (by decide) ?_
  refine lv_icmp_le (tgt := 19) hx hb dX11_end_14 (by decide) (fun c_4 => ?_) (fun c_4 => absurd (by decide) c_4)
  refine lv_aload_n hx hb dX11_end_19 rfl (lv_at hl 0 rfl) ?_
  refine gf_X11_26 E hT_1 hW ha0 dX11_end_20 (fun h_5 => ?_)
  refine lv_iload_n hx hb dX11_end_23 rfl (lv_at hl 1 rfl) ?_
  refine th_Vr (As := [.int 0]) (rest := []) E hml hl.1 (c_X4_endpoint l D cI cS τ ρ hW H hT_1 (ρ a0 2) h_5) lk_X11_68 yd_X4_endpoint hT_1 h_5 rfl (by decide) hS_1 (fun _ h => h.elim) ⟨by decide, by decide⟩ (Nat.le_of_ble_eq_true rfl) ⟨by decide, by decide⟩ rfl dX11_end_24 (fun r_6 H_6 locs_6 p_6 hT_6 hk_6 hS_6 => ?_)
  have p_6 : H = H_6 ∧ ρ (ρ a0 2) 3 = r_6 := p_6
  obtain ⟨rfl, rfl⟩ := p_6
  have h_6 : τ (ρ (ρ a0 2) 3) = some 2 := hW _ 4 3 h_5 (by decide) (by decide) (by decide)
  refine lv_iload_n hx hb dX11_end_27 rfl (lv_at hl 2 rfl) ?_
  refine th_Vi (As := [.int 15]) (rest := []) E hml hl.1 (c_X2_value_v16 l D cI cS τ ρ hW H hT_6 (ρ (ρ a0 2) 3) h_6 hf_1) lk_X11_204 yd_X2_value hT_6 h_6 rfl (by decide) hS_6 (fun _ h => h.elim) ⟨by decide, by decide⟩ (Nat.le_of_ble_eq_true rfl) ⟨by decide, by decide⟩ rfl dX11_end_28 (fun r_7 H_7 locs_7 p_7 hT_7 hk_7 hS_7 => ?_)
  have p_7 : H = H_7 ∧ 0 = r_7 := p_7
  obtain ⟨rfl, rfl⟩ := p_7
  exact th_iret E hr hlk hs hT_7 hS_7 ⟨rfl, rfl⟩ dX11_end_31
set_option maxHeartbeats 4000000 in
set_option maxRecDepth 100000 in
/-- StreamEnds$Endpoint.value -/
theorem c_X2_value_v17 (l : Launch) (D : va_G) (cI cS : ClassId) (τ : Nat → Option Nat) (ρ : Nat → Nat → Nat) (hW : WF τ ρ) (H : Heap) (hT : TH D cI cS τ ρ H) (a0 : Nat) (ha0 : τ a0 = some 2) (hf_1 : fi D 7 3 H (ρ a0 6) = (-4)) : MI l D cI cS τ ρ yX2_value cX2_value 2 (some .int) 0 0 H [.ref a0, .int 16] (fun (r : Int32) (u : Heap) => H = u ∧ (-4) = r) (fun q => False) := by
  refine MI.of (by decide) (Nat.le_of_ble_eq_true rfl) ?_
  intro p e s m args below meth c E hml hr hlk hs ls hl
  have hx := E.1
  have hb := E.2.1
  have hown := E.2.2.1
  have hts := E.2.2.2.1
  have hS : SS (fun q => False) H H [] := SS.rf
  have hl : lv_has ls 2 [(0, .ref a0), (1, .int 16)] := hl
  refine lv_iload_n hx hb dX2_value_0 rfl (lv_at hl 1 rfl) ?_
  refine lv_tableIn (tgt := 211) hx hb dX2_value_1 (by decide) (by decide) rfl (by decide) ?_
  refine lv_aload_n hx hb dX2_value_211 rfl (lv_at hl 0 rfl) ?_
  refine gf_X2_28 E hT hW ha0 dX2_value_212 (fun h_1 => ?_)
  refine gf_X2_229 E hT h_1 dX2_value_215 ?_
  refine th_topi (y := (-4)) hf_1 ?_
  exact th_iret E hr hlk hs hT hS ⟨rfl, rfl⟩ dX2_value_218
set_option maxHeartbeats 4000000 in
set_option maxRecDepth 100000 in
/-- StreamEnds.end -/
theorem c_X11_end_v20 (l : Launch) (D : va_G) (cI cS : ClassId) (τ : Nat → Option Nat) (ρ : Nat → Nat → Nat) (hW : WF τ ρ) (H : Heap) (hT : TH D cI cS τ ρ H) (a0 : Nat) (ha0 : τ a0 = some 11) (hf_1 : fi D 7 3 H (ρ (ρ (ρ a0 2) 3) 6) = (-4)) : MI l D cI cS τ ρ yX11_end cX11_end 3 (some .int) 1 21 H [.ref a0, .int 0, .int 16] (fun (r : Int32) (u : Heap) => H = u ∧ (-4) = r) (fun q => False) := by
  refine MI.of (by decide) (Nat.le_of_ble_eq_true rfl) ?_
  intro p e s m args below meth c E hml hr hlk hs ls hl
  have hx := E.1
  have hb := E.2.1
  have hown := E.2.2.1
  have hts := E.2.2.2.1
  have hS : SS (fun q => False) H H [] := SS.rf
  have hl : lv_has ls 3 [(0, .ref a0), (1, .int 0), (2, .int 16)] := hl
  refine lv_iload_n hx hb dX11_end_0 rfl (lv_at hl 1 rfl) ?_
  refine th_Si (As := [.int 0]) (rest := []) E hml hl.1 (c_X11_isEnd_v3 l D cI cS τ ρ hW H hT) lk_X11_65 yd_X11_isEnd hS (fun _ h => h.elim) ⟨by decide, by decide⟩ (Nat.le_of_ble_eq_true rfl) ⟨by decide, by decide⟩ rfl dX11_end_1 (fun r_1 H_1 locs_1 p_1 hT_1 hk_1 hS_1 => ?_)
  have p_1 : H = H_1 ∧ 1 = r_1 := p_1
  obtain ⟨rfl, rfl⟩ := p_1
  refine lv_if_eq (tgt := 17) hx hb dX11_end_4 (by decide) (fun c_2 => absurd c_2 (by decide)) (fun c_2 => ?_)
  refine lv_iload_n hx hb dX11_end_7 rfl (lv_at hl 2 rfl) ?_
  refine lv_if_lt (tgt := 17) hx hb dX11_end_8 (by decide) (fun c_3 => absurd c_3 (by decide)) (fun c_3 => ?_)
  refine lv_iload_n hx hb dX11_end_11 rfl (lv_at hl 2 rfl) ?_
  refine lv_bipush (v := 17) hx hb dX11_end_12 (by decide) ?_
  refine lv_icmp_le (tgt := 19) hx hb dX11_end_14 (by decide) (fun c_4 => ?_) (fun c_4 => absurd (by decide) c_4)
  refine lv_aload_n hx hb dX11_end_19 rfl (lv_at hl 0 rfl) ?_
  refine gf_X11_26 E hT_1 hW ha0 dX11_end_20 (fun h_5 => ?_)
  refine lv_iload_n hx hb dX11_end_23 rfl (lv_at hl 1 rfl) ?_
  refine th_Vr (As := [.int 0]) (rest := []) E hml hl.1 (c_X4_endpoint l D cI cS τ ρ hW H hT_1 (ρ a0 2) h_5) lk_X11_68 yd_X4_endpoint hT_1 h_5 rfl (by decide) hS_1 (fun _ h => h.elim) ⟨by decide, by decide⟩ (Nat.le_of_ble_eq_true rfl) ⟨by decide, by decide⟩ rfl dX11_end_24 (fun r_6 H_6 locs_6 p_6 hT_6 hk_6 hS_6 => ?_)
  have p_6 : H = H_6 ∧ ρ (ρ a0 2) 3 = r_6 := p_6
  obtain ⟨rfl, rfl⟩ := p_6
  have h_6 : τ (ρ (ρ a0 2) 3) = some 2 := hW _ 4 3 h_5 (by decide) (by decide) (by decide)
  refine lv_iload_n hx hb dX11_end_27 rfl (lv_at hl 2 rfl) ?_
  refine th_Vi (As := [.int 16]) (rest := []) E hml hl.1 (c_X2_value_v17 l D cI cS τ ρ hW H hT_6 (ρ (ρ a0 2) 3) h_6 hf_1) lk_X11_204 yd_X2_value hT_6 h_6 rfl (by decide) hS_6 (fun _ h => h.elim) ⟨by decide, by decide⟩ (Nat.le_of_ble_eq_true rfl) ⟨by decide, by decide⟩ rfl dX11_end_28 (fun r_7 H_7 locs_7 p_7 hT_7 hk_7 hS_7 => ?_)
  have p_7 : H = H_7 ∧ (-4) = r_7 := p_7
  obtain ⟨rfl, rfl⟩ := p_7
  exact th_iret E hr hlk hs hT_7 hS_7 ⟨rfl, rfl⟩ dX11_end_31
set_option maxHeartbeats 4000000 in
set_option maxRecDepth 100000 in
/-- StreamEnds$Endpoint.value -/
theorem c_X2_value_v18 (l : Launch) (D : va_G) (cI cS : ClassId) (τ : Nat → Option Nat) (ρ : Nat → Nat → Nat) (hW : WF τ ρ) (H : Heap) (hT : TH D cI cS τ ρ H) (a0 : Nat) (ha0 : τ a0 = some 2) (hf_1 : fi D 3 3 H (ρ a0 5) = (-4)) : MI l D cI cS τ ρ yX2_value cX2_value 2 (some .int) 0 0 H [.ref a0, .int 17] (fun (r : Int32) (u : Heap) => H = u ∧ (-4) = r) (fun q => False) := by
  refine MI.of (by decide) (Nat.le_of_ble_eq_true rfl) ?_
  intro p e s m args below meth c E hml hr hlk hs ls hl
  have hx := E.1
  have hb := E.2.1
  have hown := E.2.2.1
  have hts := E.2.2.2.1
  have hS : SS (fun q => False) H H [] := SS.rf
  have hl : lv_has ls 2 [(0, .ref a0), (1, .int 17)] := hl
  refine lv_iload_n hx hb dX2_value_0 rfl (lv_at hl 1 rfl) ?_
  refine lv_tableOut (tgt := 219) hx hb dX2_value_1 (by decide) (by decide) ?_
  refine lv_aload_n hx hb dX2_value_219 rfl (lv_at hl 0 rfl) ?_
  refine gf_X2_21 E hT hW ha0 dX2_value_220 (fun h_1 => ?_)
  refine gf_X2_256 E hT h_1 dX2_value_223 ?_
  refine th_topi (y := (-4)) hf_1 ?_
  exact th_iret E hr hlk hs hT hS ⟨rfl, rfl⟩ dX2_value_226
set_option maxHeartbeats 4000000 in
set_option maxRecDepth 100000 in
/-- StreamEnds.end -/
theorem c_X11_end_v21 (l : Launch) (D : va_G) (cI cS : ClassId) (τ : Nat → Option Nat) (ρ : Nat → Nat → Nat) (hW : WF τ ρ) (H : Heap) (hT : TH D cI cS τ ρ H) (a0 : Nat) (ha0 : τ a0 = some 11) (hf_1 : fi D 3 3 H (ρ (ρ (ρ a0 2) 3) 5) = (-4)) : MI l D cI cS τ ρ yX11_end cX11_end 3 (some .int) 1 21 H [.ref a0, .int 0, .int 17] (fun (r : Int32) (u : Heap) => H = u ∧ (-4) = r) (fun q => False) := by
  refine MI.of (by decide) (Nat.le_of_ble_eq_true rfl) ?_
  intro p e s m args below meth c E hml hr hlk hs ls hl
  have hx := E.1
  have hb := E.2.1
  have hown := E.2.2.1
  have hts := E.2.2.2.1
  have hS : SS (fun q => False) H H [] := SS.rf
  have hl : lv_has ls 3 [(0, .ref a0), (1, .int 0), (2, .int 17)] := hl
  refine lv_iload_n hx hb dX11_end_0 rfl (lv_at hl 1 rfl) ?_
  refine th_Si (As := [.int 0]) (rest := []) E hml hl.1 (c_X11_isEnd_v3 l D cI cS τ ρ hW H hT) lk_X11_65 yd_X11_isEnd hS (fun _ h => h.elim) ⟨by decide, by decide⟩ (Nat.le_of_ble_eq_true rfl) ⟨by decide, by decide⟩ rfl dX11_end_1 (fun r_1 H_1 locs_1 p_1 hT_1 hk_1 hS_1 => ?_)
  have p_1 : H = H_1 ∧ 1 = r_1 := p_1
  obtain ⟨rfl, rfl⟩ := p_1
  refine lv_if_eq (tgt := 17) hx hb dX11_end_4 (by decide) (fun c_2 => absurd c_2 (by decide)) (fun c_2 => ?_)
  refine lv_iload_n hx hb dX11_end_7 rfl (lv_at hl 2 rfl) ?_
  refine lv_if_lt (tgt := 17) hx hb dX11_end_8 (by decide) (fun c_3 => absurd c_3 (by decide)) (fun c_3 => ?_)
  refine lv_iload_n hx hb dX11_end_11 rfl (lv_at hl 2 rfl) ?_
  refine lv_bipush (v := 17) hx hb dX11_end_12 (by decide) ?_
  refine lv_icmp_le (tgt := 19) hx hb dX11_end_14 (by decide) (fun c_4 => ?_) (fun c_4 => absurd (by decide) c_4)
  refine lv_aload_n hx hb dX11_end_19 rfl (lv_at hl 0 rfl) ?_
  refine gf_X11_26 E hT_1 hW ha0 dX11_end_20 (fun h_5 => ?_)
  refine lv_iload_n hx hb dX11_end_23 rfl (lv_at hl 1 rfl) ?_
  refine th_Vr (As := [.int 0]) (rest := []) E hml hl.1 (c_X4_endpoint l D cI cS τ ρ hW H hT_1 (ρ a0 2) h_5) lk_X11_68 yd_X4_endpoint hT_1 h_5 rfl (by decide) hS_1 (fun _ h => h.elim) ⟨by decide, by decide⟩ (Nat.le_of_ble_eq_true rfl) ⟨by decide, by decide⟩ rfl dX11_end_24 (fun r_6 H_6 locs_6 p_6 hT_6 hk_6 hS_6 => ?_)
  have p_6 : H = H_6 ∧ ρ (ρ a0 2) 3 = r_6 := p_6
  obtain ⟨rfl, rfl⟩ := p_6
  have h_6 : τ (ρ (ρ a0 2) 3) = some 2 := hW _ 4 3 h_5 (by decide) (by decide) (by decide)
  refine lv_iload_n hx hb dX11_end_27 rfl (lv_at hl 2 rfl) ?_
  refine th_Vi (As := [.int 17]) (rest := []) E hml hl.1 (c_X2_value_v18 l D cI cS τ ρ hW H hT_6 (ρ (ρ a0 2) 3) h_6 hf_1) lk_X11_204 yd_X2_value hT_6 h_6 rfl (by decide) hS_6 (fun _ h => h.elim) ⟨by decide, by decide⟩ (Nat.le_of_ble_eq_true rfl) ⟨by decide, by decide⟩ rfl dX11_end_28 (fun r_7 H_7 locs_7 p_7 hT_7 hk_7 hS_7 => ?_)
  have p_7 : H = H_7 ∧ (-4) = r_7 := p_7
  obtain ⟨rfl, rfl⟩ := p_7
  exact th_iret E hr hlk hs hT_7 hS_7 ⟨rfl, rfl⟩ dX11_end_31
set_option maxHeartbeats 4000000 in
set_option maxRecDepth 100000 in
/-- StreamEnds.end -/
theorem c_X11_end_v22 (l : Launch) (D : va_G) (cI cS : ClassId) (τ : Nat → Option Nat) (ρ : Nat → Nat → Nat) (hW : WF τ ρ) (H : Heap) (hT : TH D cI cS τ ρ H) (a0 : Nat) (x0 : Int32) (ha0 : τ a0 = some 11) (bl_x0 : 18 ≤ x0.toInt) : MI l D cI cS τ ρ yX11_end cX11_end 3 (some .int) 1 20 H [.ref a0, .int 0, .int x0] (fun (r : Int32) (u : Heap) => H = u ∧ (-1) = r) (fun q => False) := by
  refine MI.of (by decide) (Nat.le_of_ble_eq_true rfl) ?_
  intro p e s m args below meth c E hml hr hlk hs ls hl
  have hx := E.1
  have hb := E.2.1
  have hown := E.2.2.1
  have hts := E.2.2.2.1
  have hS : SS (fun q => False) H H [] := SS.rf
  have hl : lv_has ls 3 [(0, .ref a0), (1, .int 0), (2, .int x0)] := hl
  refine lv_iload_n hx hb dX11_end_0 rfl (lv_at hl 1 rfl) ?_
  refine th_Si (As := [.int 0]) (rest := []) E hml hl.1 (c_X11_isEnd_v3 l D cI cS τ ρ hW H hT) lk_X11_65 yd_X11_isEnd hS (fun _ h => h.elim) ⟨by decide, by decide⟩ (Nat.le_of_ble_eq_true rfl) ⟨by decide, by decide⟩ rfl dX11_end_1 (fun r_1 H_1 locs_1 p_1 hT_1 hk_1 hS_1 => ?_)
  have p_1 : H = H_1 ∧ 1 = r_1 := p_1
  obtain ⟨rfl, rfl⟩ := p_1
  refine lv_if_eq (tgt := 17) hx hb dX11_end_4 (by decide) (fun c_2 => absurd c_2 (by decide)) (fun c_2 => ?_)
  refine lv_iload_n hx hb dX11_end_7 rfl (lv_at hl 2 rfl) ?_
  refine lv_if_lt (tgt := 17) hx hb dX11_end_8 (by decide) (fun c_3 => False.elim (by (have : (0 : Int32).toInt = 0 := (by decide); have : x0.toInt < (0 : Int32).toInt := Int32.lt_iff_toInt_lt.mp c_3; omega))) (fun c_3 => ?_)
  refine lv_iload_n hx hb dX11_end_11 rfl (lv_at hl 2 rfl) ?_
  refine lv_bipush (v := 17) hx hb dX11_end_12 (by decide) ?_
  refine lv_icmp_le (tgt := 19) hx hb dX11_end_14 (by decide) (fun c_4 => False.elim (by (have : (17 : Int32).toInt = 17 := (by decide); have : x0.toInt ≤ (17 : Int32).toInt := Int32.le_iff_toInt_le.mp c_4; omega))) (fun c_4 => ?_)
  refine lv_iconst (v := (-1)) hx hb dX11_end_17 (by decide) ?_
  exact th_iret E hr hlk hs hT_1 hS_1 ⟨rfl, rfl⟩ dX11_end_18
set_option maxHeartbeats 4000000 in
set_option maxRecDepth 100000 in
/-- StreamEnds.sample -/
theorem c_X11_sample_v3 (l : Launch) (D : va_G) (cI cS : ClassId) (τ : Nat → Option Nat) (ρ : Nat → Nat → Nat) (hW : WF τ ρ) (H : Heap) (hT : TH D cI cS τ ρ H) (a0 : Nat) (x0 : Int32) (ha0 : τ a0 = some 11) (bh_x0 : x0.toInt ≤ -1) : MI l D cI cS τ ρ yX11_sample cX11_sample 3 (some .int) 1 20 H [.ref a0, .int 0, .int x0] (fun (r : Int32) (u : Heap) => H = u ∧ (-1) = r) (fun q => False) := by
  refine MI.of (by decide) (Nat.le_of_ble_eq_true rfl) ?_
  intro p e s m args below meth c E hml hr hlk hs ls hl
  have hx := E.1
  have hb := E.2.1
  have hown := E.2.2.1
  have hts := E.2.2.2.1
  have hS : SS (fun q => False) H H [] := SS.rf
  have hl : lv_has ls 3 [(0, .ref a0), (1, .int 0), (2, .int x0)] := hl
  refine lv_iload_n hx hb dX11_sample_0 rfl (lv_at hl 1 rfl) ?_
  refine th_Si (As := [.int 0]) (rest := []) E hml hl.1 (c_X11_isEnd_v3 l D cI cS τ ρ hW H hT) lk_X11_65 yd_X11_isEnd hS (fun _ h => h.elim) ⟨by decide, by decide⟩ (Nat.le_of_ble_eq_true rfl) ⟨by decide, by decide⟩ rfl dX11_sample_1 (fun r_1 H_1 locs_1 p_1 hT_1 hk_1 hS_1 => ?_)
  have p_1 : H = H_1 ∧ 1 = r_1 := p_1
  obtain ⟨rfl, rfl⟩ := p_1
  refine lv_if_eq (tgt := 11) hx hb dX11_sample_4 (by decide) (fun c_2 => absurd c_2 (by decide)) (fun c_2 => ?_)
  refine lv_iload_n hx hb dX11_sample_7 rfl (lv_at hl 2 rfl) ?_
  refine lv_if_ge (tgt := 13) hx hb dX11_sample_8 (by decide) (fun c_3 => False.elim (by (have : (0 : Int32).toInt = 0 := (by decide); have : (0 : Int32).toInt ≤ x0.toInt := Int32.le_iff_toInt_le.mp c_3; omega))) (fun c_3 => ?_)
  refine lv_iconst (v := (-1)) hx hb dX11_sample_11 (by decide) ?_
  exact th_iret E hr hlk hs hT_1 hS_1 ⟨rfl, rfl⟩ dX11_sample_12
set_option maxHeartbeats 4000000 in
set_option maxRecDepth 100000 in
/-- StreamEnds.known -/
theorem c_X11_known_v3 (l : Launch) (D : va_G) (cI cS : ClassId) (τ : Nat → Option Nat) (ρ : Nat → Nat → Nat) (hW : WF τ ρ) (H : Heap) (hT : TH D cI cS τ ρ H) (a0 : Nat) (x0 : Int32) (ha0 : τ a0 = some 11) (bh_x0 : x0.toInt ≤ -1) : MI l D cI cS τ ρ yX11_known cX11_known 3 (some .int) 1 20 H [.ref a0, .int 0, .int x0] (fun (r : Int32) (u : Heap) => H = u ∧ (-1) = r) (fun q => False) := by
  refine MI.of (by decide) (Nat.le_of_ble_eq_true rfl) ?_
  intro p e s m args below meth c E hml hr hlk hs ls hl
  have hx := E.1
  have hb := E.2.1
  have hown := E.2.2.1
  have hts := E.2.2.2.1
  have hS : SS (fun q => False) H H [] := SS.rf
  have hl : lv_has ls 3 [(0, .ref a0), (1, .int 0), (2, .int x0)] := hl
  refine lv_iload_n hx hb dX11_known_0 rfl (lv_at hl 1 rfl) ?_
  refine th_Si (As := [.int 0]) (rest := []) E hml hl.1 (c_X11_isEnd_v3 l D cI cS τ ρ hW H hT) lk_X11_65 yd_X11_isEnd hS (fun _ h => h.elim) ⟨by decide, by decide⟩ (Nat.le_of_ble_eq_true rfl) ⟨by decide, by decide⟩ rfl dX11_known_1 (fun r_1 H_1 locs_1 p_1 hT_1 hk_1 hS_1 => ?_)
  have p_1 : H = H_1 ∧ 1 = r_1 := p_1
  obtain ⟨rfl, rfl⟩ := p_1
  refine lv_if_eq (tgt := 11) hx hb dX11_known_4 (by decide) (fun c_2 => absurd c_2 (by decide)) (fun c_2 => ?_)
  refine lv_iload_n hx hb dX11_known_7 rfl (lv_at hl 2 rfl) ?_
  refine lv_if_ge (tgt := 13) hx hb dX11_known_8 (by decide) (fun c_3 => False.elim (by (have : (0 : Int32).toInt = 0 := (by decide); have : (0 : Int32).toInt ≤ x0.toInt := Int32.le_iff_toInt_le.mp c_3; omega))) (fun c_3 => ?_)
  refine lv_iconst (v := (-1)) hx hb dX11_known_11 (by decide) ?_
  exact th_iret E hr hlk hs hT_1 hS_1 ⟨rfl, rfl⟩ dX11_known_12
set_option maxHeartbeats 4000000 in
set_option maxRecDepth 100000 in
/-- StreamEnds$RoundTrips.roundTrip -/
theorem c_X7_roundTrip (l : Launch) (D : va_G) (cI cS : ClassId) (τ : Nat → Option Nat) (ρ : Nat → Nat → Nat) (hW : WF τ ρ) (H : Heap) (hT : TH D cI cS τ ρ H) (a0 : Nat) (x0 : Int32) (ha0 : τ a0 = some 7) (bl_x0 : 0 ≤ x0.toInt) (hf_1 : fi D 7 5 H a0 = 0) : MI l D cI cS τ ρ yX7_roundTrip cX7_roundTrip 2 (some .int) 0 0 H [.ref a0, .int x0] (fun (r : Int32) (u : Heap) => H = u ∧ (-4) = r) (fun q => False) := by
  refine MI.of (by decide) (Nat.le_of_ble_eq_true rfl) ?_
  intro p e s m args below meth c E hml hr hlk hs ls hl
  have hx := E.1
  have hb := E.2.1
  have hown := E.2.2.1
  have hts := E.2.2.2.1
  have hS : SS (fun q => False) H H [] := SS.rf
  have hl : lv_has ls 2 [(0, .ref a0), (1, .int x0)] := hl
  refine lv_iload_n hx hb dX7_roundTrip_0 rfl (lv_at hl 1 rfl) ?_
  refine lv_if_lt (tgt := 27) hx hb dX7_roundTrip_1 (by decide) (fun c_1 => False.elim (by (have : (0 : Int32).toInt = 0 := (by decide); have : x0.toInt < (0 : Int32).toInt := Int32.lt_iff_toInt_lt.mp c_1; omega))) (fun c_1 => ?_)
  refine lv_iload_n hx hb dX7_roundTrip_4 rfl (lv_at hl 1 rfl) ?_
  refine lv_bipush (v := 6) hx hb dX7_roundTrip_5 (by decide) ?_
  refine lv_icmp_ge (tgt := 27) hx hb dX7_roundTrip_7 (by decide) (fun c_2 => ?_) (fun c_2 => ?_)
  · have bl_3 : 6 ≤ x0.toInt := by (have : (6 : Int32).toInt = 6 := (by decide); have : (6 : Int32).toInt ≤ x0.toInt := Int32.le_iff_toInt_le.mp c_2; omega)
    refine lv_bipush (v := (-4)) hx hb dX7_roundTrip_27 (by decide) ?_
    exact th_iret E hr hlk hs hT hS ⟨rfl, rfl⟩ dX7_roundTrip_29
  · have bh_4 : x0.toInt ≤ 5 := by (have : (6 : Int32).toInt = 6 := (by decide); have : ¬ (6 : Int32).toInt ≤ x0.toInt := fun q => c_2 (Int32.le_iff_toInt_le.mpr q); omega)
    refine lv_iload_n hx hb dX7_roundTrip_10 rfl (lv_at hl 1 rfl) ?_
    refine lv_aload_n hx hb dX7_roundTrip_11 rfl (lv_at hl 0 rfl) ?_
    refine gf_X7_31 E hT ha0 dX7_roundTrip_12 ?_
    refine th_topi (y := 0) hf_1 ?_
    refine lv_icmp_ge (tgt := 27) hx hb dX7_roundTrip_15 (by decide) (fun c_5 => ?_) (fun c_5 => False.elim (by (have : (0 : Int32).toInt = 0 := (by decide); have : ¬ (0 : Int32).toInt ≤ x0.toInt := fun q => c_5 (Int32.le_iff_toInt_le.mpr q); omega)))
    refine lv_bipush (v := (-4)) hx hb dX7_roundTrip_27 (by decide) ?_
    exact th_iret E hr hlk hs hT hS ⟨rfl, rfl⟩ dX7_roundTrip_29
set_option maxHeartbeats 4000000 in
set_option maxRecDepth 100000 in
/-- StreamEnds.sample -/
theorem c_X11_sample_v4 (l : Launch) (D : va_G) (cI cS : ClassId) (τ : Nat → Option Nat) (ρ : Nat → Nat → Nat) (hW : WF τ ρ) (H : Heap) (hT : TH D cI cS τ ρ H) (a0 : Nat) (x0 : Int32) (ha0 : τ a0 = some 11) (bl_x0 : 0 ≤ x0.toInt) (hf_1 : fi D 7 5 H (ρ (ρ (ρ a0 2) 3) 6) = 0) : MI l D cI cS τ ρ yX11_sample cX11_sample 3 (some .int) 1 21 H [.ref a0, .int 0, .int x0] (fun (r : Int32) (u : Heap) => H = u ∧ (-4) = r) (fun q => False) := by
  refine MI.of (by decide) (Nat.le_of_ble_eq_true rfl) ?_
  intro p e s m args below meth c E hml hr hlk hs ls hl
  have hx := E.1
  have hb := E.2.1
  have hown := E.2.2.1
  have hts := E.2.2.2.1
  have hS : SS (fun q => False) H H [] := SS.rf
  have hl : lv_has ls 3 [(0, .ref a0), (1, .int 0), (2, .int x0)] := hl
  refine lv_iload_n hx hb dX11_sample_0 rfl (lv_at hl 1 rfl) ?_
  refine th_Si (As := [.int 0]) (rest := []) E hml hl.1 (c_X11_isEnd_v3 l D cI cS τ ρ hW H hT) lk_X11_65 yd_X11_isEnd hS (fun _ h => h.elim) ⟨by decide, by decide⟩ (Nat.le_of_ble_eq_true rfl) ⟨by decide, by decide⟩ rfl dX11_sample_1 (fun r_1 H_1 locs_1 p_1 hT_1 hk_1 hS_1 => ?_)
  have p_1 : H = H_1 ∧ 1 = r_1 := p_1
  obtain ⟨rfl, rfl⟩ := p_1
  refine lv_if_eq (tgt := 11) hx hb dX11_sample_4 (by decide) (fun c_2 => absurd c_2 (by decide)) (fun c_2 => ?_)
  refine lv_iload_n hx hb dX11_sample_7 rfl (lv_at hl 2 rfl) ?_
  refine lv_if_ge (tgt := 13) hx hb dX11_sample_8 (by decide) (fun c_3 => ?_) (fun c_3 => False.elim (by (have : (0 : Int32).toInt = 0 := (by decide); have : ¬ (0 : Int32).toInt ≤ x0.toInt := fun q => c_3 (Int32.le_iff_toInt_le.mpr q); omega)))
  refine lv_aload_n hx hb dX11_sample_13 rfl (lv_at hl 0 rfl) ?_
  refine gf_X11_26 E hT_1 hW ha0 dX11_sample_14 (fun h_4 => ?_)
  refine lv_iload_n hx hb dX11_sample_17 rfl (lv_at hl 1 rfl) ?_
  refine th_Vr (As := [.int 0]) (rest := []) E hml hl.1 (c_X4_endpoint l D cI cS τ ρ hW H hT_1 (ρ a0 2) h_4) lk_X11_68 yd_X4_endpoint hT_1 h_4 rfl (by decide) hS_1 (fun _ h => h.elim) ⟨by decide, by decide⟩ (Nat.le_of_ble_eq_true rfl) ⟨by decide, by decide⟩ rfl dX11_sample_18 (fun r_5 H_5 locs_5 p_5 hT_5 hk_5 hS_5 => ?_)
  have p_5 : H = H_5 ∧ ρ (ρ a0 2) 3 = r_5 := p_5
  obtain ⟨rfl, rfl⟩ := p_5
  have h_5 : τ (ρ (ρ a0 2) 3) = some 2 := hW _ 4 3 h_4 (by decide) (by decide) (by decide)
  refine gf_X11_208 E hT_5 hW h_5 dX11_sample_21 (fun h_6 => ?_)
  refine lv_iload_n hx hb dX11_sample_24 rfl (lv_at hl 2 rfl) ?_
  refine th_Vi (As := [.int x0]) (rest := []) E hml hl.1 (c_X7_roundTrip l D cI cS τ ρ hW H hT_5 (ρ (ρ (ρ a0 2) 3) 6) x0 h_6 (by (omega)) hf_1) lk_X11_212 yd_X7_roundTrip hT_5 h_6 rfl (by decide) hS_5 (fun _ h => h.elim) ⟨by decide, by decide⟩ (Nat.le_of_ble_eq_true rfl) ⟨by decide, by decide⟩ rfl dX11_sample_25 (fun r_7 H_7 locs_7 p_7 hT_7 hk_7 hS_7 => ?_)
  have p_7 : H = H_7 ∧ (-4) = r_7 := p_7
  obtain ⟨rfl, rfl⟩ := p_7
  exact th_iret E hr hlk hs hT_7 hS_7 ⟨rfl, rfl⟩ dX11_sample_28
set_option maxHeartbeats 4000000 in
set_option maxRecDepth 100000 in
/-- StreamEnds$Outgoing.isMarked -/
theorem c_X5_isMarked (l : Launch) (D : va_G) (cI cS : ClassId) (τ : Nat → Option Nat) (ρ : Nat → Nat → Nat) (hW : WF τ ρ) (H : Heap) (hT : TH D cI cS τ ρ H) (a0 : Nat) (x0 : Int32) (ha0 : τ a0 = some 5) (bl_x0 : 0 ≤ x0.toInt) (hf_1 : fi D 5 0 H a0 = 0) (hf_2 : fi D 5 1 H a0 = 0) : MI l D cI cS τ ρ yX5_isMarked cX5_isMarked 2 (some .boolean) 0 0 H [.ref a0, .int x0] (fun (r : Int32) (u : Heap) => H = u ∧ 0 = r) (fun q => False) := by
  refine MI.of (by decide) (Nat.le_of_ble_eq_true rfl) ?_
  intro p e s m args below meth c E hml hr hlk hs ls hl
  have hx := E.1
  have hb := E.2.1
  have hown := E.2.2.1
  have hts := E.2.2.2.1
  have hS : SS (fun q => False) H H [] := SS.rf
  have hl : lv_has ls 2 [(0, .ref a0), (1, .int x0)] := hl
  refine lv_iload_n hx hb dX5_isMarked_0 rfl (lv_at hl 1 rfl) ?_
  refine lv_aload_n hx hb dX5_isMarked_1 rfl (lv_at hl 0 rfl) ?_
  refine gf_X5_15 E hT ha0 dX5_isMarked_2 ?_
  refine th_topi (y := 0) hf_1 ?_
  refine lv_icmp_lt (tgt := 33) hx hb dX5_isMarked_5 (by decide) (fun c_1 => False.elim (by (have : (0 : Int32).toInt = 0 := (by decide); have : x0.toInt < (0 : Int32).toInt := Int32.lt_iff_toInt_lt.mp c_1; omega))) (fun c_1 => ?_)
  refine lv_iload_n hx hb dX5_isMarked_8 rfl (lv_at hl 1 rfl) ?_
  refine lv_aload_n hx hb dX5_isMarked_9 rfl (lv_at hl 0 rfl) ?_
  refine gf_X5_19 E hT ha0 dX5_isMarked_10 ?_
  refine th_topi (y := 0) hf_2 ?_
  refine lv_icmp_ge (tgt := 33) hx hb dX5_isMarked_13 (by decide) (fun c_2 => ?_) (fun c_2 => False.elim (by (have : (0 : Int32).toInt = 0 := (by decide); have : ¬ (0 : Int32).toInt ≤ x0.toInt := fun q => c_2 (Int32.le_iff_toInt_le.mpr q); omega)))
  refine lv_iconst (v := 0) hx hb dX5_isMarked_33 (by decide) ?_
  exact th_zret E hr hlk hs (Or.inl rfl) hT hS ⟨rfl, rfl⟩ dX5_isMarked_34
set_option maxHeartbeats 4000000 in
set_option maxRecDepth 100000 in
/-- StreamEnds.known -/
theorem c_X11_known_v4 (l : Launch) (D : va_G) (cI cS : ClassId) (τ : Nat → Option Nat) (ρ : Nat → Nat → Nat) (hW : WF τ ρ) (H : Heap) (hT : TH D cI cS τ ρ H) (a0 : Nat) (x0 : Int32) (ha0 : τ a0 = some 11) (bl_x0 : 0 ≤ x0.toInt) (hf_1 : fi D 5 0 H (ρ (ρ (ρ a0 2) 3) 4) = 0) (hf_2 : fi D 5 1 H (ρ (ρ (ρ a0 2) 3) 4) = 0) : MI l D cI cS τ ρ yX11_known cX11_known 3 (some .int) 1 21 H [.ref a0, .int 0, .int x0] (fun (r : Int32) (u : Heap) => H = u ∧ 0 = r) (fun q => False) := by
  refine MI.of (by decide) (Nat.le_of_ble_eq_true rfl) ?_
  intro p e s m args below meth c E hml hr hlk hs ls hl
  have hx := E.1
  have hb := E.2.1
  have hown := E.2.2.1
  have hts := E.2.2.2.1
  have hS : SS (fun q => False) H H [] := SS.rf
  have hl : lv_has ls 3 [(0, .ref a0), (1, .int 0), (2, .int x0)] := hl
  refine lv_iload_n hx hb dX11_known_0 rfl (lv_at hl 1 rfl) ?_
  refine th_Si (As := [.int 0]) (rest := []) E hml hl.1 (c_X11_isEnd_v3 l D cI cS τ ρ hW H hT) lk_X11_65 yd_X11_isEnd hS (fun _ h => h.elim) ⟨by decide, by decide⟩ (Nat.le_of_ble_eq_true rfl) ⟨by decide, by decide⟩ rfl dX11_known_1 (fun r_1 H_1 locs_1 p_1 hT_1 hk_1 hS_1 => ?_)
  have p_1 : H = H_1 ∧ 1 = r_1 := p_1
  obtain ⟨rfl, rfl⟩ := p_1
  refine lv_if_eq (tgt := 11) hx hb dX11_known_4 (by decide) (fun c_2 => absurd c_2 (by decide)) (fun c_2 => ?_)
  refine lv_iload_n hx hb dX11_known_7 rfl (lv_at hl 2 rfl) ?_
  refine lv_if_ge (tgt := 13) hx hb dX11_known_8 (by decide) (fun c_3 => ?_) (fun c_3 => False.elim (by (have : (0 : Int32).toInt = 0 := (by decide); have : ¬ (0 : Int32).toInt ≤ x0.toInt := fun q => c_3 (Int32.le_iff_toInt_le.mpr q); omega)))
  refine lv_aload_n hx hb dX11_known_13 rfl (lv_at hl 0 rfl) ?_
  refine gf_X11_26 E hT_1 hW ha0 dX11_known_14 (fun h_4 => ?_)
  refine lv_iload_n hx hb dX11_known_17 rfl (lv_at hl 1 rfl) ?_
  refine th_Vr (As := [.int 0]) (rest := []) E hml hl.1 (c_X4_endpoint l D cI cS τ ρ hW H hT_1 (ρ a0 2) h_4) lk_X11_68 yd_X4_endpoint hT_1 h_4 rfl (by decide) hS_1 (fun _ h => h.elim) ⟨by decide, by decide⟩ (Nat.le_of_ble_eq_true rfl) ⟨by decide, by decide⟩ rfl dX11_known_18 (fun r_5 H_5 locs_5 p_5 hT_5 hk_5 hS_5 => ?_)
  have p_5 : H = H_5 ∧ ρ (ρ a0 2) 3 = r_5 := p_5
  obtain ⟨rfl, rfl⟩ := p_5
  have h_5 : τ (ρ (ρ a0 2) 3) = some 2 := hW _ 4 3 h_4 (by decide) (by decide) (by decide)
  refine gf_X11_98 E hT_5 hW h_5 dX11_known_21 (fun h_6 => ?_)
  refine lv_iload_n hx hb dX11_known_24 rfl (lv_at hl 2 rfl) ?_
  refine th_Vi (As := [.int x0]) (rest := []) E hml hl.1 (c_X5_isMarked l D cI cS τ ρ hW H hT_5 (ρ (ρ (ρ a0 2) 3) 4) x0 h_6 (by (omega)) hf_1 hf_2) lk_X11_229 yd_X5_isMarked hT_5 h_6 rfl (by decide) hS_5 (fun _ h => h.elim) ⟨by decide, by decide⟩ (Nat.le_of_ble_eq_true rfl) ⟨by decide, by decide⟩ rfl dX11_known_25 (fun r_7 H_7 locs_7 p_7 hT_7 hk_7 hS_7 => ?_)
  have p_7 : H = H_7 ∧ 0 = r_7 := p_7
  obtain ⟨rfl, rfl⟩ := p_7
  refine lv_if_eq (tgt := 35) hx hb dX11_known_28 (by decide) (fun c_8 => ?_) (fun c_8 => absurd (by decide) c_8)
  refine lv_iconst (v := 0) hx hb dX11_known_35 (by decide) ?_
  exact th_iret E hr hlk hs hT_7 hS_7 ⟨rfl, rfl⟩ dX11_known_36
set_option maxHeartbeats 4000000 in
set_option maxRecDepth 100000 in
/-- StreamEnds.span -/
theorem c_X11_span_v3 (l : Launch) (D : va_G) (cI cS : ClassId) (τ : Nat → Option Nat) (ρ : Nat → Nat → Nat) (hW : WF τ ρ) (H : Heap) (hT : TH D cI cS τ ρ H) (a0 : Nat) (x0 : Int32) (x1 : Int32) (ha0 : τ a0 = some 11) (bh_x0 : x0.toInt ≤ -2) : MI l D cI cS τ ρ yX11_span cX11_span 8 (some .int) 1 20 H [.ref a0, .int 0, .int x0, .int x1] (fun (r : Int32) (u : Heap) => H = u ∧ (-1) = r) (fun q => False) := by
  refine MI.of (by decide) (Nat.le_of_ble_eq_true rfl) ?_
  intro p e s m args below meth c E hml hr hlk hs ls hl
  have hx := E.1
  have hb := E.2.1
  have hown := E.2.2.1
  have hts := E.2.2.2.1
  have hS : SS (fun q => False) H H [] := SS.rf
  have hl : lv_has ls 8 [(0, .ref a0), (1, .int 0), (2, .int x0), (3, .int x1)] := hl
  refine lv_iload_n hx hb dX11_span_0 rfl (lv_at hl 1 rfl) ?_
  refine th_Si (As := [.int 0]) (rest := []) E hml hl.1 (c_X11_isEnd_v3 l D cI cS τ ρ hW H hT) lk_X11_65 yd_X11_isEnd hS (fun _ h => h.elim) ⟨by decide, by decide⟩ (Nat.le_of_ble_eq_true rfl) ⟨by decide, by decide⟩ rfl dX11_span_1 (fun r_1 H_1 locs_1 p_1 hT_1 hk_1 hS_1 => ?_)
  have p_1 : H = H_1 ∧ 1 = r_1 := p_1
  obtain ⟨rfl, rfl⟩ := p_1
  refine lv_if_eq (tgt := 21) hx hb dX11_span_4 (by decide) (fun c_2 => absurd c_2 (by decide)) (fun c_2 => ?_)
  refine lv_iload_n hx hb dX11_span_7 rfl (lv_at hl 2 rfl) ?_
  refine lv_iconst (v := (-1)) hx hb dX11_span_8 (by decide) ?_
  refine lv_icmp_lt (tgt := 21) hx hb dX11_span_9 (by decide) (fun c_3 => ?_) (fun c_3 => False.elim (by (have : ((-1) : Int32).toInt = -1 := (by decide); have : ¬ x0.toInt < ((-1) : Int32).toInt := fun q => c_3 (Int32.lt_iff_toInt_lt.mpr q); omega)))
  refine lv_iconst (v := (-1)) hx hb dX11_span_21 (by decide) ?_
  exact th_iret E hr hlk hs hT_1 hS_1 ⟨rfl, rfl⟩ dX11_span_22
set_option maxHeartbeats 4000000 in
set_option maxRecDepth 100000 in
/-- StreamEnds.span -/
theorem c_X11_span_v4 (l : Launch) (D : va_G) (cI cS : ClassId) (τ : Nat → Option Nat) (ρ : Nat → Nat → Nat) (hW : WF τ ρ) (H : Heap) (hT : TH D cI cS τ ρ H) (a0 : Nat) (x0 : Int32) (ha0 : τ a0 = some 11) (bh_x0 : x0.toInt ≤ -1) : MI l D cI cS τ ρ yX11_span cX11_span 8 (some .int) 1 20 H [.ref a0, .int 0, .int (-1), .int x0] (fun (r : Int32) (u : Heap) => H = u ∧ (-1) = r) (fun q => False) := by
  refine MI.of (by decide) (Nat.le_of_ble_eq_true rfl) ?_
  intro p e s m args below meth c E hml hr hlk hs ls hl
  have hx := E.1
  have hb := E.2.1
  have hown := E.2.2.1
  have hts := E.2.2.2.1
  have hS : SS (fun q => False) H H [] := SS.rf
  have hl : lv_has ls 8 [(0, .ref a0), (1, .int 0), (2, .int (-1)), (3, .int x0)] := hl
  refine lv_iload_n hx hb dX11_span_0 rfl (lv_at hl 1 rfl) ?_
  refine th_Si (As := [.int 0]) (rest := []) E hml hl.1 (c_X11_isEnd_v3 l D cI cS τ ρ hW H hT) lk_X11_65 yd_X11_isEnd hS (fun _ h => h.elim) ⟨by decide, by decide⟩ (Nat.le_of_ble_eq_true rfl) ⟨by decide, by decide⟩ rfl dX11_span_1 (fun r_1 H_1 locs_1 p_1 hT_1 hk_1 hS_1 => ?_)
  have p_1 : H = H_1 ∧ 1 = r_1 := p_1
  obtain ⟨rfl, rfl⟩ := p_1
  refine lv_if_eq (tgt := 21) hx hb dX11_span_4 (by decide) (fun c_2 => absurd c_2 (by decide)) (fun c_2 => ?_)
  refine lv_iload_n hx hb dX11_span_7 rfl (lv_at hl 2 rfl) ?_
  refine lv_iconst (v := (-1)) hx hb dX11_span_8 (by decide) ?_
  refine lv_icmp_lt (tgt := 21) hx hb dX11_span_9 (by decide) (fun c_3 => absurd c_3 (by decide)) (fun c_3 => ?_)
  refine lv_iload_n hx hb dX11_span_12 rfl (lv_at hl 3 rfl) ?_
  refine lv_if_lt (tgt := 21) hx hb dX11_span_13 (by decide) (fun c_4 => ?_) (fun c_4 => False.elim (by (have : (0 : Int32).toInt = 0 := (by decide); have : ¬ x0.toInt < (0 : Int32).toInt := fun q => c_4 (Int32.lt_iff_toInt_lt.mpr q); omega)))
  refine lv_iconst (v := (-1)) hx hb dX11_span_21 (by decide) ?_
  exact th_iret E hr hlk hs hT_1 hS_1 ⟨rfl, rfl⟩ dX11_span_22
set_option maxHeartbeats 4000000 in
set_option maxRecDepth 100000 in
/-- StreamEnds$Incoming.nextHeld -/
theorem c_X3_nextHeld (l : Launch) (D : va_G) (cI cS : ClassId) (τ : Nat → Option Nat) (ρ : Nat → Nat → Nat) (hW : WF τ ρ) (H : Heap) (hT : TH D cI cS τ ρ H) (a0 : Nat) (ha0 : τ a0 = some 3) (hf_1 : fi D 3 2 H a0 = 13) (hf_2 : fl D 3 5 H a0 = 0) : MI l D cI cS τ ρ yX3_nextHeld cX3_nextHeld 3 (some .int) 0 0 H [.ref a0, .int 1] (fun (r : Int32) (u : Heap) => H = u ∧ 13 = r) (fun q => False) := by
  refine MI.of (by decide) (Nat.le_of_ble_eq_true rfl) ?_
  intro p e s m args below meth c E hml hr hlk hs ls hl
  have hx := E.1
  have hb := E.2.1
  have hown := E.2.2.1
  have hts := E.2.2.2.1
  have hS : SS (fun q => False) H H [] := SS.rf
  have hl : lv_has ls 3 [(0, .ref a0), (1, .int 1)] := hl
  refine lv_iload_n hx hb dX3_nextHeld_0 rfl (lv_at hl 1 rfl) ?_
  refine lv_istore_n (lv' := [(2, .int 1), (0, .ref a0), (1, .int 1)]) hx hb dX3_nextHeld_1 rfl hl (by decide) rfl (fun ls hl => ?_)
  refine lv_iload_n hx hb dX3_nextHeld_2 rfl (lv_at hl 0 rfl) ?_
  refine lv_aload_n hx hb dX3_nextHeld_3 rfl (lv_at hl 1 rfl) ?_
  refine gf_X3_22 E hT ha0 dX3_nextHeld_4 ?_
  refine th_topi (y := 13) hf_1 ?_
  refine lv_icmp_ge (tgt := 29) hx hb dX3_nextHeld_7 (by decide) (fun c_1 => absurd c_1 (by decide)) (fun c_1 => ?_)
  refine lv_aload_n hx hb dX3_nextHeld_10 rfl (lv_at hl 1 rfl) ?_
  refine gf_X3_31 E hT ha0 dX3_nextHeld_11 ?_
  refine th_topl (y := 0) hf_2 ?_
  refine lv_iload_n hx hb dX3_nextHeld_14 rfl (lv_at hl 0 rfl) ?_
  refine lv_lushr (v := 0) hx hb dX3_nextHeld_15 (by decide) ?_
  refine lv_lconst (v := 1) hx hb dX3_nextHeld_16 (by decide) ?_
  refine lv_land hx hb dX3_nextHeld_17 ?_
  refine th_topl (y := 0) (by decide) ?_
  refine lv_lconst (v := 0) hx hb dX3_nextHeld_18 (by decide) ?_
  refine W.lcmp hx hb dX3_nextHeld_19 ?_
  refine th_topi (y := 0) (by decide) ?_
  refine lv_if_ne (tgt := 29) hx hb dX3_nextHeld_20 (by decide) (fun c_2 => absurd (by decide) c_2) (fun c_2 => ?_)
  refine lv_iinc (v := 2) (lv' := [(2, .int 2), (0, .ref a0), (1, .int 1)]) hx hb dX3_nextHeld_23 hl (k := 0) rfl (by decide) (by decide) rfl (fun ls hl => ?_)
  refine lv_goto (tgt := 2) hx hb dX3_nextHeld_26 (by decide) ?_
  refine lv_iload_n hx hb dX3_nextHeld_2 rfl (lv_at hl 0 rfl) ?_
  refine lv_aload_n hx hb dX3_nextHeld_3 rfl (lv_at hl 1 rfl) ?_
  refine gf_X3_22 E hT ha0 dX3_nextHeld_4 ?_
  refine th_topi (y := 13) hf_1 ?_
  refine lv_icmp_ge (tgt := 29) hx hb dX3_nextHeld_7 (by decide) (fun c_4 => absurd c_4 (by decide)) (fun c_4 => ?_)
  refine lv_aload_n hx hb dX3_nextHeld_10 rfl (lv_at hl 1 rfl) ?_
  refine gf_X3_31 E hT ha0 dX3_nextHeld_11 ?_
  refine th_topl (y := 0) hf_2 ?_
  refine lv_iload_n hx hb dX3_nextHeld_14 rfl (lv_at hl 0 rfl) ?_
  refine lv_lushr (v := 0) hx hb dX3_nextHeld_15 (by decide) ?_
  refine lv_lconst (v := 1) hx hb dX3_nextHeld_16 (by decide) ?_
  refine lv_land hx hb dX3_nextHeld_17 ?_
  refine th_topl (y := 0) (by decide) ?_
  refine lv_lconst (v := 0) hx hb dX3_nextHeld_18 (by decide) ?_
  refine W.lcmp hx hb dX3_nextHeld_19 ?_
  refine th_topi (y := 0) (by decide) ?_
  refine lv_if_ne (tgt := 29) hx hb dX3_nextHeld_20 (by decide) (fun c_5 => absurd (by decide) c_5) (fun c_5 => ?_)
  refine lv_iinc (v := 3) (lv' := [(2, .int 3), (0, .ref a0), (1, .int 1)]) hx hb dX3_nextHeld_23 hl (k := 0) rfl (by decide) (by decide) rfl (fun ls hl => ?_)
  refine lv_goto (tgt := 2) hx hb dX3_nextHeld_26 (by decide) ?_
  refine lv_iload_n hx hb dX3_nextHeld_2 rfl (lv_at hl 0 rfl) ?_
  refine lv_aload_n hx hb dX3_nextHeld_3 rfl (lv_at hl 1 rfl) ?_
  refine gf_X3_22 E hT ha0 dX3_nextHeld_4 ?_
  refine th_topi (y := 13) hf_1 ?_
  refine lv_icmp_ge (tgt := 29) hx hb dX3_nextHeld_7 (by decide) (fun c_7 => absurd c_7 (by decide)) (fun c_7 => ?_)
  refine lv_aload_n hx hb dX3_nextHeld_10 rfl (lv_at hl 1 rfl) ?_
  refine gf_X3_31 E hT ha0 dX3_nextHeld_11 ?_
  refine th_topl (y := 0) hf_2 ?_
  refine lv_iload_n hx hb dX3_nextHeld_14 rfl (lv_at hl 0 rfl) ?_
  refine lv_lushr (v := 0) hx hb dX3_nextHeld_15 (by decide) ?_
  refine lv_lconst (v := 1) hx hb dX3_nextHeld_16 (by decide) ?_
  refine lv_land hx hb dX3_nextHeld_17 ?_
  refine th_topl (y := 0) (by decide) ?_
  refine lv_lconst (v := 0) hx hb dX3_nextHeld_18 (by decide) ?_
  refine W.lcmp hx hb dX3_nextHeld_19 ?_
  refine th_topi (y := 0) (by decide) ?_
  refine lv_if_ne (tgt := 29) hx hb dX3_nextHeld_20 (by decide) (fun c_8 => absurd (by decide) c_8) (fun c_8 => ?_)
  refine lv_iinc (v := 4) (lv' := [(2, .int 4), (0, .ref a0), (1, .int 1)]) hx hb dX3_nextHeld_23 hl (k := 0) rfl (by decide) (by decide) rfl (fun ls hl => ?_)
  refine lv_goto (tgt := 2) hx hb dX3_nextHeld_26 (by decide) ?_
  refine lv_iload_n hx hb dX3_nextHeld_2 rfl (lv_at hl 0 rfl) ?_
  refine lv_aload_n hx hb dX3_nextHeld_3 rfl (lv_at hl 1 rfl) ?_
  refine gf_X3_22 E hT ha0 dX3_nextHeld_4 ?_
  refine th_topi (y := 13) hf_1 ?_
  refine lv_icmp_ge (tgt := 29) hx hb dX3_nextHeld_7 (by decide) (fun c_10 => absurd c_10 (by decide)) (fun c_10 => ?_)
  refine lv_aload_n hx hb dX3_nextHeld_10 rfl (lv_at hl 1 rfl) ?_
  refine gf_X3_31 E hT ha0 dX3_nextHeld_11 ?_
  refine th_topl (y := 0) hf_2 ?_
  refine lv_iload_n hx hb dX3_nextHeld_14 rfl (lv_at hl 0 rfl) ?_
  refine lv_lushr (v := 0) hx hb dX3_nextHeld_15 (by decide) ?_
  refine lv_lconst (v := 1) hx hb dX3_nextHeld_16 (by decide) ?_
  refine lv_land hx hb dX3_nextHeld_17 ?_
  refine th_topl (y := 0) (by decide) ?_
  refine lv_lconst (v := 0) hx hb dX3_nextHeld_18 (by decide) ?_
  refine W.lcmp hx hb dX3_nextHeld_19 ?_
  refine th_topi (y := 0) (by decide) ?_
  refine lv_if_ne (tgt := 29) hx hb dX3_nextHeld_20 (by decide) (fun c_11 => absurd (by decide) c_11) (fun c_11 => ?_)
  refine lv_iinc (v := 5) (lv' := [(2, .int 5), (0, .ref a0), (1, .int 1)]) hx hb dX3_nextHeld_23 hl (k := 0) rfl (by decide) (by decide) rfl (fun ls hl => ?_)
  refine lv_goto (tgt := 2) hx hb dX3_nextHeld_26 (by decide) ?_
  refine lv_iload_n hx hb dX3_nextHeld_2 rfl (lv_at hl 0 rfl) ?_
  refine lv_aload_n hx hb dX3_nextHeld_3 rfl (lv_at hl 1 rfl) ?_
  refine gf_X3_22 E hT ha0 dX3_nextHeld_4 ?_
  refine th_topi (y := 13) hf_1 ?_
  refine lv_icmp_ge (tgt := 29) hx hb dX3_nextHeld_7 (by decide) (fun c_13 => absurd c_13 (by decide)) (fun c_13 => ?_)
  refine lv_aload_n hx hb dX3_nextHeld_10 rfl (lv_at hl 1 rfl) ?_
  refine gf_X3_31 E hT ha0 dX3_nextHeld_11 ?_
  refine th_topl (y := 0) hf_2 ?_
  refine lv_iload_n hx hb dX3_nextHeld_14 rfl (lv_at hl 0 rfl) ?_
  refine lv_lushr (v := 0) hx hb dX3_nextHeld_15 (by decide) ?_
  refine lv_lconst (v := 1) hx hb dX3_nextHeld_16 (by decide) ?_
  refine lv_land hx hb dX3_nextHeld_17 ?_
  refine th_topl (y := 0) (by decide) ?_
  refine lv_lconst (v := 0) hx hb dX3_nextHeld_18 (by decide) ?_
  refine W.lcmp hx hb dX3_nextHeld_19 ?_
  refine th_topi (y := 0) (by decide) ?_
  refine lv_if_ne (tgt := 29) hx hb dX3_nextHeld_20 (by decide) (fun c_14 => absurd (by decide) c_14) (fun c_14 => ?_)
  refine lv_iinc (v := 6) (lv' := [(2, .int 6), (0, .ref a0), (1, .int 1)]) hx hb dX3_nextHeld_23 hl (k := 0) rfl (by decide) (by decide) rfl (fun ls hl => ?_)
  refine lv_goto (tgt := 2) hx hb dX3_nextHeld_26 (by decide) ?_
  refine lv_iload_n hx hb dX3_nextHeld_2 rfl (lv_at hl 0 rfl) ?_
  refine lv_aload_n hx hb dX3_nextHeld_3 rfl (lv_at hl 1 rfl) ?_
  refine gf_X3_22 E hT ha0 dX3_nextHeld_4 ?_
  refine th_topi (y := 13) hf_1 ?_
  refine lv_icmp_ge (tgt := 29) hx hb dX3_nextHeld_7 (by decide) (fun c_16 => absurd c_16 (by decide)) (fun c_16 => ?_)
  refine lv_aload_n hx hb dX3_nextHeld_10 rfl (lv_at hl 1 rfl) ?_
  refine gf_X3_31 E hT ha0 dX3_nextHeld_11 ?_
  refine th_topl (y := 0) hf_2 ?_
  refine lv_iload_n hx hb dX3_nextHeld_14 rfl (lv_at hl 0 rfl) ?_
  refine lv_lushr (v := 0) hx hb dX3_nextHeld_15 (by decide) ?_
  refine lv_lconst (v := 1) hx hb dX3_nextHeld_16 (by decide) ?_
  refine lv_land hx hb dX3_nextHeld_17 ?_
  refine th_topl (y := 0) (by decide) ?_
  refine lv_lconst (v := 0) hx hb dX3_nextHeld_18 (by decide) ?_
  refine W.lcmp hx hb dX3_nextHeld_19 ?_
  refine th_topi (y := 0) (by decide) ?_
  refine lv_if_ne (tgt := 29) hx hb dX3_nextHeld_20 (by decide) (fun c_17 => absurd (by decide) c_17) (fun c_17 => ?_)
  refine lv_iinc (v := 7) (lv' := [(2, .int 7), (0, .ref a0), (1, .int 1)]) hx hb dX3_nextHeld_23 hl (k := 0) rfl (by decide) (by decide) rfl (fun ls hl => ?_)
  refine lv_goto (tgt := 2) hx hb dX3_nextHeld_26 (by decide) ?_
  refine lv_iload_n hx hb dX3_nextHeld_2 rfl (lv_at hl 0 rfl) ?_
  refine lv_aload_n hx hb dX3_nextHeld_3 rfl (lv_at hl 1 rfl) ?_
  refine gf_X3_22 E hT ha0 dX3_nextHeld_4 ?_
  refine th_topi (y := 13) hf_1 ?_
  refine lv_icmp_ge (tgt := 29) hx hb dX3_nextHeld_7 (by decide) (fun c_19 => absurd c_19 (by decide)) (fun c_19 => ?_)
  refine lv_aload_n hx hb dX3_nextHeld_10 rfl (lv_at hl 1 rfl) ?_
  refine gf_X3_31 E hT ha0 dX3_nextHeld_11 ?_
  refine th_topl (y := 0) hf_2 ?_
  refine lv_iload_n hx hb dX3_nextHeld_14 rfl (lv_at hl 0 rfl) ?_
  refine lv_lushr (v := 0) hx hb dX3_nextHeld_15 (by decide) ?_
  refine lv_lconst (v := 1) hx hb dX3_nextHeld_16 (by decide) ?_
  refine lv_land hx hb dX3_nextHeld_17 ?_
  refine th_topl (y := 0) (by decide) ?_
  refine lv_lconst (v := 0) hx hb dX3_nextHeld_18 (by decide) ?_
  refine W.lcmp hx hb dX3_nextHeld_19 ?_
  refine th_topi (y := 0) (by decide) ?_
  refine lv_if_ne (tgt := 29) hx hb dX3_nextHeld_20 (by decide) (fun c_20 => absurd (by decide) c_20) (fun c_20 => ?_)
  refine lv_iinc (v := 8) (lv' := [(2, .int 8), (0, .ref a0), (1, .int 1)]) hx hb dX3_nextHeld_23 hl (k := 0) rfl (by decide) (by decide) rfl (fun ls hl => ?_)
  refine lv_goto (tgt := 2) hx hb dX3_nextHeld_26 (by decide) ?_
  refine lv_iload_n hx hb dX3_nextHeld_2 rfl (lv_at hl 0 rfl) ?_
  refine lv_aload_n hx hb dX3_nextHeld_3 rfl (lv_at hl 1 rfl) ?_
  refine gf_X3_22 E hT ha0 dX3_nextHeld_4 ?_
  refine th_topi (y := 13) hf_1 ?_
  refine lv_icmp_ge (tgt := 29) hx hb dX3_nextHeld_7 (by decide) (fun c_22 => absurd c_22 (by decide)) (fun c_22 => ?_)
  refine lv_aload_n hx hb dX3_nextHeld_10 rfl (lv_at hl 1 rfl) ?_
  refine gf_X3_31 E hT ha0 dX3_nextHeld_11 ?_
  refine th_topl (y := 0) hf_2 ?_
  refine lv_iload_n hx hb dX3_nextHeld_14 rfl (lv_at hl 0 rfl) ?_
  refine lv_lushr (v := 0) hx hb dX3_nextHeld_15 (by decide) ?_
  refine lv_lconst (v := 1) hx hb dX3_nextHeld_16 (by decide) ?_
  refine lv_land hx hb dX3_nextHeld_17 ?_
  refine th_topl (y := 0) (by decide) ?_
  refine lv_lconst (v := 0) hx hb dX3_nextHeld_18 (by decide) ?_
  refine W.lcmp hx hb dX3_nextHeld_19 ?_
  refine th_topi (y := 0) (by decide) ?_
  refine lv_if_ne (tgt := 29) hx hb dX3_nextHeld_20 (by decide) (fun c_23 => absurd (by decide) c_23) (fun c_23 => ?_)
  refine lv_iinc (v := 9) (lv' := [(2, .int 9), (0, .ref a0), (1, .int 1)]) hx hb dX3_nextHeld_23 hl (k := 0) rfl (by decide) (by decide) rfl (fun ls hl => ?_)
  refine lv_goto (tgt := 2) hx hb dX3_nextHeld_26 (by decide) ?_
  refine lv_iload_n hx hb dX3_nextHeld_2 rfl (lv_at hl 0 rfl) ?_
  refine lv_aload_n hx hb dX3_nextHeld_3 rfl (lv_at hl 1 rfl) ?_
  refine gf_X3_22 E hT ha0 dX3_nextHeld_4 ?_
  refine th_topi (y := 13) hf_1 ?_
  refine lv_icmp_ge (tgt := 29) hx hb dX3_nextHeld_7 (by decide) (fun c_25 => absurd c_25 (by decide)) (fun c_25 => ?_)
  refine lv_aload_n hx hb dX3_nextHeld_10 rfl (lv_at hl 1 rfl) ?_
  refine gf_X3_31 E hT ha0 dX3_nextHeld_11 ?_
  refine th_topl (y := 0) hf_2 ?_
  refine lv_iload_n hx hb dX3_nextHeld_14 rfl (lv_at hl 0 rfl) ?_
  refine lv_lushr (v := 0) hx hb dX3_nextHeld_15 (by decide) ?_
  refine lv_lconst (v := 1) hx hb dX3_nextHeld_16 (by decide) ?_
  refine lv_land hx hb dX3_nextHeld_17 ?_
  refine th_topl (y := 0) (by decide) ?_
  refine lv_lconst (v := 0) hx hb dX3_nextHeld_18 (by decide) ?_
  refine W.lcmp hx hb dX3_nextHeld_19 ?_
  refine th_topi (y := 0) (by decide) ?_
  refine lv_if_ne (tgt := 29) hx hb dX3_nextHeld_20 (by decide) (fun c_26 => absurd (by decide) c_26) (fun c_26 => ?_)
  refine lv_iinc (v := 10) (lv' := [(2, .int 10), (0, .ref a0), (1, .int 1)]) hx hb dX3_nextHeld_23 hl (k := 0) rfl (by decide) (by decide) rfl (fun ls hl => ?_)
  refine lv_goto (tgt := 2) hx hb dX3_nextHeld_26 (by decide) ?_
  refine lv_iload_n hx hb dX3_nextHeld_2 rfl (lv_at hl 0 rfl) ?_
  refine lv_aload_n hx hb dX3_nextHeld_3 rfl (lv_at hl 1 rfl) ?_
  refine gf_X3_22 E hT ha0 dX3_nextHeld_4 ?_
  refine th_topi (y := 13) hf_1 ?_
  refine lv_icmp_ge (tgt := 29) hx hb dX3_nextHeld_7 (by decide) (fun c_28 => absurd c_28 (by decide)) (fun c_28 => ?_)
  refine lv_aload_n hx hb dX3_nextHeld_10 rfl (lv_at hl 1 rfl) ?_
  refine gf_X3_31 E hT ha0 dX3_nextHeld_11 ?_
  refine th_topl (y := 0) hf_2 ?_
  refine lv_iload_n hx hb dX3_nextHeld_14 rfl (lv_at hl 0 rfl) ?_
  refine lv_lushr (v := 0) hx hb dX3_nextHeld_15 (by decide) ?_
  refine lv_lconst (v := 1) hx hb dX3_nextHeld_16 (by decide) ?_
  refine lv_land hx hb dX3_nextHeld_17 ?_
  refine th_topl (y := 0) (by decide) ?_
  refine lv_lconst (v := 0) hx hb dX3_nextHeld_18 (by decide) ?_
  refine W.lcmp hx hb dX3_nextHeld_19 ?_
  refine th_topi (y := 0) (by decide) ?_
  refine lv_if_ne (tgt := 29) hx hb dX3_nextHeld_20 (by decide) (fun c_29 => absurd (by decide) c_29) (fun c_29 => ?_)
  refine lv_iinc (v := 11) (lv' := [(2, .int 11), (0, .ref a0), (1, .int 1)]) hx hb dX3_nextHeld_23 hl (k := 0) rfl (by decide) (by decide) rfl (fun ls hl => ?_)
  refine lv_goto (tgt := 2) hx hb dX3_nextHeld_26 (by decide) ?_
  refine lv_iload_n hx hb dX3_nextHeld_2 rfl (lv_at hl 0 rfl) ?_
  refine lv_aload_n hx hb dX3_nextHeld_3 rfl (lv_at hl 1 rfl) ?_
  refine gf_X3_22 E hT ha0 dX3_nextHeld_4 ?_
  refine th_topi (y := 13) hf_1 ?_
  refine lv_icmp_ge (tgt := 29) hx hb dX3_nextHeld_7 (by decide) (fun c_31 => absurd c_31 (by decide)) (fun c_31 => ?_)
  refine lv_aload_n hx hb dX3_nextHeld_10 rfl (lv_at hl 1 rfl) ?_
  refine gf_X3_31 E hT ha0 dX3_nextHeld_11 ?_
  refine th_topl (y := 0) hf_2 ?_
  refine lv_iload_n hx hb dX3_nextHeld_14 rfl (lv_at hl 0 rfl) ?_
  refine lv_lushr (v := 0) hx hb dX3_nextHeld_15 (by decide) ?_
  refine lv_lconst (v := 1) hx hb dX3_nextHeld_16 (by decide) ?_
  refine lv_land hx hb dX3_nextHeld_17 ?_
  refine th_topl (y := 0) (by decide) ?_
  refine lv_lconst (v := 0) hx hb dX3_nextHeld_18 (by decide) ?_
  refine W.lcmp hx hb dX3_nextHeld_19 ?_
  refine th_topi (y := 0) (by decide) ?_
  refine lv_if_ne (tgt := 29) hx hb dX3_nextHeld_20 (by decide) (fun c_32 => absurd (by decide) c_32) (fun c_32 => ?_)
  refine lv_iinc (v := 12) (lv' := [(2, .int 12), (0, .ref a0), (1, .int 1)]) hx hb dX3_nextHeld_23 hl (k := 0) rfl (by decide) (by decide) rfl (fun ls hl => ?_)
  refine lv_goto (tgt := 2) hx hb dX3_nextHeld_26 (by decide) ?_
  refine lv_iload_n hx hb dX3_nextHeld_2 rfl (lv_at hl 0 rfl) ?_
  refine lv_aload_n hx hb dX3_nextHeld_3 rfl (lv_at hl 1 rfl) ?_
  refine gf_X3_22 E hT ha0 dX3_nextHeld_4 ?_
  refine th_topi (y := 13) hf_1 ?_
  refine lv_icmp_ge (tgt := 29) hx hb dX3_nextHeld_7 (by decide) (fun c_34 => absurd c_34 (by decide)) (fun c_34 => ?_)
  refine lv_aload_n hx hb dX3_nextHeld_10 rfl (lv_at hl 1 rfl) ?_
  refine gf_X3_31 E hT ha0 dX3_nextHeld_11 ?_
  refine th_topl (y := 0) hf_2 ?_
  refine lv_iload_n hx hb dX3_nextHeld_14 rfl (lv_at hl 0 rfl) ?_
  refine lv_lushr (v := 0) hx hb dX3_nextHeld_15 (by decide) ?_
  refine lv_lconst (v := 1) hx hb dX3_nextHeld_16 (by decide) ?_
  refine lv_land hx hb dX3_nextHeld_17 ?_
  refine th_topl (y := 0) (by decide) ?_
  refine lv_lconst (v := 0) hx hb dX3_nextHeld_18 (by decide) ?_
  refine W.lcmp hx hb dX3_nextHeld_19 ?_
  refine th_topi (y := 0) (by decide) ?_
  refine lv_if_ne (tgt := 29) hx hb dX3_nextHeld_20 (by decide) (fun c_35 => absurd (by decide) c_35) (fun c_35 => ?_)
  refine lv_iinc (v := 13) (lv' := [(2, .int 13), (0, .ref a0), (1, .int 1)]) hx hb dX3_nextHeld_23 hl (k := 0) rfl (by decide) (by decide) rfl (fun ls hl => ?_)
  refine lv_goto (tgt := 2) hx hb dX3_nextHeld_26 (by decide) ?_
  refine lv_iload_n hx hb dX3_nextHeld_2 rfl (lv_at hl 0 rfl) ?_
  refine lv_aload_n hx hb dX3_nextHeld_3 rfl (lv_at hl 1 rfl) ?_
  refine gf_X3_22 E hT ha0 dX3_nextHeld_4 ?_
  refine th_topi (y := 13) hf_1 ?_
  refine lv_icmp_ge (tgt := 29) hx hb dX3_nextHeld_7 (by decide) (fun c_37 => ?_) (fun c_37 => absurd (by decide) c_37)
  refine lv_iload_n hx hb dX3_nextHeld_29 rfl (lv_at hl 0 rfl) ?_
  exact th_iret E hr hlk hs hT hS ⟨rfl, rfl⟩ dX3_nextHeld_30
set_option maxHeartbeats 4000000 in
set_option maxRecDepth 100000 in
/-- StreamEnds.span -/
theorem c_X11_span_v5 (l : Launch) (D : va_G) (cI cS : ClassId) (τ : Nat → Option Nat) (ρ : Nat → Nat → Nat) (hW : WF τ ρ) (H : Heap) (hT : TH D cI cS τ ρ H) (a0 : Nat) (x0 : Int32) (ha0 : τ a0 = some 11) (bl_x0 : 0 ≤ x0.toInt) (bh_x0 : x0.toInt ≤ 1) (hf_1 : fi D 3 0 H (ρ (ρ (ρ a0 2) 3) 5) = 0) (hf_2 : fi D 3 2 H (ρ (ρ (ρ a0 2) 3) 5) = 13) (hf_3 : fl D 3 5 H (ρ (ρ (ρ a0 2) 3) 5) = 0) : MI l D cI cS τ ρ yX11_span cX11_span 8 (some .int) 1 22 H [.ref a0, .int 0, .int (-1), .int x0] (fun (r : Int32) (u : Heap) => H = u ∧ 0 = r) (fun q => False) := by
  refine MI.of (by decide) (Nat.le_of_ble_eq_true rfl) ?_
  intro p e s m args below meth c E hml hr hlk hs ls hl
  have hx := E.1
  have hb := E.2.1
  have hown := E.2.2.1
  have hts := E.2.2.2.1
  have hS : SS (fun q => False) H H [] := SS.rf
  have hl : lv_has ls 8 [(0, .ref a0), (1, .int 0), (2, .int (-1)), (3, .int x0)] := hl
  refine lv_iload_n hx hb dX11_span_0 rfl (lv_at hl 1 rfl) ?_
  refine th_Si (As := [.int 0]) (rest := []) E hml hl.1 (c_X11_isEnd_v3 l D cI cS τ ρ hW H hT) lk_X11_65 yd_X11_isEnd hS (fun _ h => h.elim) ⟨by decide, by decide⟩ (Nat.le_of_ble_eq_true rfl) ⟨by decide, by decide⟩ rfl dX11_span_1 (fun r_1 H_1 locs_1 p_1 hT_1 hk_1 hS_1 => ?_)
  have p_1 : H = H_1 ∧ 1 = r_1 := p_1
  obtain ⟨rfl, rfl⟩ := p_1
  refine lv_if_eq (tgt := 21) hx hb dX11_span_4 (by decide) (fun c_2 => absurd c_2 (by decide)) (fun c_2 => ?_)
  refine lv_iload_n hx hb dX11_span_7 rfl (lv_at hl 2 rfl) ?_
  refine lv_iconst (v := (-1)) hx hb dX11_span_8 (by decide) ?_
  refine lv_icmp_lt (tgt := 21) hx hb dX11_span_9 (by decide) (fun c_3 => absurd c_3 (by decide)) (fun c_3 => ?_)
  refine lv_iload_n hx hb dX11_span_12 rfl (lv_at hl 3 rfl) ?_
  refine lv_if_lt (tgt := 21) hx hb dX11_span_13 (by decide) (fun c_4 => False.elim (by (have : (0 : Int32).toInt = 0 := (by decide); have : x0.toInt < (0 : Int32).toInt := Int32.lt_iff_toInt_lt.mp c_4; omega))) (fun c_4 => ?_)
  refine lv_iload_n hx hb dX11_span_16 rfl (lv_at hl 3 rfl) ?_
  refine lv_iconst (v := 1) hx hb dX11_span_17 (by decide) ?_
  refine lv_icmp_le (tgt := 23) hx hb dX11_span_18 (by decide) (fun c_5 => ?_) (fun c_5 => False.elim (by (have : (1 : Int32).toInt = 1 := (by decide); have : ¬ x0.toInt ≤ (1 : Int32).toInt := fun q => c_5 (Int32.le_iff_toInt_le.mpr q); omega)))
  refine lv_aload_n hx hb dX11_span_23 rfl (lv_at hl 0 rfl) ?_
  refine gf_X11_26 E hT_1 hW ha0 dX11_span_24 (fun h_6 => ?_)
  refine lv_iload_n hx hb dX11_span_27 rfl (lv_at hl 1 rfl) ?_
  refine th_Vr (As := [.int 0]) (rest := []) E hml hl.1 (c_X4_endpoint l D cI cS τ ρ hW H hT_1 (ρ a0 2) h_6) lk_X11_68 yd_X4_endpoint hT_1 h_6 rfl (by decide) hS_1 (fun _ h => h.elim) ⟨by decide, by decide⟩ (Nat.le_of_ble_eq_true rfl) ⟨by decide, by decide⟩ rfl dX11_span_28 (fun r_7 H_7 locs_7 p_7 hT_7 hk_7 hS_7 => ?_)
  have p_7 : H = H_7 ∧ ρ (ρ a0 2) 3 = r_7 := p_7
  obtain ⟨rfl, rfl⟩ := p_7
  have h_7 : τ (ρ (ρ a0 2) 3) = some 2 := hW _ 4 3 h_6 (by decide) (by decide) (by decide)
  refine gf_X11_143 E hT_7 hW h_7 dX11_span_31 (fun h_8 => ?_)
  refine lv_astore (lv' := [(4, .ref (ρ (ρ (ρ a0 2) 3) 5)), (0, .ref a0), (1, .int 0), (2, .int (-1)), (3, .int x0)]) hx hb dX11_span_34 hl (by decide) rfl (fun ls hl => ?_)
  refine lv_iconst (v := 0) hx hb dX11_span_36 (by decide) ?_
  refine lv_istore (lv' := [(5, .int 0), (4, .ref (ρ (ρ (ρ a0 2) 3) 5)), (0, .ref a0), (1, .int 0), (2, .int (-1)), (3, .int x0)]) hx hb dX11_span_37 hl (by decide) rfl (fun ls hl => ?_)
  refine lv_aload hx hb dX11_span_39 (lv_at hl 1 rfl) ?_
  refine lv_aload hx hb dX11_span_41 (lv_at hl 1 rfl) ?_
  refine gf_X11_217 E hT_7 h_8 dX11_span_43 ?_
  refine th_topi (y := 0) hf_1 ?_
  refine lv_iconst (v := 1) hx hb dX11_span_46 (by decide) ?_
  refine lv_iadd hx hb dX11_span_47 ?_
  refine th_topi (y := 1) (by decide) ?_
  refine th_Vi (As := [.int 1]) (rest := []) E hml hl.1 (c_X3_nextHeld l D cI cS τ ρ hW H hT_7 (ρ (ρ (ρ a0 2) 3) 5) h_8 hf_2 hf_3) lk_X11_220 yd_X3_nextHeld hT_7 h_8 rfl (by decide) hS_7 (fun _ h => h.elim) ⟨by decide, by decide⟩ (Nat.le_of_ble_eq_true rfl) ⟨by decide, by decide⟩ rfl dX11_span_48 (fun r_9 H_9 locs_9 p_9 hT_9 hk_9 hS_9 => ?_)
  have p_9 : H = H_9 ∧ 13 = r_9 := p_9
  obtain ⟨rfl, rfl⟩ := p_9
  refine lv_istore (lv' := [(6, .int 13), (5, .int 0), (4, .ref (ρ (ρ (ρ a0 2) 3) 5)), (0, .ref a0), (1, .int 0), (2, .int (-1)), (3, .int x0)]) hx hb dX11_span_51 hl (by decide) rfl (fun ls hl => ?_)
  refine lv_iload hx hb dX11_span_53 (lv_at hl 0 rfl) ?_
  refine lv_aload hx hb dX11_span_55 (lv_at hl 2 rfl) ?_
  refine gf_X11_223 E hT_9 h_8 dX11_span_57 ?_
  refine th_topi (y := 13) hf_2 ?_
  refine lv_icmp_ge (tgt := 112) hx hb dX11_span_60 (by decide) (fun c_10 => ?_) (fun c_10 => absurd (by decide) c_10)
  refine lv_iload_n hx hb dX11_span_112 rfl (lv_at hl 5 rfl) ?_
  refine lv_iconst (v := (-1)) hx hb dX11_span_113 (by decide) ?_
  refine lv_icmp_ne (tgt := 122) hx hb dX11_span_114 (by decide) (fun c_11 => absurd (by decide) c_11) (fun c_11 => ?_)
  refine lv_iload hx hb dX11_span_117 (lv_at hl 1 rfl) ?_
  refine lv_goto (tgt := 124) hx hb dX11_span_119 (by decide) ?_
  exact th_iret E hr hlk hs hT_9 hS_9 ⟨rfl, rfl⟩ dX11_span_124
set_option maxHeartbeats 4000000 in
set_option maxRecDepth 100000 in
/-- StreamEnds.span -/
theorem c_X11_span_v6 (l : Launch) (D : va_G) (cI cS : ClassId) (τ : Nat → Option Nat) (ρ : Nat → Nat → Nat) (hW : WF τ ρ) (H : Heap) (hT : TH D cI cS τ ρ H) (a0 : Nat) (x0 : Int32) (ha0 : τ a0 = some 11) (bl_x0 : 2 ≤ x0.toInt) : MI l D cI cS τ ρ yX11_span cX11_span 8 (some .int) 1 20 H [.ref a0, .int 0, .int (-1), .int x0] (fun (r : Int32) (u : Heap) => H = u ∧ (-1) = r) (fun q => False) := by
  refine MI.of (by decide) (Nat.le_of_ble_eq_true rfl) ?_
  intro p e s m args below meth c E hml hr hlk hs ls hl
  have hx := E.1
  have hb := E.2.1
  have hown := E.2.2.1
  have hts := E.2.2.2.1
  have hS : SS (fun q => False) H H [] := SS.rf
  have hl : lv_has ls 8 [(0, .ref a0), (1, .int 0), (2, .int (-1)), (3, .int x0)] := hl
  refine lv_iload_n hx hb dX11_span_0 rfl (lv_at hl 1 rfl) ?_
  refine th_Si (As := [.int 0]) (rest := []) E hml hl.1 (c_X11_isEnd_v3 l D cI cS τ ρ hW H hT) lk_X11_65 yd_X11_isEnd hS (fun _ h => h.elim) ⟨by decide, by decide⟩ (Nat.le_of_ble_eq_true rfl) ⟨by decide, by decide⟩ rfl dX11_span_1 (fun r_1 H_1 locs_1 p_1 hT_1 hk_1 hS_1 => ?_)
  have p_1 : H = H_1 ∧ 1 = r_1 := p_1
  obtain ⟨rfl, rfl⟩ := p_1
  refine lv_if_eq (tgt := 21) hx hb dX11_span_4 (by decide) (fun c_2 => absurd c_2 (by decide)) (fun c_2 => ?_)
  refine lv_iload_n hx hb dX11_span_7 rfl (lv_at hl 2 rfl) ?_
  refine lv_iconst (v := (-1)) hx hb dX11_span_8 (by decide) ?_
  refine lv_icmp_lt (tgt := 21) hx hb dX11_span_9 (by decide) (fun c_3 => absurd c_3 (by decide)) (fun c_3 => ?_)
  refine lv_iload_n hx hb dX11_span_12 rfl (lv_at hl 3 rfl) ?_
  refine lv_if_lt (tgt := 21) hx hb dX11_span_13 (by decide) (fun c_4 => False.elim (by (have : (0 : Int32).toInt = 0 := (by decide); have : x0.toInt < (0 : Int32).toInt := Int32.lt_iff_toInt_lt.mp c_4; omega))) (fun c_4 => ?_)
  refine lv_iload_n hx hb dX11_span_16 rfl (lv_at hl 3 rfl) ?_
  refine lv_iconst (v := 1) hx hb dX11_span_17 (by decide) ?_
  refine lv_icmp_le (tgt := 23) hx hb dX11_span_18 (by decide) (fun c_5 => False.elim (by (have : (1 : Int32).toInt = 1 := (by decide); have : x0.toInt ≤ (1 : Int32).toInt := Int32.le_iff_toInt_le.mp c_5; omega))) (fun c_5 => ?_)
  refine lv_iconst (v := (-1)) hx hb dX11_span_21 (by decide) ?_
  exact th_iret E hr hlk hs hT_1 hS_1 ⟨rfl, rfl⟩ dX11_span_22
set_option maxHeartbeats 4000000 in
set_option maxRecDepth 100000 in
/-- StreamEnds.span -/
theorem c_X11_span_v7 (l : Launch) (D : va_G) (cI cS : ClassId) (τ : Nat → Option Nat) (ρ : Nat → Nat → Nat) (hW : WF τ ρ) (H : Heap) (hT : TH D cI cS τ ρ H) (a0 : Nat) (x0 : Int32) (x1 : Int32) (ha0 : τ a0 = some 11) (bl_x0 : 0 ≤ x0.toInt) (bh_x1 : x1.toInt ≤ -1) : MI l D cI cS τ ρ yX11_span cX11_span 8 (some .int) 1 20 H [.ref a0, .int 0, .int x0, .int x1] (fun (r : Int32) (u : Heap) => H = u ∧ (-1) = r) (fun q => False) := by
  refine MI.of (by decide) (Nat.le_of_ble_eq_true rfl) ?_
  intro p e s m args below meth c E hml hr hlk hs ls hl
  have hx := E.1
  have hb := E.2.1
  have hown := E.2.2.1
  have hts := E.2.2.2.1
  have hS : SS (fun q => False) H H [] := SS.rf
  have hl : lv_has ls 8 [(0, .ref a0), (1, .int 0), (2, .int x0), (3, .int x1)] := hl
  refine lv_iload_n hx hb dX11_span_0 rfl (lv_at hl 1 rfl) ?_
  refine th_Si (As := [.int 0]) (rest := []) E hml hl.1 (c_X11_isEnd_v3 l D cI cS τ ρ hW H hT) lk_X11_65 yd_X11_isEnd hS (fun _ h => h.elim) ⟨by decide, by decide⟩ (Nat.le_of_ble_eq_true rfl) ⟨by decide, by decide⟩ rfl dX11_span_1 (fun r_1 H_1 locs_1 p_1 hT_1 hk_1 hS_1 => ?_)
  have p_1 : H = H_1 ∧ 1 = r_1 := p_1
  obtain ⟨rfl, rfl⟩ := p_1
  refine lv_if_eq (tgt := 21) hx hb dX11_span_4 (by decide) (fun c_2 => absurd c_2 (by decide)) (fun c_2 => ?_)
  refine lv_iload_n hx hb dX11_span_7 rfl (lv_at hl 2 rfl) ?_
  refine lv_iconst (v := (-1)) hx hb dX11_span_8 (by decide) ?_
  refine lv_icmp_lt (tgt := 21) hx hb dX11_span_9 (by decide) (fun c_3 => False.elim (by (have : ((-1) : Int32).toInt = -1 := (by decide); have : x0.toInt < ((-1) : Int32).toInt := Int32.lt_iff_toInt_lt.mp c_3; omega))) (fun c_3 => ?_)
  refine lv_iload_n hx hb dX11_span_12 rfl (lv_at hl 3 rfl) ?_
  refine lv_if_lt (tgt := 21) hx hb dX11_span_13 (by decide) (fun c_4 => ?_) (fun c_4 => False.elim (by (have : (0 : Int32).toInt = 0 := (by decide); have : ¬ x1.toInt < (0 : Int32).toInt := fun q => c_4 (Int32.lt_iff_toInt_lt.mpr q); omega)))
  refine lv_iconst (v := (-1)) hx hb dX11_span_21 (by decide) ?_
  exact th_iret E hr hlk hs hT_1 hS_1 ⟨rfl, rfl⟩ dX11_span_22
set_option maxHeartbeats 4000000 in
set_option maxRecDepth 100000 in
/-- StreamEnds.span -/
theorem c_X11_span_v8 (l : Launch) (D : va_G) (cI cS : ClassId) (τ : Nat → Option Nat) (ρ : Nat → Nat → Nat) (hW : WF τ ρ) (H : Heap) (hT : TH D cI cS τ ρ H) (a0 : Nat) (x0 : Int32) (x1 : Int32) (ha0 : τ a0 = some 11) (bl_x0 : 0 ≤ x0.toInt) (bl_x1 : 0 ≤ x1.toInt) (bh_x1 : x1.toInt ≤ 1) (hf_1 : fi D 3 0 H (ρ (ρ (ρ a0 2) 3) 5) = 0) (hf_2 : fi D 3 2 H (ρ (ρ (ρ a0 2) 3) 5) = 13) (hf_3 : fl D 3 5 H (ρ (ρ (ρ a0 2) 3) 5) = 0) : MI l D cI cS τ ρ yX11_span cX11_span 8 (some .int) 1 22 H [.ref a0, .int 0, .int x0, .int x1] (fun (r : Int32) (u : Heap) => H = u ∧ (-4) = r) (fun q => False) := by
  refine MI.of (by decide) (Nat.le_of_ble_eq_true rfl) ?_
  intro p e s m args below meth c E hml hr hlk hs ls hl
  have hx := E.1
  have hb := E.2.1
  have hown := E.2.2.1
  have hts := E.2.2.2.1
  have hS : SS (fun q => False) H H [] := SS.rf
  have hl : lv_has ls 8 [(0, .ref a0), (1, .int 0), (2, .int x0), (3, .int x1)] := hl
  refine lv_iload_n hx hb dX11_span_0 rfl (lv_at hl 1 rfl) ?_
  refine th_Si (As := [.int 0]) (rest := []) E hml hl.1 (c_X11_isEnd_v3 l D cI cS τ ρ hW H hT) lk_X11_65 yd_X11_isEnd hS (fun _ h => h.elim) ⟨by decide, by decide⟩ (Nat.le_of_ble_eq_true rfl) ⟨by decide, by decide⟩ rfl dX11_span_1 (fun r_1 H_1 locs_1 p_1 hT_1 hk_1 hS_1 => ?_)
  have p_1 : H = H_1 ∧ 1 = r_1 := p_1
  obtain ⟨rfl, rfl⟩ := p_1
  refine lv_if_eq (tgt := 21) hx hb dX11_span_4 (by decide) (fun c_2 => absurd c_2 (by decide)) (fun c_2 => ?_)
  refine lv_iload_n hx hb dX11_span_7 rfl (lv_at hl 2 rfl) ?_
  refine lv_iconst (v := (-1)) hx hb dX11_span_8 (by decide) ?_
  refine lv_icmp_lt (tgt := 21) hx hb dX11_span_9 (by decide) (fun c_3 => False.elim (by (have : ((-1) : Int32).toInt = -1 := (by decide); have : x0.toInt < ((-1) : Int32).toInt := Int32.lt_iff_toInt_lt.mp c_3; omega))) (fun c_3 => ?_)
  refine lv_iload_n hx hb dX11_span_12 rfl (lv_at hl 3 rfl) ?_
  refine lv_if_lt (tgt := 21) hx hb dX11_span_13 (by decide) (fun c_4 => False.elim (by (have : (0 : Int32).toInt = 0 := (by decide); have : x1.toInt < (0 : Int32).toInt := Int32.lt_iff_toInt_lt.mp c_4; omega))) (fun c_4 => ?_)
  refine lv_iload_n hx hb dX11_span_16 rfl (lv_at hl 3 rfl) ?_
  refine lv_iconst (v := 1) hx hb dX11_span_17 (by decide) ?_
  refine lv_icmp_le (tgt := 23) hx hb dX11_span_18 (by decide) (fun c_5 => ?_) (fun c_5 => False.elim (by (have : (1 : Int32).toInt = 1 := (by decide); have : ¬ x1.toInt ≤ (1 : Int32).toInt := fun q => c_5 (Int32.le_iff_toInt_le.mpr q); omega)))
  refine lv_aload_n hx hb dX11_span_23 rfl (lv_at hl 0 rfl) ?_
  refine gf_X11_26 E hT_1 hW ha0 dX11_span_24 (fun h_6 => ?_)
  refine lv_iload_n hx hb dX11_span_27 rfl (lv_at hl 1 rfl) ?_
  refine th_Vr (As := [.int 0]) (rest := []) E hml hl.1 (c_X4_endpoint l D cI cS τ ρ hW H hT_1 (ρ a0 2) h_6) lk_X11_68 yd_X4_endpoint hT_1 h_6 rfl (by decide) hS_1 (fun _ h => h.elim) ⟨by decide, by decide⟩ (Nat.le_of_ble_eq_true rfl) ⟨by decide, by decide⟩ rfl dX11_span_28 (fun r_7 H_7 locs_7 p_7 hT_7 hk_7 hS_7 => ?_)
  have p_7 : H = H_7 ∧ ρ (ρ a0 2) 3 = r_7 := p_7
  obtain ⟨rfl, rfl⟩ := p_7
  have h_7 : τ (ρ (ρ a0 2) 3) = some 2 := hW _ 4 3 h_6 (by decide) (by decide) (by decide)
  refine gf_X11_143 E hT_7 hW h_7 dX11_span_31 (fun h_8 => ?_)
  refine lv_astore (lv' := [(4, .ref (ρ (ρ (ρ a0 2) 3) 5)), (0, .ref a0), (1, .int 0), (2, .int x0), (3, .int x1)]) hx hb dX11_span_34 hl (by decide) rfl (fun ls hl => ?_)
  refine lv_iconst (v := 0) hx hb dX11_span_36 (by decide) ?_
  refine lv_istore (lv' := [(5, .int 0), (4, .ref (ρ (ρ (ρ a0 2) 3) 5)), (0, .ref a0), (1, .int 0), (2, .int x0), (3, .int x1)]) hx hb dX11_span_37 hl (by decide) rfl (fun ls hl => ?_)
  refine lv_aload hx hb dX11_span_39 (lv_at hl 1 rfl) ?_
  refine lv_aload hx hb dX11_span_41 (lv_at hl 1 rfl) ?_
  refine gf_X11_217 E hT_7 h_8 dX11_span_43 ?_
  refine th_topi (y := 0) hf_1 ?_
  refine lv_iconst (v := 1) hx hb dX11_span_46 (by decide) ?_
  refine lv_iadd hx hb dX11_span_47 ?_
  refine th_topi (y := 1) (by decide) ?_
  refine th_Vi (As := [.int 1]) (rest := []) E hml hl.1 (c_X3_nextHeld l D cI cS τ ρ hW H hT_7 (ρ (ρ (ρ a0 2) 3) 5) h_8 hf_2 hf_3) lk_X11_220 yd_X3_nextHeld hT_7 h_8 rfl (by decide) hS_7 (fun _ h => h.elim) ⟨by decide, by decide⟩ (Nat.le_of_ble_eq_true rfl) ⟨by decide, by decide⟩ rfl dX11_span_48 (fun r_9 H_9 locs_9 p_9 hT_9 hk_9 hS_9 => ?_)
  have p_9 : H = H_9 ∧ 13 = r_9 := p_9
  obtain ⟨rfl, rfl⟩ := p_9
  refine lv_istore (lv' := [(6, .int 13), (5, .int 0), (4, .ref (ρ (ρ (ρ a0 2) 3) 5)), (0, .ref a0), (1, .int 0), (2, .int x0), (3, .int x1)]) hx hb dX11_span_51 hl (by decide) rfl (fun ls hl => ?_)
  refine lv_iload hx hb dX11_span_53 (lv_at hl 0 rfl) ?_
  refine lv_aload hx hb dX11_span_55 (lv_at hl 2 rfl) ?_
  refine gf_X11_223 E hT_9 h_8 dX11_span_57 ?_
  refine th_topi (y := 13) hf_2 ?_
  refine lv_icmp_ge (tgt := 112) hx hb dX11_span_60 (by decide) (fun c_10 => ?_) (fun c_10 => absurd (by decide) c_10)
  refine lv_iload_n hx hb dX11_span_112 rfl (lv_at hl 5 rfl) ?_
  refine lv_iconst (v := (-1)) hx hb dX11_span_113 (by decide) ?_
  refine lv_icmp_ne (tgt := 122) hx hb dX11_span_114 (by decide) (fun c_11 => ?_) (fun c_11 => False.elim (by (have : ((-1) : Int32).toInt = -1 := (by decide); have := congrArg Int32.toInt c_11; omega)))
  refine lv_bipush (v := (-4)) hx hb dX11_span_122 (by decide) ?_
  exact th_iret E hr hlk hs hT_9 hS_9 ⟨rfl, rfl⟩ dX11_span_124
set_option maxHeartbeats 4000000 in
set_option maxRecDepth 100000 in
/-- StreamEnds.span -/
theorem c_X11_span_v9 (l : Launch) (D : va_G) (cI cS : ClassId) (τ : Nat → Option Nat) (ρ : Nat → Nat → Nat) (hW : WF τ ρ) (H : Heap) (hT : TH D cI cS τ ρ H) (a0 : Nat) (x0 : Int32) (x1 : Int32) (ha0 : τ a0 = some 11) (bl_x0 : 0 ≤ x0.toInt) (bl_x1 : 2 ≤ x1.toInt) : MI l D cI cS τ ρ yX11_span cX11_span 8 (some .int) 1 20 H [.ref a0, .int 0, .int x0, .int x1] (fun (r : Int32) (u : Heap) => H = u ∧ (-1) = r) (fun q => False) := by
  refine MI.of (by decide) (Nat.le_of_ble_eq_true rfl) ?_
  intro p e s m args below meth c E hml hr hlk hs ls hl
  have hx := E.1
  have hb := E.2.1
  have hown := E.2.2.1
  have hts := E.2.2.2.1
  have hS : SS (fun q => False) H H [] := SS.rf
  have hl : lv_has ls 8 [(0, .ref a0), (1, .int 0), (2, .int x0), (3, .int x1)] := hl
  refine lv_iload_n hx hb dX11_span_0 rfl (lv_at hl 1 rfl) ?_
  refine th_Si (As := [.int 0]) (rest := []) E hml hl.1 (c_X11_isEnd_v3 l D cI cS τ ρ hW H hT) lk_X11_65 yd_X11_isEnd hS (fun _ h => h.elim) ⟨by decide, by decide⟩ (Nat.le_of_ble_eq_true rfl) ⟨by decide, by decide⟩ rfl dX11_span_1 (fun r_1 H_1 locs_1 p_1 hT_1 hk_1 hS_1 => ?_)
  have p_1 : H = H_1 ∧ 1 = r_1 := p_1
  obtain ⟨rfl, rfl⟩ := p_1
  refine lv_if_eq (tgt := 21) hx hb dX11_span_4 (by decide) (fun c_2 => absurd c_2 (by decide)) (fun c_2 => ?_)
  refine lv_iload_n hx hb dX11_span_7 rfl (lv_at hl 2 rfl) ?_
  refine lv_iconst (v := (-1)) hx hb dX11_span_8 (by decide) ?_
  refine lv_icmp_lt (tgt := 21) hx hb dX11_span_9 (by decide) (fun c_3 => False.elim (by (have : ((-1) : Int32).toInt = -1 := (by decide); have : x0.toInt < ((-1) : Int32).toInt := Int32.lt_iff_toInt_lt.mp c_3; omega))) (fun c_3 => ?_)
  refine lv_iload_n hx hb dX11_span_12 rfl (lv_at hl 3 rfl) ?_
  refine lv_if_lt (tgt := 21) hx hb dX11_span_13 (by decide) (fun c_4 => False.elim (by (have : (0 : Int32).toInt = 0 := (by decide); have : x1.toInt < (0 : Int32).toInt := Int32.lt_iff_toInt_lt.mp c_4; omega))) (fun c_4 => ?_)
  refine lv_iload_n hx hb dX11_span_16 rfl (lv_at hl 3 rfl) ?_
  refine lv_iconst (v := 1) hx hb dX11_span_17 (by decide) ?_
  refine lv_icmp_le (tgt := 23) hx hb dX11_span_18 (by decide) (fun c_5 => False.elim (by (have : (1 : Int32).toInt = 1 := (by decide); have : x1.toInt ≤ (1 : Int32).toInt := Int32.le_iff_toInt_le.mp c_5; omega))) (fun c_5 => ?_)
  refine lv_iconst (v := (-1)) hx hb dX11_span_21 (by decide) ?_
  exact th_iret E hr hlk hs hT_1 hS_1 ⟨rfl, rfl⟩ dX11_span_22
set_option maxHeartbeats 4000000 in
set_option maxRecDepth 100000 in
/-- StreamEnds.isEnd -/
theorem c_X11_isEnd_v4 (l : Launch) (D : va_G) (cI cS : ClassId) (τ : Nat → Option Nat) (ρ : Nat → Nat → Nat) (hW : WF τ ρ) (H : Heap) (hT : TH D cI cS τ ρ H) : MI l D cI cS τ ρ yX11_isEnd cX11_isEnd 1 (some .boolean) 0 0 H [.int 1] (fun (r : Int32) (u : Heap) => H = u ∧ 1 = r) (fun q => False) := by
  refine MI.of (by decide) (Nat.le_of_ble_eq_true rfl) ?_
  intro p e s m args below meth c E hml hr hlk hs ls hl
  have hx := E.1
  have hb := E.2.1
  have hown := E.2.2.1
  have hts := E.2.2.2.1
  have hS : SS (fun q => False) H H [] := SS.rf
  have hl : lv_has ls 1 [(0, .int 1)] := hl
  refine lv_iload_n hx hb dX11_isEnd_0 rfl (lv_at hl 0 rfl) ?_
  refine lv_if_eq (tgt := 9) hx hb dX11_isEnd_1 (by decide) (fun c_1 => absurd c_1 (by decide)) (fun c_1 => ?_)
  refine lv_iload_n hx hb dX11_isEnd_4 rfl (lv_at hl 0 rfl) ?_
  refine lv_iconst (v := 1) hx hb dX11_isEnd_5 (by decide) ?_
  refine lv_icmp_ne (tgt := 13) hx hb dX11_isEnd_6 (by decide) (fun c_2 => absurd (by decide) c_2) (fun c_2 => ?_)
  refine lv_iconst (v := 1) hx hb dX11_isEnd_9 (by decide) ?_
  refine lv_goto (tgt := 14) hx hb dX11_isEnd_10 (by decide) ?_
  exact th_zret E hr hlk hs (Or.inr rfl) hT hS ⟨rfl, rfl⟩ dX11_isEnd_14
set_option maxHeartbeats 4000000 in
set_option maxRecDepth 100000 in
/-- StreamEnds.open -/
theorem c_X11_open_v7 (l : Launch) (D : va_G) (cI cS : ClassId) (τ : Nat → Option Nat) (ρ : Nat → Nat → Nat) (hW : WF τ ρ) (H : Heap) (hT : TH D cI cS τ ρ H) (a0 : Nat) (x0 : Int32) (ha0 : τ a0 = some 11) (bh_x0 : x0.toInt ≤ -1) : MI l D cI cS τ ρ yX11_open cX11_open 4 (some .int) 1 20 H [.ref a0, .int 1, .int x0] (fun (r : Int32) (u : Heap) => H = u ∧ (-1) = r) (fun q => False) := by
  refine MI.of (by decide) (Nat.le_of_ble_eq_true rfl) ?_
  intro p e s m args below meth c E hml hr hlk hs ls hl
  have hx := E.1
  have hb := E.2.1
  have hown := E.2.2.1
  have hts := E.2.2.2.1
  have hS : SS (fun q => False) H H [] := SS.rf
  have hl : lv_has ls 4 [(0, .ref a0), (1, .int 1), (2, .int x0)] := hl
  refine lv_iload_n hx hb dX11_open_0 rfl (lv_at hl 1 rfl) ?_
  refine th_Si (As := [.int 1]) (rest := []) E hml hl.1 (c_X11_isEnd_v4 l D cI cS τ ρ hW H hT) lk_X11_65 yd_X11_isEnd hS (fun _ h => h.elim) ⟨by decide, by decide⟩ (Nat.le_of_ble_eq_true rfl) ⟨by decide, by decide⟩ rfl dX11_open_1 (fun r_1 H_1 locs_1 p_1 hT_1 hk_1 hS_1 => ?_)
  have p_1 : H = H_1 ∧ 1 = r_1 := p_1
  obtain ⟨rfl, rfl⟩ := p_1
  refine lv_if_eq (tgt := 16) hx hb dX11_open_4 (by decide) (fun c_2 => absurd c_2 (by decide)) (fun c_2 => ?_)
  refine lv_iload_n hx hb dX11_open_7 rfl (lv_at hl 2 rfl) ?_
  refine lv_if_lt (tgt := 16) hx hb dX11_open_8 (by decide) (fun c_3 => ?_) (fun c_3 => False.elim (by (have : (0 : Int32).toInt = 0 := (by decide); have : ¬ x0.toInt < (0 : Int32).toInt := fun q => c_3 (Int32.lt_iff_toInt_lt.mpr q); omega)))
  refine lv_iconst (v := (-1)) hx hb dX11_open_16 (by decide) ?_
  exact th_iret E hr hlk hs hT_1 hS_1 ⟨rfl, rfl⟩ dX11_open_17
set_option maxHeartbeats 4000000 in
set_option maxRecDepth 100000 in
/-- StreamEnds$Network.endpoint -/
theorem c_X4_endpoint_v2 (l : Launch) (D : va_G) (cI cS : ClassId) (τ : Nat → Option Nat) (ρ : Nat → Nat → Nat) (hW : WF τ ρ) (H : Heap) (hT : TH D cI cS τ ρ H) (a0 : Nat) (ha0 : τ a0 = some 4) : MR l D cI cS τ ρ yX4_endpoint cX4_endpoint 2 (some (.object "StreamEnds$Endpoint")) 0 0 H [.ref a0, .int 1] (fun (r : Nat) (u : Heap) => H = u ∧ ρ a0 4 = r) (fun q => False) := by
  refine MR.of (by decide) (Nat.le_of_ble_eq_true rfl) ?_
  intro p e s m args below meth c E hml hr hlk hs ls hl
  have hx := E.1
  have hb := E.2.1
  have hown := E.2.2.1
  have hts := E.2.2.2.1
  have hS : SS (fun q => False) H H [] := SS.rf
  have hl : lv_has ls 2 [(0, .ref a0), (1, .int 1)] := hl
  refine lv_iload_n hx hb dX4_endpoint_0 rfl (lv_at hl 1 rfl) ?_
  refine lv_if_ne (tgt := 11) hx hb dX4_endpoint_1 (by decide) (fun c_1 => ?_) (fun c_1 => absurd c_1 (by decide))
  refine lv_aload_n hx hb dX4_endpoint_11 rfl (lv_at hl 0 rfl) ?_
  refine gf_X4_41 E hT hW ha0 dX4_endpoint_12 (fun h_2 => ?_)
  exact th_aret E hr hlk hs hT hS ⟨rfl, rfl⟩ dX4_endpoint_15
set_option maxHeartbeats 4000000 in
set_option maxRecDepth 100000 in
/-- StreamEnds.open -/
theorem c_X11_open_v8 (l : Launch) (D : va_G) (cI cS : ClassId) (τ : Nat → Option Nat) (ρ : Nat → Nat → Nat) (hW : WF τ ρ) (H : Heap) (hT : TH D cI cS τ ρ H) (a0 : Nat) (ha0 : τ a0 = some 11) (hf_1 : fi D 2 7 H (ρ (ρ a0 2) 4) = 0) (he_2 : ρ (ρ a0 2) 1 = ρ (ρ (ρ a0 2) 4) 2) (hf_3 : fi D 10 2 H (ρ (ρ (ρ a0 2) 4) 2) = 0) : MI l D cI cS τ ρ yX11_open cX11_open 4 (some .int) 2 41 H [.ref a0, .int 1, .int 0] (fun (r : Int32) (u : Heap) => 0 = r ∧ fi D 7 0 u (ρ (ρ (ρ a0 2) 4) 6) = 6 ∧ fi D 7 1 u (ρ (ρ (ρ a0 2) 4) 6) = 0 ∧ fi D 7 2 u (ρ (ρ (ρ a0 2) 4) 6) = 0 ∧ fi D 7 3 u (ρ (ρ (ρ a0 2) 4) 6) = (-4) ∧ fi D 7 4 u (ρ (ρ (ρ a0 2) 4) 6) = 0 ∧ fi D 7 5 u (ρ (ρ (ρ a0 2) 4) 6) = 0 ∧ fi D 3 0 u (ρ (ρ (ρ a0 2) 4) 5) = 0 ∧ fi D 3 1 u (ρ (ρ (ρ a0 2) 4) 5) = 1 ∧ fi D 3 2 u (ρ (ρ (ρ a0 2) 4) 5) = (fi D 1 1 H (ρ (ρ (ρ a0 2) 4) 1)) + 1 ∧ fi D 3 3 u (ρ (ρ (ρ a0 2) 4) 5) = (-4) ∧ fi D 3 4 u (ρ (ρ (ρ a0 2) 4) 5) = 0 ∧ fl D 3 5 u (ρ (ρ (ρ a0 2) 4) 5) = 0 ∧ fi D 5 0 u (ρ (ρ (ρ a0 2) 4) 4) = 0 ∧ fi D 5 1 u (ρ (ρ (ρ a0 2) 4) 4) = 0 ∧ fi D 5 2 u (ρ (ρ (ρ a0 2) 4) 4) = 1 ∧ fi D 5 3 u (ρ (ρ (ρ a0 2) 4) 4) = 0 ∧ fi D 5 4 u (ρ (ρ (ρ a0 2) 4) 4) = 0 ∧ fi D 5 5 u (ρ (ρ (ρ a0 2) 4) 4) = 0 ∧ fl D 5 6 u (ρ (ρ (ρ a0 2) 4) 4) = 0 ∧ fi D 2 8 u (ρ (ρ a0 2) 4) = 0) (fun q => q = ρ (ρ a0 2) 4 ∨ q = ρ (ρ (ρ a0 2) 4) 4 ∨ q = ρ (ρ (ρ a0 2) 4) 5 ∨ q = ρ (ρ (ρ a0 2) 4) 6) := by
  refine MI.of (by decide) (Nat.le_of_ble_eq_true rfl) ?_
  intro p e s m args below meth c E hml hr hlk hs ls hl
  have hx := E.1
  have hb := E.2.1
  have hown := E.2.2.1
  have hts := E.2.2.2.1
  have hS : SS (fun q => q = ρ (ρ a0 2) 4 ∨ q = ρ (ρ (ρ a0 2) 4) 4 ∨ q = ρ (ρ (ρ a0 2) 4) 5 ∨ q = ρ (ρ (ρ a0 2) 4) 6) H H [] := SS.rf
  have hl : lv_has ls 4 [(0, .ref a0), (1, .int 1), (2, .int 0)] := hl
  refine lv_iload_n hx hb dX11_open_0 rfl (lv_at hl 1 rfl) ?_
  refine th_Si (As := [.int 1]) (rest := []) E hml hl.1 (c_X11_isEnd_v4 l D cI cS τ ρ hW H hT) lk_X11_65 yd_X11_isEnd hS (fun _ h => h.elim) ⟨by decide, by decide⟩ (Nat.le_of_ble_eq_true rfl) ⟨by decide, by decide⟩ rfl dX11_open_1 (fun r_1 H_1 locs_1 p_1 hT_1 hk_1 hS_1 => ?_)
  have p_1 : H = H_1 ∧ 1 = r_1 := p_1
  obtain ⟨rfl, rfl⟩ := p_1
  refine lv_if_eq (tgt := 16) hx hb dX11_open_4 (by decide) (fun c_2 => absurd c_2 (by decide)) (fun c_2 => ?_)
  refine lv_iload_n hx hb dX11_open_7 rfl (lv_at hl 2 rfl) ?_
  refine lv_if_lt (tgt := 16) hx hb dX11_open_8 (by decide) (fun c_3 => absurd c_3 (by decide)) (fun c_3 => ?_)
  refine lv_iload_n hx hb dX11_open_11 rfl (lv_at hl 2 rfl) ?_
  refine lv_iconst (v := 1) hx hb dX11_open_12 (by decide) ?_
  refine lv_icmp_le (tgt := 18) hx hb dX11_open_13 (by decide) (fun c_4 => ?_) (fun c_4 => absurd (by decide) c_4)
  refine lv_aload_n hx hb dX11_open_18 rfl (lv_at hl 0 rfl) ?_
  refine gf_X11_26 E hT_1 hW ha0 dX11_open_19 (fun h_5 => ?_)
  refine lv_iload_n hx hb dX11_open_22 rfl (lv_at hl 1 rfl) ?_
  refine th_Vr (As := [.int 1]) (rest := []) E hml hl.1 (c_X4_endpoint_v2 l D cI cS τ ρ hW H hT_1 (ρ a0 2) h_5) lk_X11_68 yd_X4_endpoint hT_1 h_5 rfl (by decide) hS_1 (fun _ h => h.elim) ⟨by decide, by decide⟩ (Nat.le_of_ble_eq_true rfl) ⟨by decide, by decide⟩ rfl dX11_open_23 (fun r_6 H_6 locs_6 p_6 hT_6 hk_6 hS_6 => ?_)
  have p_6 : H = H_6 ∧ ρ (ρ a0 2) 4 = r_6 := p_6
  obtain ⟨rfl, rfl⟩ := p_6
  have h_6 : τ (ρ (ρ a0 2) 4) = some 2 := hW _ 4 4 h_5 (by decide) (by decide) (by decide)
  refine lv_astore_n (lv' := [(3, .ref (ρ (ρ a0 2) 4)), (0, .ref a0), (1, .int 1), (2, .int 0)]) hx hb dX11_open_26 rfl hl (by decide) rfl (fun ls hl => ?_)
  refine lv_aload_n hx hb dX11_open_27 rfl (lv_at hl 0 rfl) ?_
  refine gf_X11_72 E hT_6 h_6 dX11_open_28 ?_
  refine th_topi (y := 0) hf_1 ?_
  refine lv_if_eq (tgt := 37) hx hb dX11_open_31 (by decide) (fun c_7 => ?_) (fun c_7 => absurd (by decide) c_7)
  refine lv_aload_n hx hb dX11_open_37 rfl (lv_at hl 0 rfl) ?_
  refine th_Vv (As := []) (rest := []) E hml hl.1 (c_X2_start l D cI cS τ ρ hW H hT_6 (ρ (ρ a0 2) 4) h_6) lk_X11_77 yd_X2_start hT_6 h_6 rfl (by decide) hS_6 (fun q => (fun h => h.elim (fun h => (Or.inl h)) (fun h => h.elim (fun h => (Or.inr (Or.inl h))) (fun h => h.elim (fun h => (Or.inr (Or.inr (Or.inl h)))) (fun h => (Or.inr (Or.inr (Or.inr h)))))))) ⟨by decide, by decide⟩ (Nat.le_of_ble_eq_true rfl) ⟨by decide, by decide⟩ rfl dX11_open_38 (fun H_8 locs_8 p_8 hT_8 hk_8 hS_8 => ?_)
  have p_8 : fi D 2 9 H_8 (ρ (ρ a0 2) 4) = 0 ∧ fi D 2 8 H_8 (ρ (ρ a0 2) 4) = 0 ∧ fi D 2 7 H_8 (ρ (ρ a0 2) 4) = 0 ∧ fl D 5 6 H_8 (ρ (ρ (ρ a0 2) 4) 4) = 0 ∧ fi D 5 5 H_8 (ρ (ρ (ρ a0 2) 4) 4) = 0 ∧ fi D 5 4 H_8 (ρ (ρ (ρ a0 2) 4) 4) = 0 ∧ fi D 5 3 H_8 (ρ (ρ (ρ a0 2) 4) 4) = 0 ∧ fi D 5 2 H_8 (ρ (ρ (ρ a0 2) 4) 4) = 1 ∧ fi D 5 1 H_8 (ρ (ρ (ρ a0 2) 4) 4) = 0 ∧ fi D 5 0 H_8 (ρ (ρ (ρ a0 2) 4) 4) = 0 ∧ fl D 3 5 H_8 (ρ (ρ (ρ a0 2) 4) 5) = 0 ∧ fi D 3 4 H_8 (ρ (ρ (ρ a0 2) 4) 5) = 0 ∧ fi D 3 3 H_8 (ρ (ρ (ρ a0 2) 4) 5) = (-4) ∧ fi D 3 2 H_8 (ρ (ρ (ρ a0 2) 4) 5) = (fi D 1 1 H (ρ (ρ (ρ a0 2) 4) 1)) + 1 ∧ fi D 3 1 H_8 (ρ (ρ (ρ a0 2) 4) 5) = 1 ∧ fi D 3 0 H_8 (ρ (ρ (ρ a0 2) 4) 5) = 0 ∧ fi D 7 5 H_8 (ρ (ρ (ρ a0 2) 4) 6) = 0 ∧ fi D 7 4 H_8 (ρ (ρ (ρ a0 2) 4) 6) = 0 ∧ fi D 7 3 H_8 (ρ (ρ (ρ a0 2) 4) 6) = (-4) ∧ fi D 7 2 H_8 (ρ (ρ (ρ a0 2) 4) 6) = 0 ∧ fi D 7 1 H_8 (ρ (ρ (ρ a0 2) 4) 6) = 0 ∧ fi D 7 0 H_8 (ρ (ρ (ρ a0 2) 4) 6) = 6 := p_8
  obtain ⟨p_8_0, p_8_1, p_8_2, p_8_3, p_8_4, p_8_5, p_8_6, p_8_7, p_8_8, p_8_9, p_8_10, p_8_11, p_8_12, p_8_13, p_8_14, p_8_15, p_8_16, p_8_17, p_8_18, p_8_19, p_8_20, p_8_21⟩ := p_8
  refine lv_iload_n hx hb dX11_open_41 rfl (lv_at hl 3 rfl) ?_
  refine lv_if_ne (tgt := 53) hx hb dX11_open_42 (by decide) (fun c_9 => absurd (by decide) c_9) (fun c_9 => ?_)
  refine lv_aload_n hx hb dX11_open_45 rfl (lv_at hl 0 rfl) ?_
  refine lv_iconst (v := 1) hx hb dX11_open_46 (by decide) ?_
  refine pf_X11_72 E hT_8 hS_8 h_6 (Or.inl rfl) dX11_open_47 (fun H_10 locs_10 hT_10 hU_10 hS_10 => ?_)
  refine lv_goto (tgt := 62) hx hb dX11_open_50 (by decide) ?_
  refine lv_aload_n hx hb dX11_open_62 rfl (lv_at hl 0 rfl) ?_
  refine th_Vv (As := []) (rest := []) E hml hl.1 (c_X2_adjustTimer l D cI cS τ ρ hW H_10 hT_10 (ρ (ρ a0 2) 4) h_6 (PU.i hU_10)) lk_X11_83 yd_X2_adjustTimer hT_10 h_6 rfl (by decide) hS_10 (fun q h => (Or.inl h)) ⟨by decide, by decide⟩ (Nat.le_of_ble_eq_true rfl) ⟨by decide, by decide⟩ rfl dX11_open_63 (fun H_11 locs_11 p_11 hT_11 hk_11 hS_11 => ?_)
  have p_11 : fi D 2 8 H_11 (ρ (ρ a0 2) 4) = 0 := p_11
  have p_11_0 := p_11
  refine lv_aload_n hx hb dX11_open_66 rfl (lv_at hl 1 rfl) ?_
  refine gf_X11_26 E hT_11 hW ha0 dX11_open_67 (fun h_12 => ?_)
  refine gf_X11_86 E hT_11 hW h_5 dX11_open_70 (fun h_13 => ?_)
  refine th_topr he_2 ?_
  have g_13 := h_13
  rw [he_2] at g_13
  refine gf_X11_90 E hT_11 g_13 dX11_open_73 ?_
  refine th_topi (y := 0) (Eq.trans (fi_q (hk_11 _ (th_ne g_13 h_6 (by decide)))) (Eq.trans (fi_q (hU_10.2.2 _ (th_ne g_13 h_6 (by decide)))) (Eq.trans (fi_q (hk_8 _ (fun h => h.elim (th_ne g_13 h_6 (by decide)) (fun h => h.elim (th_ne g_13 (hW _ 2 4 h_6 (by decide) (by decide) (by decide)) (by decide)) (fun h => h.elim (th_ne g_13 (hW _ 2 5 h_6 (by decide) (by decide) (by decide)) (by decide)) (th_ne g_13 (hW _ 2 6 h_6 (by decide) (by decide) (by decide)) (by decide))))))) hf_3))) ?_
  exact th_iret E hr hlk hs hT_11 hS_11 ⟨rfl, (Eq.trans (fi_q (hk_11 _ (th_ne (hW _ 2 6 h_6 (by decide) (by decide) (by decide)) h_6 (by decide)))) (Eq.trans (fi_q (hU_10.2.2 _ (th_ne (hW _ 2 6 h_6 (by decide) (by decide) (by decide)) h_6 (by decide)))) p_8_21)), (Eq.trans (fi_q (hk_11 _ (th_ne (hW _ 2 6 h_6 (by decide) (by decide) (by decide)) h_6 (by decide)))) (Eq.trans (fi_q (hU_10.2.2 _ (th_ne (hW _ 2 6 h_6 (by decide) (by decide) (by decide)) h_6 (by decide)))) p_8_20)), (Eq.trans (fi_q (hk_11 _ (th_ne (hW _ 2 6 h_6 (by decide) (by decide) (by decide)) h_6 (by decide)))) (Eq.trans (fi_q (hU_10.2.2 _ (th_ne (hW _ 2 6 h_6 (by decide) (by decide) (by decide)) h_6 (by decide)))) p_8_19)), (Eq.trans (fi_q (hk_11 _ (th_ne (hW _ 2 6 h_6 (by decide) (by decide) (by decide)) h_6 (by decide)))) (Eq.trans (fi_q (hU_10.2.2 _ (th_ne (hW _ 2 6 h_6 (by decide) (by decide) (by decide)) h_6 (by decide)))) p_8_18)), (Eq.trans (fi_q (hk_11 _ (th_ne (hW _ 2 6 h_6 (by decide) (by decide) (by decide)) h_6 (by decide)))) (Eq.trans (fi_q (hU_10.2.2 _ (th_ne (hW _ 2 6 h_6 (by decide) (by decide) (by decide)) h_6 (by decide)))) p_8_17)), (Eq.trans (fi_q (hk_11 _ (th_ne (hW _ 2 6 h_6 (by decide) (by decide) (by decide)) h_6 (by decide)))) (Eq.trans (fi_q (hU_10.2.2 _ (th_ne (hW _ 2 6 h_6 (by decide) (by decide) (by decide)) h_6 (by decide)))) p_8_16)), (Eq.trans (fi_q (hk_11 _ (th_ne (hW _ 2 5 h_6 (by decide) (by decide) (by decide)) h_6 (by decide)))) (Eq.trans (fi_q (hU_10.2.2 _ (th_ne (hW _ 2 5 h_6 (by decide) (by decide) (by decide)) h_6 (by decide)))) p_8_15)), (Eq.trans (fi_q (hk_11 _ (th_ne (hW _ 2 5 h_6 (by decide) (by decide) (by decide)) h_6 (by decide)))) (Eq.trans (fi_q (hU_10.2.2 _ (th_ne (hW _ 2 5 h_6 (by decide) (by decide) (by decide)) h_6 (by decide)))) p_8_14)), (Eq.trans (fi_q (hk_11 _ (th_ne (hW _ 2 5 h_6 (by decide) (by decide) (by decide)) h_6 (by decide)))) (Eq.trans (fi_q (hU_10.2.2 _ (th_ne (hW _ 2 5 h_6 (by decide) (by decide) (by decide)) h_6 (by decide)))) p_8_13)), (Eq.trans (fi_q (hk_11 _ (th_ne (hW _ 2 5 h_6 (by decide) (by decide) (by decide)) h_6 (by decide)))) (Eq.trans (fi_q (hU_10.2.2 _ (th_ne (hW _ 2 5 h_6 (by decide) (by decide) (by decide)) h_6 (by decide)))) p_8_12)), (Eq.trans (fi_q (hk_11 _ (th_ne (hW _ 2 5 h_6 (by decide) (by decide) (by decide)) h_6 (by decide)))) (Eq.trans (fi_q (hU_10.2.2 _ (th_ne (hW _ 2 5 h_6 (by decide) (by decide) (by decide)) h_6 (by decide)))) p_8_11)), (Eq.trans (fl_q (hk_11 _ (th_ne (hW _ 2 5 h_6 (by decide) (by decide) (by decide)) h_6 (by decide)))) (Eq.trans (fl_q (hU_10.2.2 _ (th_ne (hW _ 2 5 h_6 (by decide) (by decide) (by decide)) h_6 (by decide)))) p_8_10)), (Eq.trans (fi_q (hk_11 _ (th_ne (hW _ 2 4 h_6 (by decide) (by decide) (by decide)) h_6 (by decide)))) (Eq.trans (fi_q (hU_10.2.2 _ (th_ne (hW _ 2 4 h_6 (by decide) (by decide) (by decide)) h_6 (by decide)))) p_8_9)), (Eq.trans (fi_q (hk_11 _ (th_ne (hW _ 2 4 h_6 (by decide) (by decide) (by decide)) h_6 (by decide)))) (Eq.trans (fi_q (hU_10.2.2 _ (th_ne (hW _ 2 4 h_6 (by decide) (by decide) (by decide)) h_6 (by decide)))) p_8_8)), (Eq.trans (fi_q (hk_11 _ (th_ne (hW _ 2 4 h_6 (by decide) (by decide) (by decide)) h_6 (by decide)))) (Eq.trans (fi_q (hU_10.2.2 _ (th_ne (hW _ 2 4 h_6 (by decide) (by decide) (by decide)) h_6 (by decide)))) p_8_7)), (Eq.trans (fi_q (hk_11 _ (th_ne (hW _ 2 4 h_6 (by decide) (by decide) (by decide)) h_6 (by decide)))) (Eq.trans (fi_q (hU_10.2.2 _ (th_ne (hW _ 2 4 h_6 (by decide) (by decide) (by decide)) h_6 (by decide)))) p_8_6)), (Eq.trans (fi_q (hk_11 _ (th_ne (hW _ 2 4 h_6 (by decide) (by decide) (by decide)) h_6 (by decide)))) (Eq.trans (fi_q (hU_10.2.2 _ (th_ne (hW _ 2 4 h_6 (by decide) (by decide) (by decide)) h_6 (by decide)))) p_8_5)), (Eq.trans (fi_q (hk_11 _ (th_ne (hW _ 2 4 h_6 (by decide) (by decide) (by decide)) h_6 (by decide)))) (Eq.trans (fi_q (hU_10.2.2 _ (th_ne (hW _ 2 4 h_6 (by decide) (by decide) (by decide)) h_6 (by decide)))) p_8_4)), (Eq.trans (fl_q (hk_11 _ (th_ne (hW _ 2 4 h_6 (by decide) (by decide) (by decide)) h_6 (by decide)))) (Eq.trans (fl_q (hU_10.2.2 _ (th_ne (hW _ 2 4 h_6 (by decide) (by decide) (by decide)) h_6 (by decide)))) p_8_3)), p_11_0⟩ dX11_open_76
set_option maxHeartbeats 4000000 in
set_option maxRecDepth 100000 in
/-- StreamEnds.open -/
theorem c_X11_open_v9 (l : Launch) (D : va_G) (cI cS : ClassId) (τ : Nat → Option Nat) (ρ : Nat → Nat → Nat) (hW : WF τ ρ) (H : Heap) (hT : TH D cI cS τ ρ H) (a0 : Nat) (ha0 : τ a0 = some 11) (hf_1 : fi D 2 7 H (ρ (ρ a0 2) 4) = 0) (hn_2 : ρ (ρ (ρ a0 2) 4) 2 ≠ ρ (ρ a0 2) 4) (hn_3 : ρ (ρ (ρ a0 2) 4) 2 ≠ ρ (ρ (ρ a0 2) 4) 4) (hn_4 : ρ (ρ (ρ a0 2) 4) 2 ≠ ρ (ρ (ρ a0 2) 4) 5) (hn_5 : ρ (ρ (ρ a0 2) 4) 2 ≠ ρ (ρ (ρ a0 2) 4) 6) (hf_6 : fi D 10 2 H (ρ (ρ (ρ a0 2) 4) 2) = 0) (hn_7 : ρ (ρ (ρ a0 2) 4) 1 ≠ ρ (ρ a0 2) 4) (hn_8 : ρ (ρ (ρ a0 2) 4) 1 ≠ ρ (ρ (ρ a0 2) 4) 4) (hn_9 : ρ (ρ (ρ a0 2) 4) 1 ≠ ρ (ρ (ρ a0 2) 4) 5) (hn_10 : ρ (ρ (ρ a0 2) 4) 1 ≠ ρ (ρ (ρ a0 2) 4) 6) (hf_11 : fi D 1 3 H (ρ (ρ (ρ a0 2) 4) 1) = 100) (hf_12 : fi D 1 2 H (ρ (ρ (ρ a0 2) 4) 1) = 250) (hf_13 : fi D 10 3 H (ρ (ρ (ρ a0 2) 4) 2) = 0) (hn_14 : ρ (ρ (ρ a0 2) 4) 3 ≠ ρ (ρ a0 2) 4) (hn_15 : ρ (ρ (ρ a0 2) 4) 3 ≠ ρ (ρ (ρ a0 2) 4) 4) (hn_16 : ρ (ρ (ρ a0 2) 4) 3 ≠ ρ (ρ (ρ a0 2) 4) 5) (hn_17 : ρ (ρ (ρ a0 2) 4) 3 ≠ ρ (ρ (ρ a0 2) 4) 6) (hf_18 : fi D 0 0 H (ρ (ρ (ρ a0 2) 4) 3) = 0) (he_19 : ρ (ρ a0 2) 1 = ρ (ρ (ρ a0 2) 4) 2) : MI l D cI cS τ ρ yX11_open cX11_open 4 (some .int) 4 89 H [.ref a0, .int 1, .int 1] (fun (r : Int32) (u : Heap) => 1 = r ∧ fi D 3 0 u (ρ (ρ (ρ a0 2) 4) 5) = 0 ∧ fi D 3 1 u (ρ (ρ (ρ a0 2) 4) 5) = 1 ∧ fi D 3 2 u (ρ (ρ (ρ a0 2) 4) 5) = (fi D 1 1 H (ρ (ρ (ρ a0 2) 4) 1)) + 1 ∧ fi D 3 3 u (ρ (ρ (ρ a0 2) 4) 5) = (-4) ∧ fi D 3 4 u (ρ (ρ (ρ a0 2) 4) 5) = 0 ∧ fl D 3 5 u (ρ (ρ (ρ a0 2) 4) 5) = 0 ∧ fi D 7 3 u (ρ (ρ (ρ a0 2) 4) 6) = 0 ∧ fi D 7 4 u (ρ (ρ (ρ a0 2) 4) 6) = 0 ∧ fi D 10 2 u (ρ (ρ (ρ a0 2) 4) 2) = 1 ∧ fi D 10 3 u (ρ (ρ (ρ a0 2) 4) 2) = 1 ∧ fi D 5 1 u (ρ (ρ (ρ a0 2) 4) 4) = 1) (fun q => q = ρ (ρ a0 2) 4 ∨ q = ρ (ρ (ρ a0 2) 4) 4 ∨ q = ρ (ρ (ρ a0 2) 4) 5 ∨ q = ρ (ρ (ρ a0 2) 4) 6 ∨ q = ar H (ρ (ρ (ρ (ρ a0 2) 4) 2) 0) 0 ∨ q = ρ (ρ (ρ a0 2) 4) 2) := by
  refine MI.of (by decide) (Nat.le_of_ble_eq_true rfl) ?_
  intro p e s m args below meth c E hml hr hlk hs ls hl
  have hx := E.1
  have hb := E.2.1
  have hown := E.2.2.1
  have hts := E.2.2.2.1
  have hS : SS (fun q => q = ρ (ρ a0 2) 4 ∨ q = ρ (ρ (ρ a0 2) 4) 4 ∨ q = ρ (ρ (ρ a0 2) 4) 5 ∨ q = ρ (ρ (ρ a0 2) 4) 6 ∨ q = ar H (ρ (ρ (ρ (ρ a0 2) 4) 2) 0) 0 ∨ q = ρ (ρ (ρ a0 2) 4) 2) H H [] := SS.rf
  have hl : lv_has ls 4 [(0, .ref a0), (1, .int 1), (2, .int 1)] := hl
  refine lv_iload_n hx hb dX11_open_0 rfl (lv_at hl 1 rfl) ?_
  refine th_Si (As := [.int 1]) (rest := []) E hml hl.1 (c_X11_isEnd_v4 l D cI cS τ ρ hW H hT) lk_X11_65 yd_X11_isEnd hS (fun _ h => h.elim) ⟨by decide, by decide⟩ (Nat.le_of_ble_eq_true rfl) ⟨by decide, by decide⟩ rfl dX11_open_1 (fun r_1 H_1 locs_1 p_1 hT_1 hk_1 hS_1 => ?_)
  have p_1 : H = H_1 ∧ 1 = r_1 := p_1
  obtain ⟨rfl, rfl⟩ := p_1
  refine lv_if_eq (tgt := 16) hx hb dX11_open_4 (by decide) (fun c_2 => absurd c_2 (by decide)) (fun c_2 => ?_)
  refine lv_iload_n hx hb dX11_open_7 rfl (lv_at hl 2 rfl) ?_
  refine lv_if_lt (tgt := 16) hx hb dX11_open_8 (by decide) (fun c_3 => absurd c_3 (by decide)) (fun c_3 => ?_)
  refine lv_iload_n hx hb dX11_open_11 rfl (lv_at hl 2 rfl) ?_
  refine lv_iconst (v := 1) hx hb dX11_open_12 (by decide) ?_
  refine lv_icmp_le (tgt := 18) hx hb dX11_open_13 (by decide) (fun c_4 => ?_) (fun c_4 => absurd (by decide) c_4)
  refine lv_aload_n hx hb dX11_open_18 rfl (lv_at hl 0 rfl) ?_
  refine gf_X11_26 E hT_1 hW ha0 dX11_open_19 (fun h_5 => ?_)
  refine lv_iload_n hx hb dX11_open_22 rfl (lv_at hl 1 rfl) ?_
  refine th_Vr (As := [.int 1]) (rest := []) E hml hl.1 (c_X4_endpoint_v2 l D cI cS τ ρ hW H hT_1 (ρ a0 2) h_5) lk_X11_68 yd_X4_endpoint hT_1 h_5 rfl (by decide) hS_1 (fun _ h => h.elim) ⟨by decide, by decide⟩ (Nat.le_of_ble_eq_true rfl) ⟨by decide, by decide⟩ rfl dX11_open_23 (fun r_6 H_6 locs_6 p_6 hT_6 hk_6 hS_6 => ?_)
  have p_6 : H = H_6 ∧ ρ (ρ a0 2) 4 = r_6 := p_6
  obtain ⟨rfl, rfl⟩ := p_6
  have h_6 : τ (ρ (ρ a0 2) 4) = some 2 := hW _ 4 4 h_5 (by decide) (by decide) (by decide)
  refine lv_astore_n (lv' := [(3, .ref (ρ (ρ a0 2) 4)), (0, .ref a0), (1, .int 1), (2, .int 1)]) hx hb dX11_open_26 rfl hl (by decide) rfl (fun ls hl => ?_)
  refine lv_aload_n hx hb dX11_open_27 rfl (lv_at hl 0 rfl) ?_
  refine gf_X11_72 E hT_6 h_6 dX11_open_28 ?_
  refine th_topi (y := 0) hf_1 ?_
  refine lv_if_eq (tgt := 37) hx hb dX11_open_31 (by decide) (fun c_7 => ?_) (fun c_7 => absurd (by decide) c_7)
  refine lv_aload_n hx hb dX11_open_37 rfl (lv_at hl 0 rfl) ?_
  refine th_Vv (As := []) (rest := []) E hml hl.1 (c_X2_start l D cI cS τ ρ hW H hT_6 (ρ (ρ a0 2) 4) h_6) lk_X11_77 yd_X2_start hT_6 h_6 rfl (by decide) hS_6 (fun q => (fun h => h.elim (fun h => (Or.inl h)) (fun h => h.elim (fun h => (Or.inr (Or.inl h))) (fun h => h.elim (fun h => (Or.inr (Or.inr (Or.inl h)))) (fun h => (Or.inr (Or.inr (Or.inr (Or.inl h))))))))) ⟨by decide, by decide⟩ (Nat.le_of_ble_eq_true rfl) ⟨by decide, by decide⟩ rfl dX11_open_38 (fun H_8 locs_8 p_8 hT_8 hk_8 hS_8 => ?_)
  have p_8 : fi D 2 9 H_8 (ρ (ρ a0 2) 4) = 0 ∧ fi D 2 8 H_8 (ρ (ρ a0 2) 4) = 0 ∧ fi D 2 7 H_8 (ρ (ρ a0 2) 4) = 0 ∧ fl D 5 6 H_8 (ρ (ρ (ρ a0 2) 4) 4) = 0 ∧ fi D 5 5 H_8 (ρ (ρ (ρ a0 2) 4) 4) = 0 ∧ fi D 5 4 H_8 (ρ (ρ (ρ a0 2) 4) 4) = 0 ∧ fi D 5 3 H_8 (ρ (ρ (ρ a0 2) 4) 4) = 0 ∧ fi D 5 2 H_8 (ρ (ρ (ρ a0 2) 4) 4) = 1 ∧ fi D 5 1 H_8 (ρ (ρ (ρ a0 2) 4) 4) = 0 ∧ fi D 5 0 H_8 (ρ (ρ (ρ a0 2) 4) 4) = 0 ∧ fl D 3 5 H_8 (ρ (ρ (ρ a0 2) 4) 5) = 0 ∧ fi D 3 4 H_8 (ρ (ρ (ρ a0 2) 4) 5) = 0 ∧ fi D 3 3 H_8 (ρ (ρ (ρ a0 2) 4) 5) = (-4) ∧ fi D 3 2 H_8 (ρ (ρ (ρ a0 2) 4) 5) = (fi D 1 1 H (ρ (ρ (ρ a0 2) 4) 1)) + 1 ∧ fi D 3 1 H_8 (ρ (ρ (ρ a0 2) 4) 5) = 1 ∧ fi D 3 0 H_8 (ρ (ρ (ρ a0 2) 4) 5) = 0 ∧ fi D 7 5 H_8 (ρ (ρ (ρ a0 2) 4) 6) = 0 ∧ fi D 7 4 H_8 (ρ (ρ (ρ a0 2) 4) 6) = 0 ∧ fi D 7 3 H_8 (ρ (ρ (ρ a0 2) 4) 6) = (-4) ∧ fi D 7 2 H_8 (ρ (ρ (ρ a0 2) 4) 6) = 0 ∧ fi D 7 1 H_8 (ρ (ρ (ρ a0 2) 4) 6) = 0 ∧ fi D 7 0 H_8 (ρ (ρ (ρ a0 2) 4) 6) = 6 := p_8
  obtain ⟨p_8_0, p_8_1, p_8_2, p_8_3, p_8_4, p_8_5, p_8_6, p_8_7, p_8_8, p_8_9, p_8_10, p_8_11, p_8_12, p_8_13, p_8_14, p_8_15, p_8_16, p_8_17, p_8_18, p_8_19, p_8_20, p_8_21⟩ := p_8
  refine lv_iload_n hx hb dX11_open_41 rfl (lv_at hl 3 rfl) ?_
  refine lv_if_ne (tgt := 53) hx hb dX11_open_42 (by decide) (fun c_9 => ?_) (fun c_9 => absurd c_9 (by decide))
  refine lv_aload_n hx hb dX11_open_53 rfl (lv_at hl 0 rfl) ?_
  refine lv_iconst (v := 2) hx hb dX11_open_54 (by decide) ?_
  refine pf_X11_72 E hT_8 hS_8 h_6 (Or.inl rfl) dX11_open_55 (fun H_10 locs_10 hT_10 hU_10 hS_10 => ?_)
  refine lv_aload_n hx hb dX11_open_58 rfl (lv_at hl 0 rfl) ?_
  refine th_Vv (As := []) (rest := []) E hml hl.1 (c_X2_sendFirstSyn l D cI cS τ ρ hW H_10 hT_10 (ρ (ρ a0 2) 4) h_6 (PU.i hU_10) (Eq.trans (fi_q (hU_10.2.2 _ hn_2)) (Eq.trans (fi_q (hk_8 _ (fun h => h.elim hn_2 (fun h => h.elim hn_3 (fun h => h.elim hn_4 hn_5))))) hf_6)) (Eq.trans (fi_q (hU_10.2.2 _ hn_7)) (Eq.trans (fi_q (hk_8 _ (fun h => h.elim hn_7 (fun h => h.elim hn_8 (fun h => h.elim hn_9 hn_10))))) hf_11)) (Eq.trans (fi_q (hU_10.2.2 _ hn_7)) (Eq.trans (fi_q (hk_8 _ (fun h => h.elim hn_7 (fun h => h.elim hn_8 (fun h => h.elim hn_9 hn_10))))) hf_12)) (Eq.trans (fi_q (hU_10.2.2 _ hn_2)) (Eq.trans (fi_q (hk_8 _ (fun h => h.elim hn_2 (fun h => h.elim hn_3 (fun h => h.elim hn_4 hn_5))))) hf_13)) (Eq.trans (fi_q (hU_10.2.2 _ hn_14)) (Eq.trans (fi_q (hk_8 _ (fun h => h.elim hn_14 (fun h => h.elim hn_15 (fun h => h.elim hn_16 hn_17))))) hf_18)) (Eq.trans (fi_q (hU_10.2.2 _ (th_ne (hW _ 2 6 h_6 (by decide) (by decide) (by decide)) h_6 (by decide)))) p_8_18)) lk_X11_80 yd_X2_sendFirstSyn hT_10 h_6 rfl (by decide) hS_10 (fun q => (fun h => h.elim (fun h => (Or.inr (Or.inr (Or.inr (Or.inr (Or.inl (h.trans (Eq.trans (ar_q (hU_10.2.2 _ (th_ne (hW _ 10 0 (hW _ 2 2 h_6 (by decide) (by decide) (by decide)) (by decide) (by decide) (by decide)) h_6 (by decide)))) (ar_q (hk_8 _ (fun h => h.elim (th_ne (hW _ 10 0 (hW _ 2 2 h_6 (by decide) (by decide) (by decide)) (by decide) (by decide) (by decide)) h_6 (by decide)) (fun h => h.elim (th_ne (hW _ 10 0 (hW _ 2 2 h_6 (by decide) (by decide) (by decide)) (by decide) (by decide) (by decide)) (hW _ 2 4 h_6 (by decide) (by decide) (by decide)) (by decide)) (fun h => h.elim (th_ne (hW _ 10 0 (hW _ 2 2 h_6 (by decide) (by decide) (by decide)) (by decide) (by decide) (by decide)) (hW _ 2 5 h_6 (by decide) (by decide) (by decide)) (by decide)) (th_ne (hW _ 10 0 (hW _ 2 2 h_6 (by decide) (by decide) (by decide)) (by decide) (by decide) (by decide)) (hW _ 2 6 h_6 (by decide) (by decide) (by decide)) (by decide))))))))))))))) (fun h => h.elim (fun h => (Or.inr (Or.inr (Or.inr (Or.inr (Or.inr h)))))) (fun h => h.elim (fun h => (Or.inr (Or.inl h))) (fun h => (Or.inr (Or.inr (Or.inr (Or.inl h))))))))) ⟨by decide, by decide⟩ (Nat.le_of_ble_eq_true rfl) ⟨by decide, by decide⟩ rfl dX11_open_59 (fun H_11 locs_11 p_11 hT_11 hk_11 hS_11 => ?_)
  have p_11 : fi D 5 1 H_11 (ρ (ρ (ρ a0 2) 4) 4) = 1 ∧ fi D 10 3 H_11 (ρ (ρ (ρ a0 2) 4) 2) = 1 ∧ fi D 10 2 H_11 (ρ (ρ (ρ a0 2) 4) 2) = 1 ∧ fi D 8 8 H_11 (ar H_10 (ρ (ρ (ρ (ρ a0 2) 4) 2) 0) 0) = 0 ∧ fi D 8 6 H_11 (ar H_10 (ρ (ρ (ρ (ρ a0 2) 4) 2) 0) 0) = 0 ∧ fi D 8 5 H_11 (ar H_10 (ρ (ρ (ρ (ρ a0 2) 4) 2) 0) 0) = (-4) ∧ fi D 8 4 H_11 (ar H_10 (ρ (ρ (ρ (ρ a0 2) 4) 2) 0) 0) = (-4) ∧ fi D 8 3 H_11 (ar H_10 (ρ (ρ (ρ (ρ a0 2) 4) 2) 0) 0) = (-4) ∧ fi D 8 1 H_11 (ar H_10 (ρ (ρ (ρ (ρ a0 2) 4) 2) 0) 0) = 1 ∧ fi D 8 0 H_11 (ar H_10 (ρ (ρ (ρ (ρ a0 2) 4) 2) 0) 0) = fi D 2 0 H_10 (ρ (ρ a0 2) 4) ∧ fi D 7 4 H_11 (ρ (ρ (ρ a0 2) 4) 6) = 0 ∧ fi D 7 3 H_11 (ρ (ρ (ρ a0 2) 4) 6) = 0 := p_11
  obtain ⟨p_11_0, p_11_1, p_11_2, p_11_3, p_11_4, p_11_5, p_11_6, p_11_7, p_11_8, p_11_9, p_11_10, p_11_11⟩ := p_11
  refine lv_aload_n hx hb dX11_open_62 rfl (lv_at hl 0 rfl) ?_
  refine th_Vv (As := []) (rest := []) E hml hl.1 (c_X2_adjustTimer_v2 l D cI cS τ ρ hW H_11 hT_11 (ρ (ρ a0 2) 4) h_6 (Eq.trans (fi_q (hk_11 _ (fun h => h.elim (th_ne h_6 (TH.ar8 hT_10 (hW _ 10 0 (hW _ 2 2 h_6 (by decide) (by decide) (by decide)) (by decide) (by decide) (by decide)) (by decide)) (by decide)) (fun h => h.elim (Ne.symm hn_2) (fun h => h.elim (th_ne h_6 (hW _ 2 4 h_6 (by decide) (by decide) (by decide)) (by decide)) (th_ne h_6 (hW _ 2 6 h_6 (by decide) (by decide) (by decide)) (by decide))))))) (PU.i hU_10)) p_11_0 (Eq.trans (fi_q (hk_11 _ (fun h => h.elim (th_ne h_6 (TH.ar8 hT_10 (hW _ 10 0 (hW _ 2 2 h_6 (by decide) (by decide) (by decide)) (by decide) (by decide) (by decide)) (by decide)) (by decide)) (fun h => h.elim (Ne.symm hn_2) (fun h => h.elim (th_ne h_6 (hW _ 2 4 h_6 (by decide) (by decide) (by decide)) (by decide)) (th_ne h_6 (hW _ 2 6 h_6 (by decide) (by decide) (by decide)) (by decide))))))) (Eq.trans (PU.io hU_10 (j := 8) (by decide) (by decide)) p_8_1))) lk_X11_83 yd_X2_adjustTimer hT_11 h_6 rfl (by decide) hS_11 (fun q h => (Or.inl h)) ⟨by decide, by decide⟩ (Nat.le_of_ble_eq_true rfl) ⟨by decide, by decide⟩ rfl dX11_open_63 (fun H_12 locs_12 p_12 hT_12 hk_12 hS_12 => ?_)
  refine lv_aload_n hx hb dX11_open_66 rfl (lv_at hl 1 rfl) ?_
  refine gf_X11_26 E hT_12 hW ha0 dX11_open_67 (fun h_13 => ?_)
  refine gf_X11_86 E hT_12 hW h_5 dX11_open_70 (fun h_14 => ?_)
  refine th_topr he_19 ?_
  refine gf_X11_90 E hT_12 (hW _ 2 2 h_6 (by decide) (by decide) (by decide)) dX11_open_73 ?_
  refine th_topi (y := 1) (Eq.trans (fi_q (hk_12 _ hn_2)) p_11_2) ?_
  exact th_iret E hr hlk hs hT_12 hS_12 ⟨rfl, (Eq.trans (fi_q (hk_12 _ (th_ne (hW _ 2 5 h_6 (by decide) (by decide) (by decide)) h_6 (by decide)))) (Eq.trans (fi_q (hk_11 _ (fun h => h.elim (th_ne (hW _ 2 5 h_6 (by decide) (by decide) (by decide)) (TH.ar8 hT_10 (hW _ 10 0 (hW _ 2 2 h_6 (by decide) (by decide) (by decide)) (by decide) (by decide) (by decide)) (by decide)) (by decide)) (fun h => h.elim (Ne.symm hn_4) (fun h => h.elim (th_ne (hW _ 2 5 h_6 (by decide) (by decide) (by decide)) (hW _ 2 4 h_6 (by decide) (by decide) (by decide)) (by decide)) (th_ne (hW _ 2 5 h_6 (by decide) (by decide) (by decide)) (hW _ 2 6 h_6 (by decide) (by decide) (by decide)) (by decide))))))) (Eq.trans (fi_q (hU_10.2.2 _ (th_ne (hW _ 2 5 h_6 (by decide) (by decide) (by decide)) h_6 (by decide)))) p_8_15))), (Eq.trans (fi_q (hk_12 _ (th_ne (hW _ 2 5 h_6 (by decide) (by decide) (by decide)) h_6 (by decide)))) (Eq.trans (fi_q (hk_11 _ (fun h => h.elim (th_ne (hW _ 2 5 h_6 (by decide) (by decide) (by decide)) (TH.ar8 hT_10 (hW _ 10 0 (hW _ 2 2 h_6 (by decide) (by decide) (by decide)) (by decide) (by decide) (by decide)) (by decide)) (by decide)) (fun h => h.elim (Ne.symm hn_4) (fun h => h.elim (th_ne (hW _ 2 5 h_6 (by decide) (by decide) (by decide)) (hW _ 2 4 h_6 (by decide) (by decide) (by decide)) (by decide)) (th_ne (hW _ 2 5 h_6 (by decide) (by decide) (by decide)) (hW _ 2 6 h_6 (by decide) (by decide) (by decide)) (by decide))))))) (Eq.trans (fi_q (hU_10.2.2 _ (th_ne (hW _ 2 5 h_6 (by decide) (by decide) (by decide)) h_6 (by decide)))) p_8_14))), (Eq.trans (fi_q (hk_12 _ (th_ne (hW _ 2 5 h_6 (by decide) (by decide) (by decide)) h_6 (by decide)))) (Eq.trans (fi_q (hk_11 _ (fun h => h.elim (th_ne (hW _ 2 5 h_6 (by decide) (by decide) (by decide)) (TH.ar8 hT_10 (hW _ 10 0 (hW _ 2 2 h_6 (by decide) (by decide) (by decide)) (by decide) (by decide) (by decide)) (by decide)) (by decide)) (fun h => h.elim (Ne.symm hn_4) (fun h => h.elim (th_ne (hW _ 2 5 h_6 (by decide) (by decide) (by decide)) (hW _ 2 4 h_6 (by decide) (by decide) (by decide)) (by decide)) (th_ne (hW _ 2 5 h_6 (by decide) (by decide) (by decide)) (hW _ 2 6 h_6 (by decide) (by decide) (by decide)) (by decide))))))) (Eq.trans (fi_q (hU_10.2.2 _ (th_ne (hW _ 2 5 h_6 (by decide) (by decide) (by decide)) h_6 (by decide)))) p_8_13))), (Eq.trans (fi_q (hk_12 _ (th_ne (hW _ 2 5 h_6 (by decide) (by decide) (by decide)) h_6 (by decide)))) (Eq.trans (fi_q (hk_11 _ (fun h => h.elim (th_ne (hW _ 2 5 h_6 (by decide) (by decide) (by decide)) (TH.ar8 hT_10 (hW _ 10 0 (hW _ 2 2 h_6 (by decide) (by decide) (by decide)) (by decide) (by decide) (by decide)) (by decide)) (by decide)) (fun h => h.elim (Ne.symm hn_4) (fun h => h.elim (th_ne (hW _ 2 5 h_6 (by decide) (by decide) (by decide)) (hW _ 2 4 h_6 (by decide) (by decide) (by decide)) (by decide)) (th_ne (hW _ 2 5 h_6 (by decide) (by decide) (by decide)) (hW _ 2 6 h_6 (by decide) (by decide) (by decide)) (by decide))))))) (Eq.trans (fi_q (hU_10.2.2 _ (th_ne (hW _ 2 5 h_6 (by decide) (by decide) (by decide)) h_6 (by decide)))) p_8_12))), (Eq.trans (fi_q (hk_12 _ (th_ne (hW _ 2 5 h_6 (by decide) (by decide) (by decide)) h_6 (by decide)))) (Eq.trans (fi_q (hk_11 _ (fun h => h.elim (th_ne (hW _ 2 5 h_6 (by decide) (by decide) (by decide)) (TH.ar8 hT_10 (hW _ 10 0 (hW _ 2 2 h_6 (by decide) (by decide) (by decide)) (by decide) (by decide) (by decide)) (by decide)) (by decide)) (fun h => h.elim (Ne.symm hn_4) (fun h => h.elim (th_ne (hW _ 2 5 h_6 (by decide) (by decide) (by decide)) (hW _ 2 4 h_6 (by decide) (by decide) (by decide)) (by decide)) (th_ne (hW _ 2 5 h_6 (by decide) (by decide) (by decide)) (hW _ 2 6 h_6 (by decide) (by decide) (by decide)) (by decide))))))) (Eq.trans (fi_q (hU_10.2.2 _ (th_ne (hW _ 2 5 h_6 (by decide) (by decide) (by decide)) h_6 (by decide)))) p_8_11))), (Eq.trans (fl_q (hk_12 _ (th_ne (hW _ 2 5 h_6 (by decide) (by decide) (by decide)) h_6 (by decide)))) (Eq.trans (fl_q (hk_11 _ (fun h => h.elim (th_ne (hW _ 2 5 h_6 (by decide) (by decide) (by decide)) (TH.ar8 hT_10 (hW _ 10 0 (hW _ 2 2 h_6 (by decide) (by decide) (by decide)) (by decide) (by decide) (by decide)) (by decide)) (by decide)) (fun h => h.elim (Ne.symm hn_4) (fun h => h.elim (th_ne (hW _ 2 5 h_6 (by decide) (by decide) (by decide)) (hW _ 2 4 h_6 (by decide) (by decide) (by decide)) (by decide)) (th_ne (hW _ 2 5 h_6 (by decide) (by decide) (by decide)) (hW _ 2 6 h_6 (by decide) (by decide) (by decide)) (by decide))))))) (Eq.trans (fl_q (hU_10.2.2 _ (th_ne (hW _ 2 5 h_6 (by decide) (by decide) (by decide)) h_6 (by decide)))) p_8_10))), (Eq.trans (fi_q (hk_12 _ (th_ne (hW _ 2 6 h_6 (by decide) (by decide) (by decide)) h_6 (by decide)))) p_11_11), (Eq.trans (fi_q (hk_12 _ (th_ne (hW _ 2 6 h_6 (by decide) (by decide) (by decide)) h_6 (by decide)))) p_11_10), (Eq.trans (fi_q (hk_12 _ hn_2)) p_11_2), (Eq.trans (fi_q (hk_12 _ hn_2)) p_11_1), (Eq.trans (fi_q (hk_12 _ (th_ne (hW _ 2 4 h_6 (by decide) (by decide) (by decide)) h_6 (by decide)))) p_11_0)⟩ dX11_open_76
set_option maxHeartbeats 4000000 in
set_option maxRecDepth 100000 in
/-- StreamEnds.open -/
theorem c_X11_open_v10 (l : Launch) (D : va_G) (cI cS : ClassId) (τ : Nat → Option Nat) (ρ : Nat → Nat → Nat) (hW : WF τ ρ) (H : Heap) (hT : TH D cI cS τ ρ H) (a0 : Nat) (x0 : Int32) (ha0 : τ a0 = some 11) (bl_x0 : 2 ≤ x0.toInt) : MI l D cI cS τ ρ yX11_open cX11_open 4 (some .int) 1 20 H [.ref a0, .int 1, .int x0] (fun (r : Int32) (u : Heap) => H = u ∧ (-1) = r) (fun q => False) := by
  refine MI.of (by decide) (Nat.le_of_ble_eq_true rfl) ?_
  intro p e s m args below meth c E hml hr hlk hs ls hl
  have hx := E.1
  have hb := E.2.1
  have hown := E.2.2.1
  have hts := E.2.2.2.1
  have hS : SS (fun q => False) H H [] := SS.rf
  have hl : lv_has ls 4 [(0, .ref a0), (1, .int 1), (2, .int x0)] := hl
  refine lv_iload_n hx hb dX11_open_0 rfl (lv_at hl 1 rfl) ?_
  refine th_Si (As := [.int 1]) (rest := []) E hml hl.1 (c_X11_isEnd_v4 l D cI cS τ ρ hW H hT) lk_X11_65 yd_X11_isEnd hS (fun _ h => h.elim) ⟨by decide, by decide⟩ (Nat.le_of_ble_eq_true rfl) ⟨by decide, by decide⟩ rfl dX11_open_1 (fun r_1 H_1 locs_1 p_1 hT_1 hk_1 hS_1 => ?_)
  have p_1 : H = H_1 ∧ 1 = r_1 := p_1
  obtain ⟨rfl, rfl⟩ := p_1
  refine lv_if_eq (tgt := 16) hx hb dX11_open_4 (by decide) (fun c_2 => absurd c_2 (by decide)) (fun c_2 => ?_)
  refine lv_iload_n hx hb dX11_open_7 rfl (lv_at hl 2 rfl) ?_
  refine lv_if_lt (tgt := 16) hx hb dX11_open_8 (by decide) (fun c_3 => False.elim (by (have : (0 : Int32).toInt = 0 := (by decide); have : x0.toInt < (0 : Int32).toInt := Int32.lt_iff_toInt_lt.mp c_3; omega))) (fun c_3 => ?_)
  refine lv_iload_n hx hb dX11_open_11 rfl (lv_at hl 2 rfl) ?_
  refine lv_iconst (v := 1) hx hb dX11_open_12 (by decide) ?_
  refine lv_icmp_le (tgt := 18) hx hb dX11_open_13 (by decide) (fun c_4 => False.elim (by (have : (1 : Int32).toInt = 1 := (by decide); have : x0.toInt ≤ (1 : Int32).toInt := Int32.le_iff_toInt_le.mp c_4; omega))) (fun c_4 => ?_)
  refine lv_iconst (v := (-1)) hx hb dX11_open_16 (by decide) ?_
  exact th_iret E hr hlk hs hT_1 hS_1 ⟨rfl, rfl⟩ dX11_open_17
set_option maxHeartbeats 4000000 in
set_option maxRecDepth 100000 in
/-- StreamEnds.say -/
theorem c_X11_say_v6 (l : Launch) (D : va_G) (cI cS : ClassId) (τ : Nat → Option Nat) (ρ : Nat → Nat → Nat) (hW : WF τ ρ) (H : Heap) (hT : TH D cI cS τ ρ H) (a0 : Nat) (x0 : Int32) (ha0 : τ a0 = some 11) (bh_x0 : x0.toInt ≤ -1) : MI l D cI cS τ ρ yX11_say cX11_say 4 (some .int) 1 20 H [.ref a0, .int 1, .int x0] (fun (r : Int32) (u : Heap) => H = u ∧ (-1) = r) (fun q => False) := by
  refine MI.of (by decide) (Nat.le_of_ble_eq_true rfl) ?_
  intro p e s m args below meth c E hml hr hlk hs ls hl
  have hx := E.1
  have hb := E.2.1
  have hown := E.2.2.1
  have hts := E.2.2.2.1
  have hS : SS (fun q => False) H H [] := SS.rf
  have hl : lv_has ls 4 [(0, .ref a0), (1, .int 1), (2, .int x0)] := hl
  refine lv_iload_n hx hb dX11_say_0 rfl (lv_at hl 1 rfl) ?_
  refine th_Si (As := [.int 1]) (rest := []) E hml hl.1 (c_X11_isEnd_v4 l D cI cS τ ρ hW H hT) lk_X11_65 yd_X11_isEnd hS (fun _ h => h.elim) ⟨by decide, by decide⟩ (Nat.le_of_ble_eq_true rfl) ⟨by decide, by decide⟩ rfl dX11_say_1 (fun r_1 H_1 locs_1 p_1 hT_1 hk_1 hS_1 => ?_)
  have p_1 : H = H_1 ∧ 1 = r_1 := p_1
  obtain ⟨rfl, rfl⟩ := p_1
  refine lv_if_eq (tgt := 18) hx hb dX11_say_4 (by decide) (fun c_2 => absurd c_2 (by decide)) (fun c_2 => ?_)
  refine lv_iload_n hx hb dX11_say_7 rfl (lv_at hl 2 rfl) ?_
  refine lv_if_lt (tgt := 18) hx hb dX11_say_8 (by decide) (fun c_3 => ?_) (fun c_3 => False.elim (by (have : (0 : Int32).toInt = 0 := (by decide); have : ¬ x0.toInt < (0 : Int32).toInt := fun q => c_3 (Int32.lt_iff_toInt_lt.mpr q); omega)))
  refine lv_iconst (v := (-1)) hx hb dX11_say_18 (by decide) ?_
  exact th_iret E hr hlk hs hT_1 hS_1 ⟨rfl, rfl⟩ dX11_say_19
set_option maxHeartbeats 4000000 in
set_option maxRecDepth 100000 in
/-- StreamEnds.say -/
theorem c_X11_say_v7 (l : Launch) (D : va_G) (cI cS : ClassId) (τ : Nat → Option Nat) (ρ : Nat → Nat → Nat) (hW : WF τ ρ) (H : Heap) (hT : TH D cI cS τ ρ H) (a0 : Nat) (x0 : Int32) (ha0 : τ a0 = some 11) (bl_x0 : 0 ≤ x0.toInt) (bh_x0 : x0.toInt ≤ 255) (hf_1 : fi D 2 7 H (ρ (ρ a0 2) 4) = 0) : MI l D cI cS τ ρ yX11_say cX11_say 4 (some .int) 2 40 H [.ref a0, .int 1, .int x0] (fun (r : Int32) (u : Heap) => H = u ∧ (-2) = r) (fun q => False) := by
  refine MI.of (by decide) (Nat.le_of_ble_eq_true rfl) ?_
  intro p e s m args below meth c E hml hr hlk hs ls hl
  have hx := E.1
  have hb := E.2.1
  have hown := E.2.2.1
  have hts := E.2.2.2.1
  have hS : SS (fun q => False) H H [] := SS.rf
  have hl : lv_has ls 4 [(0, .ref a0), (1, .int 1), (2, .int x0)] := hl
  refine lv_iload_n hx hb dX11_say_0 rfl (lv_at hl 1 rfl) ?_
  refine th_Si (As := [.int 1]) (rest := []) E hml hl.1 (c_X11_isEnd_v4 l D cI cS τ ρ hW H hT) lk_X11_65 yd_X11_isEnd hS (fun _ h => h.elim) ⟨by decide, by decide⟩ (Nat.le_of_ble_eq_true rfl) ⟨by decide, by decide⟩ rfl dX11_say_1 (fun r_1 H_1 locs_1 p_1 hT_1 hk_1 hS_1 => ?_)
  have p_1 : H = H_1 ∧ 1 = r_1 := p_1
  obtain ⟨rfl, rfl⟩ := p_1
  refine lv_if_eq (tgt := 18) hx hb dX11_say_4 (by decide) (fun c_2 => absurd c_2 (by decide)) (fun c_2 => ?_)
  refine lv_iload_n hx hb dX11_say_7 rfl (lv_at hl 2 rfl) ?_
  refine lv_if_lt (tgt := 18) hx hb dX11_say_8 (by decide) (fun c_3 => False.elim (by (have : (0 : Int32).toInt = 0 := (by decide); have : x0.toInt < (0 : Int32).toInt := Int32.lt_iff_toInt_lt.mp c_3; omega))) (fun c_3 => ?_)
  refine lv_iload_n hx hb dX11_say_11 rfl (lv_at hl 2 rfl) ?_
  refine lv_sipush (v := 255) hx hb dX11_say_12 (by decide) ?_
  refine lv_icmp_le (tgt := 20) hx hb dX11_say_15 (by decide) (fun c_4 => ?_) (fun c_4 => False.elim (by (have : (255 : Int32).toInt = 255 := (by decide); have : ¬ x0.toInt ≤ (255 : Int32).toInt := fun q => c_4 (Int32.le_iff_toInt_le.mpr q); omega)))
  refine lv_aload_n hx hb dX11_say_20 rfl (lv_at hl 0 rfl) ?_
  refine gf_X11_26 E hT_1 hW ha0 dX11_say_21 (fun h_5 => ?_)
  refine lv_iload_n hx hb dX11_say_24 rfl (lv_at hl 1 rfl) ?_
  refine th_Vr (As := [.int 1]) (rest := []) E hml hl.1 (c_X4_endpoint_v2 l D cI cS τ ρ hW H hT_1 (ρ a0 2) h_5) lk_X11_68 yd_X4_endpoint hT_1 h_5 rfl (by decide) hS_1 (fun _ h => h.elim) ⟨by decide, by decide⟩ (Nat.le_of_ble_eq_true rfl) ⟨by decide, by decide⟩ rfl dX11_say_25 (fun r_6 H_6 locs_6 p_6 hT_6 hk_6 hS_6 => ?_)
  have p_6 : H = H_6 ∧ ρ (ρ a0 2) 4 = r_6 := p_6
  obtain ⟨rfl, rfl⟩ := p_6
  have h_6 : τ (ρ (ρ a0 2) 4) = some 2 := hW _ 4 4 h_5 (by decide) (by decide) (by decide)
  refine lv_astore_n (lv' := [(3, .ref (ρ (ρ a0 2) 4)), (0, .ref a0), (1, .int 1), (2, .int x0)]) hx hb dX11_say_28 rfl hl (by decide) rfl (fun ls hl => ?_)
  refine lv_aload_n hx hb dX11_say_29 rfl (lv_at hl 0 rfl) ?_
  refine th_Vi (As := []) (rest := []) E hml hl.1 (c_X2_maySay l D cI cS τ ρ hW H hT_6 (ρ (ρ a0 2) 4) h_6 hf_1) lk_X11_95 yd_X2_maySay hT_6 h_6 rfl (by decide) hS_6 (fun _ h => h.elim) ⟨by decide, by decide⟩ (Nat.le_of_ble_eq_true rfl) ⟨by decide, by decide⟩ rfl dX11_say_30 (fun r_7 H_7 locs_7 p_7 hT_7 hk_7 hS_7 => ?_)
  have p_7 : H = H_7 ∧ 0 = r_7 := p_7
  obtain ⟨rfl, rfl⟩ := p_7
  refine lv_if_ne (tgt := 39) hx hb dX11_say_33 (by decide) (fun c_8 => absurd (by decide) c_8) (fun c_8 => ?_)
  refine lv_bipush (v := (-2)) hx hb dX11_say_36 (by decide) ?_
  exact th_iret E hr hlk hs hT_7 hS_7 ⟨rfl, rfl⟩ dX11_say_38
set_option maxHeartbeats 4000000 in
set_option maxRecDepth 100000 in
/-- StreamEnds.say -/
theorem c_X11_say_v8 (l : Launch) (D : va_G) (cI cS : ClassId) (τ : Nat → Option Nat) (ρ : Nat → Nat → Nat) (hW : WF τ ρ) (H : Heap) (hT : TH D cI cS τ ρ H) (a0 : Nat) (x0 : Int32) (ha0 : τ a0 = some 11) (bl_x0 : 256 ≤ x0.toInt) : MI l D cI cS τ ρ yX11_say cX11_say 4 (some .int) 1 20 H [.ref a0, .int 1, .int x0] (fun (r : Int32) (u : Heap) => H = u ∧ (-1) = r) (fun q => False) := by
  refine MI.of (by decide) (Nat.le_of_ble_eq_true rfl) ?_
  intro p e s m args below meth c E hml hr hlk hs ls hl
  have hx := E.1
  have hb := E.2.1
  have hown := E.2.2.1
  have hts := E.2.2.2.1
  have hS : SS (fun q => False) H H [] := SS.rf
  have hl : lv_has ls 4 [(0, .ref a0), (1, .int 1), (2, .int x0)] := hl
  refine lv_iload_n hx hb dX11_say_0 rfl (lv_at hl 1 rfl) ?_
  refine th_Si (As := [.int 1]) (rest := []) E hml hl.1 (c_X11_isEnd_v4 l D cI cS τ ρ hW H hT) lk_X11_65 yd_X11_isEnd hS (fun _ h => h.elim) ⟨by decide, by decide⟩ (Nat.le_of_ble_eq_true rfl) ⟨by decide, by decide⟩ rfl dX11_say_1 (fun r_1 H_1 locs_1 p_1 hT_1 hk_1 hS_1 => ?_)
  have p_1 : H = H_1 ∧ 1 = r_1 := p_1
  obtain ⟨rfl, rfl⟩ := p_1
  refine lv_if_eq (tgt := 18) hx hb dX11_say_4 (by decide) (fun c_2 => absurd c_2 (by decide)) (fun c_2 => ?_)
  refine lv_iload_n hx hb dX11_say_7 rfl (lv_at hl 2 rfl) ?_
  refine lv_if_lt (tgt := 18) hx hb dX11_say_8 (by decide) (fun c_3 => False.elim (by (have : (0 : Int32).toInt = 0 := (by decide); have : x0.toInt < (0 : Int32).toInt := Int32.lt_iff_toInt_lt.mp c_3; omega))) (fun c_3 => ?_)
  refine lv_iload_n hx hb dX11_say_11 rfl (lv_at hl 2 rfl) ?_
  refine lv_sipush (v := 255) hx hb dX11_say_12 (by decide) ?_
  refine lv_icmp_le (tgt := 20) hx hb dX11_say_15 (by decide) (fun c_4 => False.elim (by (have : (255 : Int32).toInt = 255 := (by decide); have : x0.toInt ≤ (255 : Int32).toInt := Int32.le_iff_toInt_le.mp c_4; omega))) (fun c_4 => ?_)
  refine lv_iconst (v := (-1)) hx hb dX11_say_18 (by decide) ?_
  exact th_iret E hr hlk hs hT_1 hS_1 ⟨rfl, rfl⟩ dX11_say_19
set_option maxHeartbeats 4000000 in
set_option maxRecDepth 100000 in
/-- StreamEnds.cry -/
theorem c_X11_cry_v4 (l : Launch) (D : va_G) (cI cS : ClassId) (τ : Nat → Option Nat) (ρ : Nat → Nat → Nat) (hW : WF τ ρ) (H : Heap) (hT : TH D cI cS τ ρ H) (a0 : Nat) (ha0 : τ a0 = some 11) (hf_1 : fi D 2 7 H (ρ (ρ a0 2) 4) = 0) : MI l D cI cS τ ρ yX11_cry cX11_cry 3 (some .int) 2 40 H [.ref a0, .int 1] (fun (r : Int32) (u : Heap) => H = u ∧ (-2) = r) (fun q => False) := by
  refine MI.of (by decide) (Nat.le_of_ble_eq_true rfl) ?_
  intro p e s m args below meth c E hml hr hlk hs ls hl
  have hx := E.1
  have hb := E.2.1
  have hown := E.2.2.1
  have hts := E.2.2.2.1
  have hS : SS (fun q => False) H H [] := SS.rf
  have hl : lv_has ls 3 [(0, .ref a0), (1, .int 1)] := hl
  refine lv_iload_n hx hb dX11_cry_0 rfl (lv_at hl 1 rfl) ?_
  refine th_Si (As := [.int 1]) (rest := []) E hml hl.1 (c_X11_isEnd_v4 l D cI cS τ ρ hW H hT) lk_X11_65 yd_X11_isEnd hS (fun _ h => h.elim) ⟨by decide, by decide⟩ (Nat.le_of_ble_eq_true rfl) ⟨by decide, by decide⟩ rfl dX11_cry_1 (fun r_1 H_1 locs_1 p_1 hT_1 hk_1 hS_1 => ?_)
  have p_1 : H = H_1 ∧ 1 = r_1 := p_1
  obtain ⟨rfl, rfl⟩ := p_1
  refine lv_if_ne (tgt := 9) hx hb dX11_cry_4 (by decide) (fun c_2 => ?_) (fun c_2 => absurd c_2 (by decide))
  refine lv_aload_n hx hb dX11_cry_9 rfl (lv_at hl 0 rfl) ?_
  refine gf_X11_26 E hT_1 hW ha0 dX11_cry_10 (fun h_3 => ?_)
  refine lv_iload_n hx hb dX11_cry_13 rfl (lv_at hl 1 rfl) ?_
  refine th_Vr (As := [.int 1]) (rest := []) E hml hl.1 (c_X4_endpoint_v2 l D cI cS τ ρ hW H hT_1 (ρ a0 2) h_3) lk_X11_68 yd_X4_endpoint hT_1 h_3 rfl (by decide) hS_1 (fun _ h => h.elim) ⟨by decide, by decide⟩ (Nat.le_of_ble_eq_true rfl) ⟨by decide, by decide⟩ rfl dX11_cry_14 (fun r_4 H_4 locs_4 p_4 hT_4 hk_4 hS_4 => ?_)
  have p_4 : H = H_4 ∧ ρ (ρ a0 2) 4 = r_4 := p_4
  obtain ⟨rfl, rfl⟩ := p_4
  have h_4 : τ (ρ (ρ a0 2) 4) = some 2 := hW _ 4 4 h_3 (by decide) (by decide) (by decide)
  refine lv_astore_n (lv' := [(2, .ref (ρ (ρ a0 2) 4)), (0, .ref a0), (1, .int 1)]) hx hb dX11_cry_17 rfl hl (by decide) rfl (fun ls hl => ?_)
  refine lv_aload_n hx hb dX11_cry_18 rfl (lv_at hl 0 rfl) ?_
  refine th_Vi (As := []) (rest := []) E hml hl.1 (c_X2_maySay l D cI cS τ ρ hW H hT_4 (ρ (ρ a0 2) 4) h_4 hf_1) lk_X11_95 yd_X2_maySay hT_4 h_4 rfl (by decide) hS_4 (fun _ h => h.elim) ⟨by decide, by decide⟩ (Nat.le_of_ble_eq_true rfl) ⟨by decide, by decide⟩ rfl dX11_cry_19 (fun r_5 H_5 locs_5 p_5 hT_5 hk_5 hS_5 => ?_)
  have p_5 : H = H_5 ∧ 0 = r_5 := p_5
  obtain ⟨rfl, rfl⟩ := p_5
  refine lv_if_eq (tgt := 35) hx hb dX11_cry_22 (by decide) (fun c_6 => ?_) (fun c_6 => absurd (by decide) c_6)
  refine lv_bipush (v := (-2)) hx hb dX11_cry_35 (by decide) ?_
  exact th_iret E hr hlk hs hT_5 hS_5 ⟨rfl, rfl⟩ dX11_cry_37
set_option maxHeartbeats 4000000 in
set_option maxRecDepth 100000 in
/-- StreamEnds.leave -/
theorem c_X11_leave_v4 (l : Launch) (D : va_G) (cI cS : ClassId) (τ : Nat → Option Nat) (ρ : Nat → Nat → Nat) (hW : WF τ ρ) (H : Heap) (hT : TH D cI cS τ ρ H) (a0 : Nat) (ha0 : τ a0 = some 11) (hf_1 : fi D 2 7 H (ρ (ρ a0 2) 4) = 0) : MI l D cI cS τ ρ yX11_leave cX11_leave 3 (some .int) 1 21 H [.ref a0, .int 1] (fun (r : Int32) (u : Heap) => H = u ∧ (-2) = r) (fun q => False) := by
  refine MI.of (by decide) (Nat.le_of_ble_eq_true rfl) ?_
  intro p e s m args below meth c E hml hr hlk hs ls hl
  have hx := E.1
  have hb := E.2.1
  have hown := E.2.2.1
  have hts := E.2.2.2.1
  have hS : SS (fun q => False) H H [] := SS.rf
  have hl : lv_has ls 3 [(0, .ref a0), (1, .int 1)] := hl
  refine lv_iload_n hx hb dX11_leave_0 rfl (lv_at hl 1 rfl) ?_
  refine th_Si (As := [.int 1]) (rest := []) E hml hl.1 (c_X11_isEnd_v4 l D cI cS τ ρ hW H hT) lk_X11_65 yd_X11_isEnd hS (fun _ h => h.elim) ⟨by decide, by decide⟩ (Nat.le_of_ble_eq_true rfl) ⟨by decide, by decide⟩ rfl dX11_leave_1 (fun r_1 H_1 locs_1 p_1 hT_1 hk_1 hS_1 => ?_)
  have p_1 : H = H_1 ∧ 1 = r_1 := p_1
  obtain ⟨rfl, rfl⟩ := p_1
  refine lv_if_ne (tgt := 9) hx hb dX11_leave_4 (by decide) (fun c_2 => ?_) (fun c_2 => absurd c_2 (by decide))
  refine lv_aload_n hx hb dX11_leave_9 rfl (lv_at hl 0 rfl) ?_
  refine gf_X11_26 E hT_1 hW ha0 dX11_leave_10 (fun h_3 => ?_)
  refine lv_iload_n hx hb dX11_leave_13 rfl (lv_at hl 1 rfl) ?_
  refine th_Vr (As := [.int 1]) (rest := []) E hml hl.1 (c_X4_endpoint_v2 l D cI cS τ ρ hW H hT_1 (ρ a0 2) h_3) lk_X11_68 yd_X4_endpoint hT_1 h_3 rfl (by decide) hS_1 (fun _ h => h.elim) ⟨by decide, by decide⟩ (Nat.le_of_ble_eq_true rfl) ⟨by decide, by decide⟩ rfl dX11_leave_14 (fun r_4 H_4 locs_4 p_4 hT_4 hk_4 hS_4 => ?_)
  have p_4 : H = H_4 ∧ ρ (ρ a0 2) 4 = r_4 := p_4
  obtain ⟨rfl, rfl⟩ := p_4
  have h_4 : τ (ρ (ρ a0 2) 4) = some 2 := hW _ 4 4 h_3 (by decide) (by decide) (by decide)
  refine lv_astore_n (lv' := [(2, .ref (ρ (ρ a0 2) 4)), (0, .ref a0), (1, .int 1)]) hx hb dX11_leave_17 rfl hl (by decide) rfl (fun ls hl => ?_)
  refine lv_aload_n hx hb dX11_leave_18 rfl (lv_at hl 0 rfl) ?_
  refine gf_X11_72 E hT_4 h_4 dX11_leave_19 ?_
  refine th_topi (y := 0) hf_1 ?_
  refine lv_tableOut (tgt := 107) hx hb dX11_leave_22 (by decide) (by decide) ?_
  refine lv_bipush (v := (-2)) hx hb dX11_leave_107 (by decide) ?_
  exact th_iret E hr hlk hs hT_4 hS_4 ⟨rfl, rfl⟩ dX11_leave_109
set_option maxHeartbeats 4000000 in
set_option maxRecDepth 100000 in
/-- StreamEnds.quit -/
theorem c_X11_quit_v4 (l : Launch) (D : va_G) (cI cS : ClassId) (τ : Nat → Option Nat) (ρ : Nat → Nat → Nat) (hW : WF τ ρ) (H : Heap) (hT : TH D cI cS τ ρ H) (a0 : Nat) (ha0 : τ a0 = some 11) (hf_1 : fi D 2 7 H (ρ (ρ a0 2) 4) = 0) : MI l D cI cS τ ρ yX11_quit cX11_quit 4 (some .int) 1 21 H [.ref a0, .int 1] (fun (r : Int32) (u : Heap) => H = u ∧ (-2) = r) (fun q => False) := by
  refine MI.of (by decide) (Nat.le_of_ble_eq_true rfl) ?_
  intro p e s m args below meth c E hml hr hlk hs ls hl
  have hx := E.1
  have hb := E.2.1
  have hown := E.2.2.1
  have hts := E.2.2.2.1
  have hS : SS (fun q => False) H H [] := SS.rf
  have hl : lv_has ls 4 [(0, .ref a0), (1, .int 1)] := hl
  refine lv_iload_n hx hb dX11_quit_0 rfl (lv_at hl 1 rfl) ?_
  refine th_Si (As := [.int 1]) (rest := []) E hml hl.1 (c_X11_isEnd_v4 l D cI cS τ ρ hW H hT) lk_X11_65 yd_X11_isEnd hS (fun _ h => h.elim) ⟨by decide, by decide⟩ (Nat.le_of_ble_eq_true rfl) ⟨by decide, by decide⟩ rfl dX11_quit_1 (fun r_1 H_1 locs_1 p_1 hT_1 hk_1 hS_1 => ?_)
  have p_1 : H = H_1 ∧ 1 = r_1 := p_1
  obtain ⟨rfl, rfl⟩ := p_1
  refine lv_if_ne (tgt := 9) hx hb dX11_quit_4 (by decide) (fun c_2 => ?_) (fun c_2 => absurd c_2 (by decide))
  refine lv_aload_n hx hb dX11_quit_9 rfl (lv_at hl 0 rfl) ?_
  refine gf_X11_26 E hT_1 hW ha0 dX11_quit_10 (fun h_3 => ?_)
  refine lv_iload_n hx hb dX11_quit_13 rfl (lv_at hl 1 rfl) ?_
  refine th_Vr (As := [.int 1]) (rest := []) E hml hl.1 (c_X4_endpoint_v2 l D cI cS τ ρ hW H hT_1 (ρ a0 2) h_3) lk_X11_68 yd_X4_endpoint hT_1 h_3 rfl (by decide) hS_1 (fun _ h => h.elim) ⟨by decide, by decide⟩ (Nat.le_of_ble_eq_true rfl) ⟨by decide, by decide⟩ rfl dX11_quit_14 (fun r_4 H_4 locs_4 p_4 hT_4 hk_4 hS_4 => ?_)
  have p_4 : H = H_4 ∧ ρ (ρ a0 2) 4 = r_4 := p_4
  obtain ⟨rfl, rfl⟩ := p_4
  have h_4 : τ (ρ (ρ a0 2) 4) = some 2 := hW _ 4 4 h_3 (by decide) (by decide) (by decide)
  refine lv_astore_n (lv' := [(2, .ref (ρ (ρ a0 2) 4)), (0, .ref a0), (1, .int 1)]) hx hb dX11_quit_17 rfl hl (by decide) rfl (fun ls hl => ?_)
  refine lv_aload_n hx hb dX11_quit_18 rfl (lv_at hl 0 rfl) ?_
  refine gf_X11_72 E hT_4 h_4 dX11_quit_19 ?_
  refine th_topi (y := 0) hf_1 ?_
  refine lv_istore_n (lv' := [(3, .int 0), (2, .ref (ρ (ρ a0 2) 4)), (0, .ref a0), (1, .int 1)]) hx hb dX11_quit_22 rfl hl (by decide) rfl (fun ls hl => ?_)
  refine lv_iload_n hx hb dX11_quit_23 rfl (lv_at hl 0 rfl) ?_
  refine lv_if_ne (tgt := 30) hx hb dX11_quit_24 (by decide) (fun c_5 => absurd (by decide) c_5) (fun c_5 => ?_)
  refine lv_bipush (v := (-2)) hx hb dX11_quit_27 (by decide) ?_
  exact th_iret E hr hlk hs hT_4 hS_4 ⟨rfl, rfl⟩ dX11_quit_29
set_option maxHeartbeats 4000000 in
set_option maxRecDepth 100000 in
/-- StreamEnds.take -/
theorem c_X11_take_v4 (l : Launch) (D : va_G) (cI cS : ClassId) (τ : Nat → Option Nat) (ρ : Nat → Nat → Nat) (hW : WF τ ρ) (H : Heap) (hT : TH D cI cS τ ρ H) (a0 : Nat) (ha0 : τ a0 = some 11) (hf_1 : fi D 3 3 H (ρ (ρ (ρ a0 2) 4) 5) = (-4)) (hf_2 : fi D 3 1 H (ρ (ρ (ρ a0 2) 4) 5) = 1) (hf_3 : fi D 3 0 H (ρ (ρ (ρ a0 2) 4) 5) = 0) : MI l D cI cS τ ρ yX11_take cX11_take 4 (some .int) 2 34 H [.ref a0, .int 1] (fun (r : Int32) (u : Heap) => H = u ∧ (-4) = r) (fun q => False) := by
  refine MI.of (by decide) (Nat.le_of_ble_eq_true rfl) ?_
  intro p e s m args below meth c E hml hr hlk hs ls hl
  have hx := E.1
  have hb := E.2.1
  have hown := E.2.2.1
  have hts := E.2.2.2.1
  have hS : SS (fun q => False) H H [] := SS.rf
  have hl : lv_has ls 4 [(0, .ref a0), (1, .int 1)] := hl
  refine lv_iload_n hx hb dX11_take_0 rfl (lv_at hl 1 rfl) ?_
  refine th_Si (As := [.int 1]) (rest := []) E hml hl.1 (c_X11_isEnd_v4 l D cI cS τ ρ hW H hT) lk_X11_65 yd_X11_isEnd hS (fun _ h => h.elim) ⟨by decide, by decide⟩ (Nat.le_of_ble_eq_true rfl) ⟨by decide, by decide⟩ rfl dX11_take_1 (fun r_1 H_1 locs_1 p_1 hT_1 hk_1 hS_1 => ?_)
  have p_1 : H = H_1 ∧ 1 = r_1 := p_1
  obtain ⟨rfl, rfl⟩ := p_1
  refine lv_if_ne (tgt := 9) hx hb dX11_take_4 (by decide) (fun c_2 => ?_) (fun c_2 => absurd c_2 (by decide))
  refine lv_aload_n hx hb dX11_take_9 rfl (lv_at hl 0 rfl) ?_
  refine gf_X11_26 E hT_1 hW ha0 dX11_take_10 (fun h_3 => ?_)
  refine lv_iload_n hx hb dX11_take_13 rfl (lv_at hl 1 rfl) ?_
  refine th_Vr (As := [.int 1]) (rest := []) E hml hl.1 (c_X4_endpoint_v2 l D cI cS τ ρ hW H hT_1 (ρ a0 2) h_3) lk_X11_68 yd_X4_endpoint hT_1 h_3 rfl (by decide) hS_1 (fun _ h => h.elim) ⟨by decide, by decide⟩ (Nat.le_of_ble_eq_true rfl) ⟨by decide, by decide⟩ rfl dX11_take_14 (fun r_4 H_4 locs_4 p_4 hT_4 hk_4 hS_4 => ?_)
  have p_4 : H = H_4 ∧ ρ (ρ a0 2) 4 = r_4 := p_4
  obtain ⟨rfl, rfl⟩ := p_4
  have h_4 : τ (ρ (ρ a0 2) 4) = some 2 := hW _ 4 4 h_3 (by decide) (by decide) (by decide)
  refine lv_astore_n (lv' := [(2, .ref (ρ (ρ a0 2) 4)), (0, .ref a0), (1, .int 1)]) hx hb dX11_take_17 rfl hl (by decide) rfl (fun ls hl => ?_)
  refine lv_aload_n hx hb dX11_take_18 rfl (lv_at hl 0 rfl) ?_
  refine gf_X11_143 E hT_4 hW h_4 dX11_take_19 (fun h_5 => ?_)
  refine th_Vi (As := []) (rest := []) E hml hl.1 (c_X3_consumable l D cI cS τ ρ hW H hT_4 (ρ (ρ (ρ a0 2) 4) 5) h_5 hf_1 hf_2 hf_3) lk_X11_147 yd_X3_consumable hT_4 h_5 rfl (by decide) hS_4 (fun _ h => h.elim) ⟨by decide, by decide⟩ (Nat.le_of_ble_eq_true rfl) ⟨by decide, by decide⟩ rfl dX11_take_22 (fun r_6 H_6 locs_6 p_6 hT_6 hk_6 hS_6 => ?_)
  have p_6 : H = H_6 ∧ 0 = r_6 := p_6
  obtain ⟨rfl, rfl⟩ := p_6
  refine lv_if_ne (tgt := 31) hx hb dX11_take_25 (by decide) (fun c_7 => absurd (by decide) c_7) (fun c_7 => ?_)
  refine lv_bipush (v := (-4)) hx hb dX11_take_28 (by decide) ?_
  exact th_iret E hr hlk hs hT_6 hS_6 ⟨rfl, rfl⟩ dX11_take_30
set_option maxHeartbeats 4000000 in
set_option maxRecDepth 100000 in
/-- StreamEnds.end -/
theorem c_X11_end_v23 (l : Launch) (D : va_G) (cI cS : ClassId) (τ : Nat → Option Nat) (ρ : Nat → Nat → Nat) (hW : WF τ ρ) (H : Heap) (hT : TH D cI cS τ ρ H) (a0 : Nat) (x0 : Int32) (ha0 : τ a0 = some 11) (bh_x0 : x0.toInt ≤ -1) : MI l D cI cS τ ρ yX11_end cX11_end 3 (some .int) 1 20 H [.ref a0, .int 1, .int x0] (fun (r : Int32) (u : Heap) => H = u ∧ (-1) = r) (fun q => False) := by
  refine MI.of (by decide) (Nat.le_of_ble_eq_true rfl) ?_
  intro p e s m args below meth c E hml hr hlk hs ls hl
  have hx := E.1
  have hb := E.2.1
  have hown := E.2.2.1
  have hts := E.2.2.2.1
  have hS : SS (fun q => False) H H [] := SS.rf
  have hl : lv_has ls 3 [(0, .ref a0), (1, .int 1), (2, .int x0)] := hl
  refine lv_iload_n hx hb dX11_end_0 rfl (lv_at hl 1 rfl) ?_
  refine th_Si (As := [.int 1]) (rest := []) E hml hl.1 (c_X11_isEnd_v4 l D cI cS τ ρ hW H hT) lk_X11_65 yd_X11_isEnd hS (fun _ h => h.elim) ⟨by decide, by decide⟩ (Nat.le_of_ble_eq_true rfl) ⟨by decide, by decide⟩ rfl dX11_end_1 (fun r_1 H_1 locs_1 p_1 hT_1 hk_1 hS_1 => ?_)
  have p_1 : H = H_1 ∧ 1 = r_1 := p_1
  obtain ⟨rfl, rfl⟩ := p_1
  refine lv_if_eq (tgt := 17) hx hb dX11_end_4 (by decide) (fun c_2 => absurd c_2 (by decide)) (fun c_2 => ?_)
  refine lv_iload_n hx hb dX11_end_7 rfl (lv_at hl 2 rfl) ?_
  refine lv_if_lt (tgt := 17) hx hb dX11_end_8 (by decide) (fun c_3 => ?_) (fun c_3 => False.elim (by (have : (0 : Int32).toInt = 0 := (by decide); have : ¬ x0.toInt < (0 : Int32).toInt := fun q => c_3 (Int32.lt_iff_toInt_lt.mpr q); omega)))
  refine lv_iconst (v := (-1)) hx hb dX11_end_17 (by decide) ?_
  exact th_iret E hr hlk hs hT_1 hS_1 ⟨rfl, rfl⟩ dX11_end_18
set_option maxHeartbeats 4000000 in
set_option maxRecDepth 100000 in
/-- StreamEnds.end -/
theorem c_X11_end_v24 (l : Launch) (D : va_G) (cI cS : ClassId) (τ : Nat → Option Nat) (ρ : Nat → Nat → Nat) (hW : WF τ ρ) (H : Heap) (hT : TH D cI cS τ ρ H) (a0 : Nat) (ha0 : τ a0 = some 11) (hf_1 : fi D 2 7 H (ρ (ρ a0 2) 4) = 0) : MI l D cI cS τ ρ yX11_end cX11_end 3 (some .int) 1 21 H [.ref a0, .int 1, .int 0] (fun (r : Int32) (u : Heap) => H = u ∧ 0 = r) (fun q => False) := by
  refine MI.of (by decide) (Nat.le_of_ble_eq_true rfl) ?_
  intro p e s m args below meth c E hml hr hlk hs ls hl
  have hx := E.1
  have hb := E.2.1
  have hown := E.2.2.1
  have hts := E.2.2.2.1
  have hS : SS (fun q => False) H H [] := SS.rf
  have hl : lv_has ls 3 [(0, .ref a0), (1, .int 1), (2, .int 0)] := hl
  refine lv_iload_n hx hb dX11_end_0 rfl (lv_at hl 1 rfl) ?_
  refine th_Si (As := [.int 1]) (rest := []) E hml hl.1 (c_X11_isEnd_v4 l D cI cS τ ρ hW H hT) lk_X11_65 yd_X11_isEnd hS (fun _ h => h.elim) ⟨by decide, by decide⟩ (Nat.le_of_ble_eq_true rfl) ⟨by decide, by decide⟩ rfl dX11_end_1 (fun r_1 H_1 locs_1 p_1 hT_1 hk_1 hS_1 => ?_)
  have p_1 : H = H_1 ∧ 1 = r_1 := p_1
  obtain ⟨rfl, rfl⟩ := p_1
  refine lv_if_eq (tgt := 17) hx hb dX11_end_4 (by decide) (fun c_2 => absurd c_2 (by decide)) (fun c_2 => ?_)
  refine lv_iload_n hx hb dX11_end_7 rfl (lv_at hl 2 rfl) ?_
  refine lv_if_lt (tgt := 17) hx hb dX11_end_8 (by decide) (fun c_3 => absurd c_3 (by decide)) (fun c_3 => ?_)
  refine lv_iload_n hx hb dX11_end_11 rfl (lv_at hl 2 rfl) ?_
  refine lv_bipush (v := 17) hx hb dX11_end_12 (by decide) ?_
  refine lv_icmp_le (tgt := 19) hx hb dX11_end_14 (by decide) (fun c_4 => ?_) (fun c_4 => absurd (by decide) c_4)
  refine lv_aload_n hx hb dX11_end_19 rfl (lv_at hl 0 rfl) ?_
  refine gf_X11_26 E hT_1 hW ha0 dX11_end_20 (fun h_5 => ?_)
  refine lv_iload_n hx hb dX11_end_23 rfl (lv_at hl 1 rfl) ?_
  refine th_Vr (As := [.int 1]) (rest := []) E hml hl.1 (c_X4_endpoint_v2 l D cI cS τ ρ hW H hT_1 (ρ a0 2) h_5) lk_X11_68 yd_X4_endpoint hT_1 h_5 rfl (by decide) hS_1 (fun _ h => h.elim) ⟨by decide, by decide⟩ (Nat.le_of_ble_eq_true rfl) ⟨by decide, by decide⟩ rfl dX11_end_24 (fun r_6 H_6 locs_6 p_6 hT_6 hk_6 hS_6 => ?_)
  have p_6 : H = H_6 ∧ ρ (ρ a0 2) 4 = r_6 := p_6
  obtain ⟨rfl, rfl⟩ := p_6
  have h_6 : τ (ρ (ρ a0 2) 4) = some 2 := hW _ 4 4 h_5 (by decide) (by decide) (by decide)
  refine lv_iload_n hx hb dX11_end_27 rfl (lv_at hl 2 rfl) ?_
  refine th_Vi (As := [.int 0]) (rest := []) E hml hl.1 (c_X2_value l D cI cS τ ρ hW H hT_6 (ρ (ρ a0 2) 4) h_6 hf_1) lk_X11_204 yd_X2_value hT_6 h_6 rfl (by decide) hS_6 (fun _ h => h.elim) ⟨by decide, by decide⟩ (Nat.le_of_ble_eq_true rfl) ⟨by decide, by decide⟩ rfl dX11_end_28 (fun r_7 H_7 locs_7 p_7 hT_7 hk_7 hS_7 => ?_)
  have p_7 : H = H_7 ∧ 0 = r_7 := p_7
  obtain ⟨rfl, rfl⟩ := p_7
  exact th_iret E hr hlk hs hT_7 hS_7 ⟨rfl, rfl⟩ dX11_end_31
set_option maxHeartbeats 4000000 in
set_option maxRecDepth 100000 in
/-- StreamEnds.end -/
theorem c_X11_end_v25 (l : Launch) (D : va_G) (cI cS : ClassId) (τ : Nat → Option Nat) (ρ : Nat → Nat → Nat) (hW : WF τ ρ) (H : Heap) (hT : TH D cI cS τ ρ H) (a0 : Nat) (ha0 : τ a0 = some 11) (hf_1 : fi D 5 0 H (ρ (ρ (ρ a0 2) 4) 4) = 0) : MI l D cI cS τ ρ yX11_end cX11_end 3 (some .int) 1 21 H [.ref a0, .int 1, .int 1] (fun (r : Int32) (u : Heap) => H = u ∧ 0 = r) (fun q => False) := by
  refine MI.of (by decide) (Nat.le_of_ble_eq_true rfl) ?_
  intro p e s m args below meth c E hml hr hlk hs ls hl
  have hx := E.1
  have hb := E.2.1
  have hown := E.2.2.1
  have hts := E.2.2.2.1
  have hS : SS (fun q => False) H H [] := SS.rf
  have hl : lv_has ls 3 [(0, .ref a0), (1, .int 1), (2, .int 1)] := hl
  refine lv_iload_n hx hb dX11_end_0 rfl (lv_at hl 1 rfl) ?_
  refine th_Si (As := [.int 1]) (rest := []) E hml hl.1 (c_X11_isEnd_v4 l D cI cS τ ρ hW H hT) lk_X11_65 yd_X11_isEnd hS (fun _ h => h.elim) ⟨by decide, by decide⟩ (Nat.le_of_ble_eq_true rfl) ⟨by decide, by decide⟩ rfl dX11_end_1 (fun r_1 H_1 locs_1 p_1 hT_1 hk_1 hS_1 => ?_)
  have p_1 : H = H_1 ∧ 1 = r_1 := p_1
  obtain ⟨rfl, rfl⟩ := p_1
  refine lv_if_eq (tgt := 17) hx hb dX11_end_4 (by decide) (fun c_2 => absurd c_2 (by decide)) (fun c_2 => ?_)
  refine lv_iload_n hx hb dX11_end_7 rfl (lv_at hl 2 rfl) ?_
  refine lv_if_lt (tgt := 17) hx hb dX11_end_8 (by decide) (fun c_3 => absurd c_3 (by decide)) (fun c_3 => ?_)
  refine lv_iload_n hx hb dX11_end_11 rfl (lv_at hl 2 rfl) ?_
  refine lv_bipush (v := 17) hx hb dX11_end_12 (by decide) ?_
  refine lv_icmp_le (tgt := 19) hx hb dX11_end_14 (by decide) (fun c_4 => ?_) (fun c_4 => absurd (by decide) c_4)
  refine lv_aload_n hx hb dX11_end_19 rfl (lv_at hl 0 rfl) ?_
  refine gf_X11_26 E hT_1 hW ha0 dX11_end_20 (fun h_5 => ?_)
  refine lv_iload_n hx hb dX11_end_23 rfl (lv_at hl 1 rfl) ?_
  refine th_Vr (As := [.int 1]) (rest := []) E hml hl.1 (c_X4_endpoint_v2 l D cI cS τ ρ hW H hT_1 (ρ a0 2) h_5) lk_X11_68 yd_X4_endpoint hT_1 h_5 rfl (by decide) hS_1 (fun _ h => h.elim) ⟨by decide, by decide⟩ (Nat.le_of_ble_eq_true rfl) ⟨by decide, by decide⟩ rfl dX11_end_24 (fun r_6 H_6 locs_6 p_6 hT_6 hk_6 hS_6 => ?_)
  have p_6 : H = H_6 ∧ ρ (ρ a0 2) 4 = r_6 := p_6
  obtain ⟨rfl, rfl⟩ := p_6
  have h_6 : τ (ρ (ρ a0 2) 4) = some 2 := hW _ 4 4 h_5 (by decide) (by decide) (by decide)
  refine lv_iload_n hx hb dX11_end_27 rfl (lv_at hl 2 rfl) ?_
  refine th_Vi (As := [.int 1]) (rest := []) E hml hl.1 (c_X2_value_v2 l D cI cS τ ρ hW H hT_6 (ρ (ρ a0 2) 4) h_6 hf_1) lk_X11_204 yd_X2_value hT_6 h_6 rfl (by decide) hS_6 (fun _ h => h.elim) ⟨by decide, by decide⟩ (Nat.le_of_ble_eq_true rfl) ⟨by decide, by decide⟩ rfl dX11_end_28 (fun r_7 H_7 locs_7 p_7 hT_7 hk_7 hS_7 => ?_)
  have p_7 : H = H_7 ∧ 0 = r_7 := p_7
  obtain ⟨rfl, rfl⟩ := p_7
  exact th_iret E hr hlk hs hT_7 hS_7 ⟨rfl, rfl⟩ dX11_end_31
set_option maxHeartbeats 4000000 in
set_option maxRecDepth 100000 in
/-- StreamEnds.end -/
theorem c_X11_end_v26 (l : Launch) (D : va_G) (cI cS : ClassId) (τ : Nat → Option Nat) (ρ : Nat → Nat → Nat) (hW : WF τ ρ) (H : Heap) (hT : TH D cI cS τ ρ H) (a0 : Nat) (ha0 : τ a0 = some 11) (hf_1 : fi D 5 1 H (ρ (ρ (ρ a0 2) 4) 4) = 0) : MI l D cI cS τ ρ yX11_end cX11_end 3 (some .int) 1 21 H [.ref a0, .int 1, .int 2] (fun (r : Int32) (u : Heap) => H = u ∧ 0 = r) (fun q => False) := by
  refine MI.of (by decide) (Nat.le_of_ble_eq_true rfl) ?_
  intro p e s m args below meth c E hml hr hlk hs ls hl
  have hx := E.1
  have hb := E.2.1
  have hown := E.2.2.1
  have hts := E.2.2.2.1
  have hS : SS (fun q => False) H H [] := SS.rf
  have hl : lv_has ls 3 [(0, .ref a0), (1, .int 1), (2, .int 2)] := hl
  refine lv_iload_n hx hb dX11_end_0 rfl (lv_at hl 1 rfl) ?_
  refine th_Si (As := [.int 1]) (rest := []) E hml hl.1 (c_X11_isEnd_v4 l D cI cS τ ρ hW H hT) lk_X11_65 yd_X11_isEnd hS (fun _ h => h.elim) ⟨by decide, by decide⟩ (Nat.le_of_ble_eq_true rfl) ⟨by decide, by decide⟩ rfl dX11_end_1 (fun r_1 H_1 locs_1 p_1 hT_1 hk_1 hS_1 => ?_)
  have p_1 : H = H_1 ∧ 1 = r_1 := p_1
  obtain ⟨rfl, rfl⟩ := p_1
  refine lv_if_eq (tgt := 17) hx hb dX11_end_4 (by decide) (fun c_2 => absurd c_2 (by decide)) (fun c_2 => ?_)
  refine lv_iload_n hx hb dX11_end_7 rfl (lv_at hl 2 rfl) ?_
  refine lv_if_lt (tgt := 17) hx hb dX11_end_8 (by decide) (fun c_3 => absurd c_3 (by decide)) (fun c_3 => ?_)
  refine lv_iload_n hx hb dX11_end_11 rfl (lv_at hl 2 rfl) ?_
  refine lv_bipush (v := 17) hx hb dX11_end_12 (by decide) ?_
  refine lv_icmp_le (tgt := 19) hx hb dX11_end_14 (by decide) (fun c_4 => ?_) (fun c_4 => absurd (by decide) c_4)
  refine lv_aload_n hx hb dX11_end_19 rfl (lv_at hl 0 rfl) ?_
  refine gf_X11_26 E hT_1 hW ha0 dX11_end_20 (fun h_5 => ?_)
  refine lv_iload_n hx hb dX11_end_23 rfl (lv_at hl 1 rfl) ?_
  refine th_Vr (As := [.int 1]) (rest := []) E hml hl.1 (c_X4_endpoint_v2 l D cI cS τ ρ hW H hT_1 (ρ a0 2) h_5) lk_X11_68 yd_X4_endpoint hT_1 h_5 rfl (by decide) hS_1 (fun _ h => h.elim) ⟨by decide, by decide⟩ (Nat.le_of_ble_eq_true rfl) ⟨by decide, by decide⟩ rfl dX11_end_24 (fun r_6 H_6 locs_6 p_6 hT_6 hk_6 hS_6 => ?_)
  have p_6 : H = H_6 ∧ ρ (ρ a0 2) 4 = r_6 := p_6
  obtain ⟨rfl, rfl⟩ := p_6
  have h_6 : τ (ρ (ρ a0 2) 4) = some 2 := hW _ 4 4 h_5 (by decide) (by decide) (by decide)
  refine lv_iload_n hx hb dX11_end_27 rfl (lv_at hl 2 rfl) ?_
  refine th_Vi (As := [.int 2]) (rest := []) E hml hl.1 (c_X2_value_v3 l D cI cS τ ρ hW H hT_6 (ρ (ρ a0 2) 4) h_6 hf_1) lk_X11_204 yd_X2_value hT_6 h_6 rfl (by decide) hS_6 (fun _ h => h.elim) ⟨by decide, by decide⟩ (Nat.le_of_ble_eq_true rfl) ⟨by decide, by decide⟩ rfl dX11_end_28 (fun r_7 H_7 locs_7 p_7 hT_7 hk_7 hS_7 => ?_)
  have p_7 : H = H_7 ∧ 0 = r_7 := p_7
  obtain ⟨rfl, rfl⟩ := p_7
  exact th_iret E hr hlk hs hT_7 hS_7 ⟨rfl, rfl⟩ dX11_end_31
set_option maxHeartbeats 4000000 in
set_option maxRecDepth 100000 in
/-- StreamEnds.end -/
theorem c_X11_end_v27 (l : Launch) (D : va_G) (cI cS : ClassId) (τ : Nat → Option Nat) (ρ : Nat → Nat → Nat) (hW : WF τ ρ) (H : Heap) (hT : TH D cI cS τ ρ H) (a0 : Nat) (ha0 : τ a0 = some 11) (hf_1 : fi D 5 2 H (ρ (ρ (ρ a0 2) 4) 4) = 1) : MI l D cI cS τ ρ yX11_end cX11_end 3 (some .int) 1 21 H [.ref a0, .int 1, .int 3] (fun (r : Int32) (u : Heap) => H = u ∧ 1 = r) (fun q => False) := by
  refine MI.of (by decide) (Nat.le_of_ble_eq_true rfl) ?_
  intro p e s m args below meth c E hml hr hlk hs ls hl
  have hx := E.1
  have hb := E.2.1
  have hown := E.2.2.1
  have hts := E.2.2.2.1
  have hS : SS (fun q => False) H H [] := SS.rf
  have hl : lv_has ls 3 [(0, .ref a0), (1, .int 1), (2, .int 3)] := hl
  refine lv_iload_n hx hb dX11_end_0 rfl (lv_at hl 1 rfl) ?_
  refine th_Si (As := [.int 1]) (rest := []) E hml hl.1 (c_X11_isEnd_v4 l D cI cS τ ρ hW H hT) lk_X11_65 yd_X11_isEnd hS (fun _ h => h.elim) ⟨by decide, by decide⟩ (Nat.le_of_ble_eq_true rfl) ⟨by decide, by decide⟩ rfl dX11_end_1 (fun r_1 H_1 locs_1 p_1 hT_1 hk_1 hS_1 => ?_)
  have p_1 : H = H_1 ∧ 1 = r_1 := p_1
  obtain ⟨rfl, rfl⟩ := p_1
  refine lv_if_eq (tgt := 17) hx hb dX11_end_4 (by decide) (fun c_2 => absurd c_2 (by decide)) (fun c_2 => ?_)
  refine lv_iload_n hx hb dX11_end_7 rfl (lv_at hl 2 rfl) ?_
  refine lv_if_lt (tgt := 17) hx hb dX11_end_8 (by decide) (fun c_3 => absurd c_3 (by decide)) (fun c_3 => ?_)
  refine lv_iload_n hx hb dX11_end_11 rfl (lv_at hl 2 rfl) ?_
  refine lv_bipush (v := 17) hx hb dX11_end_12 (by decide) ?_
  refine lv_icmp_le (tgt := 19) hx hb dX11_end_14 (by decide) (fun c_4 => ?_) (fun c_4 => absurd (by decide) c_4)
  refine lv_aload_n hx hb dX11_end_19 rfl (lv_at hl 0 rfl) ?_
  refine gf_X11_26 E hT_1 hW ha0 dX11_end_20 (fun h_5 => ?_)
  refine lv_iload_n hx hb dX11_end_23 rfl (lv_at hl 1 rfl) ?_
  refine th_Vr (As := [.int 1]) (rest := []) E hml hl.1 (c_X4_endpoint_v2 l D cI cS τ ρ hW H hT_1 (ρ a0 2) h_5) lk_X11_68 yd_X4_endpoint hT_1 h_5 rfl (by decide) hS_1 (fun _ h => h.elim) ⟨by decide, by decide⟩ (Nat.le_of_ble_eq_true rfl) ⟨by decide, by decide⟩ rfl dX11_end_24 (fun r_6 H_6 locs_6 p_6 hT_6 hk_6 hS_6 => ?_)
  have p_6 : H = H_6 ∧ ρ (ρ a0 2) 4 = r_6 := p_6
  obtain ⟨rfl, rfl⟩ := p_6
  have h_6 : τ (ρ (ρ a0 2) 4) = some 2 := hW _ 4 4 h_5 (by decide) (by decide) (by decide)
  refine lv_iload_n hx hb dX11_end_27 rfl (lv_at hl 2 rfl) ?_
  refine th_Vi (As := [.int 3]) (rest := []) E hml hl.1 (c_X2_value_v4 l D cI cS τ ρ hW H hT_6 (ρ (ρ a0 2) 4) h_6 hf_1) lk_X11_204 yd_X2_value hT_6 h_6 rfl (by decide) hS_6 (fun _ h => h.elim) ⟨by decide, by decide⟩ (Nat.le_of_ble_eq_true rfl) ⟨by decide, by decide⟩ rfl dX11_end_28 (fun r_7 H_7 locs_7 p_7 hT_7 hk_7 hS_7 => ?_)
  have p_7 : H = H_7 ∧ 1 = r_7 := p_7
  obtain ⟨rfl, rfl⟩ := p_7
  exact th_iret E hr hlk hs hT_7 hS_7 ⟨rfl, rfl⟩ dX11_end_31
set_option maxHeartbeats 4000000 in
set_option maxRecDepth 100000 in
/-- StreamEnds.end -/
theorem c_X11_end_v28 (l : Launch) (D : va_G) (cI cS : ClassId) (τ : Nat → Option Nat) (ρ : Nat → Nat → Nat) (hW : WF τ ρ) (H : Heap) (hT : TH D cI cS τ ρ H) (a0 : Nat) (ha0 : τ a0 = some 11) (hf_1 : fi D 5 3 H (ρ (ρ (ρ a0 2) 4) 4) = 0) (hf_2 : fi D 5 0 H (ρ (ρ (ρ a0 2) 4) 4) = 0) : MI l D cI cS τ ρ yX11_end cX11_end 3 (some .int) 3 56 H [.ref a0, .int 1, .int 4] (fun (r : Int32) (u : Heap) => H = u ∧ 0 = r) (fun q => False) := by
  refine MI.of (by decide) (Nat.le_of_ble_eq_true rfl) ?_
  intro p e s m args below meth c E hml hr hlk hs ls hl
  have hx := E.1
  have hb := E.2.1
  have hown := E.2.2.1
  have hts := E.2.2.2.1
  have hS : SS (fun q => False) H H [] := SS.rf
  have hl : lv_has ls 3 [(0, .ref a0), (1, .int 1), (2, .int 4)] := hl
  refine lv_iload_n hx hb dX11_end_0 rfl (lv_at hl 1 rfl) ?_
  refine th_Si (As := [.int 1]) (rest := []) E hml hl.1 (c_X11_isEnd_v4 l D cI cS τ ρ hW H hT) lk_X11_65 yd_X11_isEnd hS (fun _ h => h.elim) ⟨by decide, by decide⟩ (Nat.le_of_ble_eq_true rfl) ⟨by decide, by decide⟩ rfl dX11_end_1 (fun r_1 H_1 locs_1 p_1 hT_1 hk_1 hS_1 => ?_)
  have p_1 : H = H_1 ∧ 1 = r_1 := p_1
  obtain ⟨rfl, rfl⟩ := p_1
  refine lv_if_eq (tgt := 17) hx hb dX11_end_4 (by decide) (fun c_2 => absurd c_2 (by decide)) (fun c_2 => ?_)
  refine lv_iload_n hx hb dX11_end_7 rfl (lv_at hl 2 rfl) ?_
  refine lv_if_lt (tgt := 17) hx hb dX11_end_8 (by decide) (fun c_3 => absurd c_3 (by decide)) (fun c_3 => ?_)
  refine lv_iload_n hx hb dX11_end_11 rfl (lv_at hl 2 rfl) ?_
  refine lv_bipush (v := 17) hx hb dX11_end_12 (by decide) ?_
  refine lv_icmp_le (tgt := 19) hx hb dX11_end_14 (by decide) (fun c_4 => ?_) (fun c_4 => absurd (by decide) c_4)
  refine lv_aload_n hx hb dX11_end_19 rfl (lv_at hl 0 rfl) ?_
  refine gf_X11_26 E hT_1 hW ha0 dX11_end_20 (fun h_5 => ?_)
  refine lv_iload_n hx hb dX11_end_23 rfl (lv_at hl 1 rfl) ?_
  refine th_Vr (As := [.int 1]) (rest := []) E hml hl.1 (c_X4_endpoint_v2 l D cI cS τ ρ hW H hT_1 (ρ a0 2) h_5) lk_X11_68 yd_X4_endpoint hT_1 h_5 rfl (by decide) hS_1 (fun _ h => h.elim) ⟨by decide, by decide⟩ (Nat.le_of_ble_eq_true rfl) ⟨by decide, by decide⟩ rfl dX11_end_24 (fun r_6 H_6 locs_6 p_6 hT_6 hk_6 hS_6 => ?_)
  have p_6 : H = H_6 ∧ ρ (ρ a0 2) 4 = r_6 := p_6
  obtain ⟨rfl, rfl⟩ := p_6
  have h_6 : τ (ρ (ρ a0 2) 4) = some 2 := hW _ 4 4 h_5 (by decide) (by decide) (by decide)
  refine lv_iload_n hx hb dX11_end_27 rfl (lv_at hl 2 rfl) ?_
  refine th_Vi (As := [.int 4]) (rest := []) E hml hl.1 (c_X2_value_v5 l D cI cS τ ρ hW H hT_6 (ρ (ρ a0 2) 4) h_6 hf_1 hf_2) lk_X11_204 yd_X2_value hT_6 h_6 rfl (by decide) hS_6 (fun _ h => h.elim) ⟨by decide, by decide⟩ (Nat.le_of_ble_eq_true rfl) ⟨by decide, by decide⟩ rfl dX11_end_28 (fun r_7 H_7 locs_7 p_7 hT_7 hk_7 hS_7 => ?_)
  have p_7 : H = H_7 ∧ 0 = r_7 := p_7
  obtain ⟨rfl, rfl⟩ := p_7
  exact th_iret E hr hlk hs hT_7 hS_7 ⟨rfl, rfl⟩ dX11_end_31
set_option maxHeartbeats 4000000 in
set_option maxRecDepth 100000 in
/-- StreamEnds.end -/
theorem c_X11_end_v29 (l : Launch) (D : va_G) (cI cS : ClassId) (τ : Nat → Option Nat) (ρ : Nat → Nat → Nat) (hW : WF τ ρ) (H : Heap) (hT : TH D cI cS τ ρ H) (a0 : Nat) (ha0 : τ a0 = some 11) (hf_1 : fi D 3 0 H (ρ (ρ (ρ a0 2) 4) 5) = 0) : MI l D cI cS τ ρ yX11_end cX11_end 3 (some .int) 1 21 H [.ref a0, .int 1, .int 5] (fun (r : Int32) (u : Heap) => H = u ∧ 0 = r) (fun q => False) := by
  refine MI.of (by decide) (Nat.le_of_ble_eq_true rfl) ?_
  intro p e s m args below meth c E hml hr hlk hs ls hl
  have hx := E.1
  have hb := E.2.1
  have hown := E.2.2.1
  have hts := E.2.2.2.1
  have hS : SS (fun q => False) H H [] := SS.rf
  have hl : lv_has ls 3 [(0, .ref a0), (1, .int 1), (2, .int 5)] := hl
  refine lv_iload_n hx hb dX11_end_0 rfl (lv_at hl 1 rfl) ?_
  refine th_Si (As := [.int 1]) (rest := []) E hml hl.1 (c_X11_isEnd_v4 l D cI cS τ ρ hW H hT) lk_X11_65 yd_X11_isEnd hS (fun _ h => h.elim) ⟨by decide, by decide⟩ (Nat.le_of_ble_eq_true rfl) ⟨by decide, by decide⟩ rfl dX11_end_1 (fun r_1 H_1 locs_1 p_1 hT_1 hk_1 hS_1 => ?_)
  have p_1 : H = H_1 ∧ 1 = r_1 := p_1
  obtain ⟨rfl, rfl⟩ := p_1
  refine lv_if_eq (tgt := 17) hx hb dX11_end_4 (by decide) (fun c_2 => absurd c_2 (by decide)) (fun c_2 => ?_)
  refine lv_iload_n hx hb dX11_end_7 rfl (lv_at hl 2 rfl) ?_
  refine lv_if_lt (tgt := 17) hx hb dX11_end_8 (by decide) (fun c_3 => absurd c_3 (by decide)) (fun c_3 => ?_)
  refine lv_iload_n hx hb dX11_end_11 rfl (lv_at hl 2 rfl) ?_
  refine lv_bipush (v := 17) hx hb dX11_end_12 (by decide) ?_
  refine lv_icmp_le (tgt := 19) hx hb dX11_end_14 (by decide) (fun c_4 => ?_) (fun c_4 => absurd (by decide) c_4)
  refine lv_aload_n hx hb dX11_end_19 rfl (lv_at hl 0 rfl) ?_
  refine gf_X11_26 E hT_1 hW ha0 dX11_end_20 (fun h_5 => ?_)
  refine lv_iload_n hx hb dX11_end_23 rfl (lv_at hl 1 rfl) ?_
  refine th_Vr (As := [.int 1]) (rest := []) E hml hl.1 (c_X4_endpoint_v2 l D cI cS τ ρ hW H hT_1 (ρ a0 2) h_5) lk_X11_68 yd_X4_endpoint hT_1 h_5 rfl (by decide) hS_1 (fun _ h => h.elim) ⟨by decide, by decide⟩ (Nat.le_of_ble_eq_true rfl) ⟨by decide, by decide⟩ rfl dX11_end_24 (fun r_6 H_6 locs_6 p_6 hT_6 hk_6 hS_6 => ?_)
  have p_6 : H = H_6 ∧ ρ (ρ a0 2) 4 = r_6 := p_6
  obtain ⟨rfl, rfl⟩ := p_6
  have h_6 : τ (ρ (ρ a0 2) 4) = some 2 := hW _ 4 4 h_5 (by decide) (by decide) (by decide)
  refine lv_iload_n hx hb dX11_end_27 rfl (lv_at hl 2 rfl) ?_
  refine th_Vi (As := [.int 5]) (rest := []) E hml hl.1 (c_X2_value_v6 l D cI cS τ ρ hW H hT_6 (ρ (ρ a0 2) 4) h_6 hf_1) lk_X11_204 yd_X2_value hT_6 h_6 rfl (by decide) hS_6 (fun _ h => h.elim) ⟨by decide, by decide⟩ (Nat.le_of_ble_eq_true rfl) ⟨by decide, by decide⟩ rfl dX11_end_28 (fun r_7 H_7 locs_7 p_7 hT_7 hk_7 hS_7 => ?_)
  have p_7 : H = H_7 ∧ 0 = r_7 := p_7
  obtain ⟨rfl, rfl⟩ := p_7
  exact th_iret E hr hlk hs hT_7 hS_7 ⟨rfl, rfl⟩ dX11_end_31
set_option maxHeartbeats 4000000 in
set_option maxRecDepth 100000 in
/-- StreamEnds.end -/
theorem c_X11_end_v30 (l : Launch) (D : va_G) (cI cS : ClassId) (τ : Nat → Option Nat) (ρ : Nat → Nat → Nat) (hW : WF τ ρ) (H : Heap) (hT : TH D cI cS τ ρ H) (a0 : Nat) (ha0 : τ a0 = some 11) (hf_1 : fi D 3 1 H (ρ (ρ (ρ a0 2) 4) 5) = 1) : MI l D cI cS τ ρ yX11_end cX11_end 3 (some .int) 1 21 H [.ref a0, .int 1, .int 6] (fun (r : Int32) (u : Heap) => H = u ∧ 1 = r) (fun q => False) := by
  refine MI.of (by decide) (Nat.le_of_ble_eq_true rfl) ?_
  intro p e s m args below meth c E hml hr hlk hs ls hl
  have hx := E.1
  have hb := E.2.1
  have hown := E.2.2.1
  have hts := E.2.2.2.1
  have hS : SS (fun q => False) H H [] := SS.rf
  have hl : lv_has ls 3 [(0, .ref a0), (1, .int 1), (2, .int 6)] := hl
  refine lv_iload_n hx hb dX11_end_0 rfl (lv_at hl 1 rfl) ?_
  refine th_Si (As := [.int 1]) (rest := []) E hml hl.1 (c_X11_isEnd_v4 l D cI cS τ ρ hW H hT) lk_X11_65 yd_X11_isEnd hS (fun _ h => h.elim) ⟨by decide, by decide⟩ (Nat.le_of_ble_eq_true rfl) ⟨by decide, by decide⟩ rfl dX11_end_1 (fun r_1 H_1 locs_1 p_1 hT_1 hk_1 hS_1 => ?_)
  have p_1 : H = H_1 ∧ 1 = r_1 := p_1
  obtain ⟨rfl, rfl⟩ := p_1
  refine lv_if_eq (tgt := 17) hx hb dX11_end_4 (by decide) (fun c_2 => absurd c_2 (by decide)) (fun c_2 => ?_)
  refine lv_iload_n hx hb dX11_end_7 rfl (lv_at hl 2 rfl) ?_
  refine lv_if_lt (tgt := 17) hx hb dX11_end_8 (by decide) (fun c_3 => absurd c_3 (by decide)) (fun c_3 => ?_)
  refine lv_iload_n hx hb dX11_end_11 rfl (lv_at hl 2 rfl) ?_
  refine lv_bipush (v := 17) hx hb dX11_end_12 (by decide) ?_
  refine lv_icmp_le (tgt := 19) hx hb dX11_end_14 (by decide) (fun c_4 => ?_) (fun c_4 => absurd (by decide) c_4)
  refine lv_aload_n hx hb dX11_end_19 rfl (lv_at hl 0 rfl) ?_
  refine gf_X11_26 E hT_1 hW ha0 dX11_end_20 (fun h_5 => ?_)
  refine lv_iload_n hx hb dX11_end_23 rfl (lv_at hl 1 rfl) ?_
  refine th_Vr (As := [.int 1]) (rest := []) E hml hl.1 (c_X4_endpoint_v2 l D cI cS τ ρ hW H hT_1 (ρ a0 2) h_5) lk_X11_68 yd_X4_endpoint hT_1 h_5 rfl (by decide) hS_1 (fun _ h => h.elim) ⟨by decide, by decide⟩ (Nat.le_of_ble_eq_true rfl) ⟨by decide, by decide⟩ rfl dX11_end_24 (fun r_6 H_6 locs_6 p_6 hT_6 hk_6 hS_6 => ?_)
  have p_6 : H = H_6 ∧ ρ (ρ a0 2) 4 = r_6 := p_6
  obtain ⟨rfl, rfl⟩ := p_6
  have h_6 : τ (ρ (ρ a0 2) 4) = some 2 := hW _ 4 4 h_5 (by decide) (by decide) (by decide)
  refine lv_iload_n hx hb dX11_end_27 rfl (lv_at hl 2 rfl) ?_
  refine th_Vi (As := [.int 6]) (rest := []) E hml hl.1 (c_X2_value_v7 l D cI cS τ ρ hW H hT_6 (ρ (ρ a0 2) 4) h_6 hf_1) lk_X11_204 yd_X2_value hT_6 h_6 rfl (by decide) hS_6 (fun _ h => h.elim) ⟨by decide, by decide⟩ (Nat.le_of_ble_eq_true rfl) ⟨by decide, by decide⟩ rfl dX11_end_28 (fun r_7 H_7 locs_7 p_7 hT_7 hk_7 hS_7 => ?_)
  have p_7 : H = H_7 ∧ 1 = r_7 := p_7
  obtain ⟨rfl, rfl⟩ := p_7
  exact th_iret E hr hlk hs hT_7 hS_7 ⟨rfl, rfl⟩ dX11_end_31
set_option maxHeartbeats 4000000 in
set_option maxRecDepth 100000 in
/-- StreamEnds.end -/
theorem c_X11_end_v31 (l : Launch) (D : va_G) (cI cS : ClassId) (τ : Nat → Option Nat) (ρ : Nat → Nat → Nat) (hW : WF τ ρ) (H : Heap) (hT : TH D cI cS τ ρ H) (a0 : Nat) (ha0 : τ a0 = some 11) (hf_1 : fi D 3 2 H (ρ (ρ (ρ a0 2) 4) 5) = 13) : MI l D cI cS τ ρ yX11_end cX11_end 3 (some .int) 1 21 H [.ref a0, .int 1, .int 7] (fun (r : Int32) (u : Heap) => H = u ∧ 13 = r) (fun q => False) := by
  refine MI.of (by decide) (Nat.le_of_ble_eq_true rfl) ?_
  intro p e s m args below meth c E hml hr hlk hs ls hl
  have hx := E.1
  have hb := E.2.1
  have hown := E.2.2.1
  have hts := E.2.2.2.1
  have hS : SS (fun q => False) H H [] := SS.rf
  have hl : lv_has ls 3 [(0, .ref a0), (1, .int 1), (2, .int 7)] := hl
  refine lv_iload_n hx hb dX11_end_0 rfl (lv_at hl 1 rfl) ?_
  refine th_Si (As := [.int 1]) (rest := []) E hml hl.1 (c_X11_isEnd_v4 l D cI cS τ ρ hW H hT) lk_X11_65 yd_X11_isEnd hS (fun _ h => h.elim) ⟨by decide, by decide⟩ (Nat.le_of_ble_eq_true rfl) ⟨by decide, by decide⟩ rfl dX11_end_1 (fun r_1 H_1 locs_1 p_1 hT_1 hk_1 hS_1 => ?_)
  have p_1 : H = H_1 ∧ 1 = r_1 := p_1
  obtain ⟨rfl, rfl⟩ := p_1
  refine lv_if_eq (tgt := 17) hx hb dX11_end_4 (by decide) (fun c_2 => absurd c_2 (by decide)) (fun c_2 => ?_)
  refine lv_iload_n hx hb dX11_end_7 rfl (lv_at hl 2 rfl) ?_
  refine lv_if_lt (tgt := 17) hx hb dX11_end_8 (by decide) (fun c_3 => absurd c_3 (by decide)) (fun c_3 => ?_)
  refine lv_iload_n hx hb dX11_end_11 rfl (lv_at hl 2 rfl) ?_
  refine lv_bipush (v := 17) hx hb dX11_end_12 (by decide) ?_
  refine lv_icmp_le (tgt := 19) hx hb dX11_end_14 (by decide) (fun c_4 => ?_) (fun c_4 => absurd (by decide) c_4)
  refine lv_aload_n hx hb dX11_end_19 rfl (lv_at hl 0 rfl) ?_
  refine gf_X11_26 E hT_1 hW ha0 dX11_end_20 (fun h_5 => ?_)
  refine lv_iload_n hx hb dX11_end_23 rfl (lv_at hl 1 rfl) ?_
  refine th_Vr (As := [.int 1]) (rest := []) E hml hl.1 (c_X4_endpoint_v2 l D cI cS τ ρ hW H hT_1 (ρ a0 2) h_5) lk_X11_68 yd_X4_endpoint hT_1 h_5 rfl (by decide) hS_1 (fun _ h => h.elim) ⟨by decide, by decide⟩ (Nat.le_of_ble_eq_true rfl) ⟨by decide, by decide⟩ rfl dX11_end_24 (fun r_6 H_6 locs_6 p_6 hT_6 hk_6 hS_6 => ?_)
  have p_6 : H = H_6 ∧ ρ (ρ a0 2) 4 = r_6 := p_6
  obtain ⟨rfl, rfl⟩ := p_6
  have h_6 : τ (ρ (ρ a0 2) 4) = some 2 := hW _ 4 4 h_5 (by decide) (by decide) (by decide)
  refine lv_iload_n hx hb dX11_end_27 rfl (lv_at hl 2 rfl) ?_
  refine th_Vi (As := [.int 7]) (rest := []) E hml hl.1 (c_X2_value_v8 l D cI cS τ ρ hW H hT_6 (ρ (ρ a0 2) 4) h_6 hf_1) lk_X11_204 yd_X2_value hT_6 h_6 rfl (by decide) hS_6 (fun _ h => h.elim) ⟨by decide, by decide⟩ (Nat.le_of_ble_eq_true rfl) ⟨by decide, by decide⟩ rfl dX11_end_28 (fun r_7 H_7 locs_7 p_7 hT_7 hk_7 hS_7 => ?_)
  have p_7 : H = H_7 ∧ 13 = r_7 := p_7
  obtain ⟨rfl, rfl⟩ := p_7
  exact th_iret E hr hlk hs hT_7 hS_7 ⟨rfl, rfl⟩ dX11_end_31
set_option maxHeartbeats 4000000 in
set_option maxRecDepth 100000 in
/-- StreamEnds.end -/
theorem c_X11_end_v32 (l : Launch) (D : va_G) (cI cS : ClassId) (τ : Nat → Option Nat) (ρ : Nat → Nat → Nat) (hW : WF τ ρ) (H : Heap) (hT : TH D cI cS τ ρ H) (a0 : Nat) (ha0 : τ a0 = some 11) (hf_1 : fi D 7 0 H (ρ (ρ (ρ a0 2) 4) 6) = 6) : MI l D cI cS τ ρ yX11_end cX11_end 3 (some .int) 1 21 H [.ref a0, .int 1, .int 8] (fun (r : Int32) (u : Heap) => H = u ∧ 6 = r) (fun q => False) := by
  refine MI.of (by decide) (Nat.le_of_ble_eq_true rfl) ?_
  intro p e s m args below meth c E hml hr hlk hs ls hl
  have hx := E.1
  have hb := E.2.1
  have hown := E.2.2.1
  have hts := E.2.2.2.1
  have hS : SS (fun q => False) H H [] := SS.rf
  have hl : lv_has ls 3 [(0, .ref a0), (1, .int 1), (2, .int 8)] := hl
  refine lv_iload_n hx hb dX11_end_0 rfl (lv_at hl 1 rfl) ?_
  refine th_Si (As := [.int 1]) (rest := []) E hml hl.1 (c_X11_isEnd_v4 l D cI cS τ ρ hW H hT) lk_X11_65 yd_X11_isEnd hS (fun _ h => h.elim) ⟨by decide, by decide⟩ (Nat.le_of_ble_eq_true rfl) ⟨by decide, by decide⟩ rfl dX11_end_1 (fun r_1 H_1 locs_1 p_1 hT_1 hk_1 hS_1 => ?_)
  have p_1 : H = H_1 ∧ 1 = r_1 := p_1
  obtain ⟨rfl, rfl⟩ := p_1
  refine lv_if_eq (tgt := 17) hx hb dX11_end_4 (by decide) (fun c_2 => absurd c_2 (by decide)) (fun c_2 => ?_)
  refine lv_iload_n hx hb dX11_end_7 rfl (lv_at hl 2 rfl) ?_
  refine lv_if_lt (tgt := 17) hx hb dX11_end_8 (by decide) (fun c_3 => absurd c_3 (by decide)) (fun c_3 => ?_)
  refine lv_iload_n hx hb dX11_end_11 rfl (lv_at hl 2 rfl) ?_
  refine lv_bipush (v := 17) hx hb dX11_end_12 (by decide) ?_
  refine lv_icmp_le (tgt := 19) hx hb dX11_end_14 (by decide) (fun c_4 => ?_) (fun c_4 => absurd (by decide) c_4)
  refine lv_aload_n hx hb dX11_end_19 rfl (lv_at hl 0 rfl) ?_
  refine gf_X11_26 E hT_1 hW ha0 dX11_end_20 (fun h_5 => ?_)
  refine lv_iload_n hx hb dX11_end_23 rfl (lv_at hl 1 rfl) ?_
  refine th_Vr (As := [.int 1]) (rest := []) E hml hl.1 (c_X4_endpoint_v2 l D cI cS τ ρ hW H hT_1 (ρ a0 2) h_5) lk_X11_68 yd_X4_endpoint hT_1 h_5 rfl (by decide) hS_1 (fun _ h => h.elim) ⟨by decide, by decide⟩ (Nat.le_of_ble_eq_true rfl) ⟨by decide, by decide⟩ rfl dX11_end_24 (fun r_6 H_6 locs_6 p_6 hT_6 hk_6 hS_6 => ?_)
  have p_6 : H = H_6 ∧ ρ (ρ a0 2) 4 = r_6 := p_6
  obtain ⟨rfl, rfl⟩ := p_6
  have h_6 : τ (ρ (ρ a0 2) 4) = some 2 := hW _ 4 4 h_5 (by decide) (by decide) (by decide)
  refine lv_iload_n hx hb dX11_end_27 rfl (lv_at hl 2 rfl) ?_
  refine th_Vi (As := [.int 8]) (rest := []) E hml hl.1 (c_X2_value_v9 l D cI cS τ ρ hW H hT_6 (ρ (ρ a0 2) 4) h_6 hf_1) lk_X11_204 yd_X2_value hT_6 h_6 rfl (by decide) hS_6 (fun _ h => h.elim) ⟨by decide, by decide⟩ (Nat.le_of_ble_eq_true rfl) ⟨by decide, by decide⟩ rfl dX11_end_28 (fun r_7 H_7 locs_7 p_7 hT_7 hk_7 hS_7 => ?_)
  have p_7 : H = H_7 ∧ 6 = r_7 := p_7
  obtain ⟨rfl, rfl⟩ := p_7
  exact th_iret E hr hlk hs hT_7 hS_7 ⟨rfl, rfl⟩ dX11_end_31
set_option maxHeartbeats 4000000 in
set_option maxRecDepth 100000 in
/-- StreamEnds.end -/
theorem c_X11_end_v33 (l : Launch) (D : va_G) (cI cS : ClassId) (τ : Nat → Option Nat) (ρ : Nat → Nat → Nat) (hW : WF τ ρ) (H : Heap) (hT : TH D cI cS τ ρ H) (a0 : Nat) (ha0 : τ a0 = some 11) (hf_1 : fi D 7 1 H (ρ (ρ (ρ a0 2) 4) 6) = 0) : MI l D cI cS τ ρ yX11_end cX11_end 3 (some .int) 1 21 H [.ref a0, .int 1, .int 9] (fun (r : Int32) (u : Heap) => H = u ∧ 0 = r) (fun q => False) := by
  refine MI.of (by decide) (Nat.le_of_ble_eq_true rfl) ?_
  intro p e s m args below meth c E hml hr hlk hs ls hl
  have hx := E.1
  have hb := E.2.1
  have hown := E.2.2.1
  have hts := E.2.2.2.1
  have hS : SS (fun q => False) H H [] := SS.rf
  have hl : lv_has ls 3 [(0, .ref a0), (1, .int 1), (2, .int 9)] := hl
  refine lv_iload_n hx hb dX11_end_0 rfl (lv_at hl 1 rfl) ?_
  refine th_Si (As := [.int 1]) (rest := []) E hml hl.1 (c_X11_isEnd_v4 l D cI cS τ ρ hW H hT) lk_X11_65 yd_X11_isEnd hS (fun _ h => h.elim) ⟨by decide, by decide⟩ (Nat.le_of_ble_eq_true rfl) ⟨by decide, by decide⟩ rfl dX11_end_1 (fun r_1 H_1 locs_1 p_1 hT_1 hk_1 hS_1 => ?_)
  have p_1 : H = H_1 ∧ 1 = r_1 := p_1
  obtain ⟨rfl, rfl⟩ := p_1
  refine lv_if_eq (tgt := 17) hx hb dX11_end_4 (by decide) (fun c_2 => absurd c_2 (by decide)) (fun c_2 => ?_)
  refine lv_iload_n hx hb dX11_end_7 rfl (lv_at hl 2 rfl) ?_
  refine lv_if_lt (tgt := 17) hx hb dX11_end_8 (by decide) (fun c_3 => absurd c_3 (by decide)) (fun c_3 => ?_)
  refine lv_iload_n hx hb dX11_end_11 rfl (lv_at hl 2 rfl) ?_
  refine lv_bipush (v := 17) hx hb dX11_end_12 (by decide) ?_
  refine lv_icmp_le (tgt := 19) hx hb dX11_end_14 (by decide) (fun c_4 => ?_) (fun c_4 => absurd (by decide) c_4)
  refine lv_aload_n hx hb dX11_end_19 rfl (lv_at hl 0 rfl) ?_
  refine gf_X11_26 E hT_1 hW ha0 dX11_end_20 (fun h_5 => ?_)
  refine lv_iload_n hx hb dX11_end_23 rfl (lv_at hl 1 rfl) ?_
  refine th_Vr (As := [.int 1]) (rest := []) E hml hl.1 (c_X4_endpoint_v2 l D cI cS τ ρ hW H hT_1 (ρ a0 2) h_5) lk_X11_68 yd_X4_endpoint hT_1 h_5 rfl (by decide) hS_1 (fun _ h => h.elim) ⟨by decide, by decide⟩ (Nat.le_of_ble_eq_true rfl) ⟨by decide, by decide⟩ rfl dX11_end_24 (fun r_6 H_6 locs_6 p_6 hT_6 hk_6 hS_6 => ?_)
  have p_6 : H = H_6 ∧ ρ (ρ a0 2) 4 = r_6 := p_6
  obtain ⟨rfl, rfl⟩ := p_6
  have h_6 : τ (ρ (ρ a0 2) 4) = some 2 := hW _ 4 4 h_5 (by decide) (by decide) (by decide)
  refine lv_iload_n hx hb dX11_end_27 rfl (lv_at hl 2 rfl) ?_
  refine th_Vi (As := [.int 9]) (rest := []) E hml hl.1 (c_X2_value_v10 l D cI cS τ ρ hW H hT_6 (ρ (ρ a0 2) 4) h_6 hf_1) lk_X11_204 yd_X2_value hT_6 h_6 rfl (by decide) hS_6 (fun _ h => h.elim) ⟨by decide, by decide⟩ (Nat.le_of_ble_eq_true rfl) ⟨by decide, by decide⟩ rfl dX11_end_28 (fun r_7 H_7 locs_7 p_7 hT_7 hk_7 hS_7 => ?_)
  have p_7 : H = H_7 ∧ 0 = r_7 := p_7
  obtain ⟨rfl, rfl⟩ := p_7
  exact th_iret E hr hlk hs hT_7 hS_7 ⟨rfl, rfl⟩ dX11_end_31
set_option maxHeartbeats 4000000 in
set_option maxRecDepth 100000 in
/-- StreamEnds.end -/
theorem c_X11_end_v34 (l : Launch) (D : va_G) (cI cS : ClassId) (τ : Nat → Option Nat) (ρ : Nat → Nat → Nat) (hW : WF τ ρ) (H : Heap) (hT : TH D cI cS τ ρ H) (a0 : Nat) (ha0 : τ a0 = some 11) (hf_1 : fi D 7 2 H (ρ (ρ (ρ a0 2) 4) 6) = 0) : MI l D cI cS τ ρ yX11_end cX11_end 3 (some .int) 1 21 H [.ref a0, .int 1, .int 10] (fun (r : Int32) (u : Heap) => H = u ∧ 0 = r) (fun q => False) := by
  refine MI.of (by decide) (Nat.le_of_ble_eq_true rfl) ?_
  intro p e s m args below meth c E hml hr hlk hs ls hl
  have hx := E.1
  have hb := E.2.1
  have hown := E.2.2.1
  have hts := E.2.2.2.1
  have hS : SS (fun q => False) H H [] := SS.rf
  have hl : lv_has ls 3 [(0, .ref a0), (1, .int 1), (2, .int 10)] := hl
  refine lv_iload_n hx hb dX11_end_0 rfl (lv_at hl 1 rfl) ?_
  refine th_Si (As := [.int 1]) (rest := []) E hml hl.1 (c_X11_isEnd_v4 l D cI cS τ ρ hW H hT) lk_X11_65 yd_X11_isEnd hS (fun _ h => h.elim) ⟨by decide, by decide⟩ (Nat.le_of_ble_eq_true rfl) ⟨by decide, by decide⟩ rfl dX11_end_1 (fun r_1 H_1 locs_1 p_1 hT_1 hk_1 hS_1 => ?_)
  have p_1 : H = H_1 ∧ 1 = r_1 := p_1
  obtain ⟨rfl, rfl⟩ := p_1
  refine lv_if_eq (tgt := 17) hx hb dX11_end_4 (by decide) (fun c_2 => absurd c_2 (by decide)) (fun c_2 => ?_)
  refine lv_iload_n hx hb dX11_end_7 rfl (lv_at hl 2 rfl) ?_
  refine lv_if_lt (tgt := 17) hx hb dX11_end_8 (by decide) (fun c_3 => absurd c_3 (by decide)) (fun c_3 => ?_)
  refine lv_iload_n hx hb dX11_end_11 rfl (lv_at hl 2 rfl) ?_
  refine lv_bipush (v := 17) hx hb dX11_end_12 (by decide) ?_
  refine lv_icmp_le (tgt := 19) hx hb dX11_end_14 (by decide) (fun c_4 => ?_) (fun c_4 => absurd (by decide) c_4)
  refine lv_aload_n hx hb dX11_end_19 rfl (lv_at hl 0 rfl) ?_
  refine gf_X11_26 E hT_1 hW ha0 dX11_end_20 (fun h_5 => ?_)
  refine lv_iload_n hx hb dX11_end_23 rfl (lv_at hl 1 rfl) ?_
  refine th_Vr (As := [.int 1]) (rest := []) E hml hl.1 (c_X4_endpoint_v2 l D cI cS τ ρ hW H hT_1 (ρ a0 2) h_5) lk_X11_68 yd_X4_endpoint hT_1 h_5 rfl (by decide) hS_1 (fun _ h => h.elim) ⟨by decide, by decide⟩ (Nat.le_of_ble_eq_true rfl) ⟨by decide, by decide⟩ rfl dX11_end_24 (fun r_6 H_6 locs_6 p_6 hT_6 hk_6 hS_6 => ?_)
  have p_6 : H = H_6 ∧ ρ (ρ a0 2) 4 = r_6 := p_6
  obtain ⟨rfl, rfl⟩ := p_6
  have h_6 : τ (ρ (ρ a0 2) 4) = some 2 := hW _ 4 4 h_5 (by decide) (by decide) (by decide)
  refine lv_iload_n hx hb dX11_end_27 rfl (lv_at hl 2 rfl) ?_
  refine th_Vi (As := [.int 10]) (rest := []) E hml hl.1 (c_X2_value_v11 l D cI cS τ ρ hW H hT_6 (ρ (ρ a0 2) 4) h_6 hf_1) lk_X11_204 yd_X2_value hT_6 h_6 rfl (by decide) hS_6 (fun _ h => h.elim) ⟨by decide, by decide⟩ (Nat.le_of_ble_eq_true rfl) ⟨by decide, by decide⟩ rfl dX11_end_28 (fun r_7 H_7 locs_7 p_7 hT_7 hk_7 hS_7 => ?_)
  have p_7 : H = H_7 ∧ 0 = r_7 := p_7
  obtain ⟨rfl, rfl⟩ := p_7
  exact th_iret E hr hlk hs hT_7 hS_7 ⟨rfl, rfl⟩ dX11_end_31
set_option maxHeartbeats 4000000 in
set_option maxRecDepth 100000 in
/-- StreamEnds.end -/
theorem c_X11_end_v35 (l : Launch) (D : va_G) (cI cS : ClassId) (τ : Nat → Option Nat) (ρ : Nat → Nat → Nat) (hW : WF τ ρ) (H : Heap) (hT : TH D cI cS τ ρ H) (a0 : Nat) (ha0 : τ a0 = some 11) (hf_1 : fi D 2 8 H (ρ (ρ a0 2) 4) = 0) : MI l D cI cS τ ρ yX11_end cX11_end 3 (some .int) 1 21 H [.ref a0, .int 1, .int 11] (fun (r : Int32) (u : Heap) => H = u ∧ 0 = r) (fun q => False) := by
  refine MI.of (by decide) (Nat.le_of_ble_eq_true rfl) ?_
  intro p e s m args below meth c E hml hr hlk hs ls hl
  have hx := E.1
  have hb := E.2.1
  have hown := E.2.2.1
  have hts := E.2.2.2.1
  have hS : SS (fun q => False) H H [] := SS.rf
  have hl : lv_has ls 3 [(0, .ref a0), (1, .int 1), (2, .int 11)] := hl
  refine lv_iload_n hx hb dX11_end_0 rfl (lv_at hl 1 rfl) ?_
  refine th_Si (As := [.int 1]) (rest := []) E hml hl.1 (c_X11_isEnd_v4 l D cI cS τ ρ hW H hT) lk_X11_65 yd_X11_isEnd hS (fun _ h => h.elim) ⟨by decide, by decide⟩ (Nat.le_of_ble_eq_true rfl) ⟨by decide, by decide⟩ rfl dX11_end_1 (fun r_1 H_1 locs_1 p_1 hT_1 hk_1 hS_1 => ?_)
  have p_1 : H = H_1 ∧ 1 = r_1 := p_1
  obtain ⟨rfl, rfl⟩ := p_1
  refine lv_if_eq (tgt := 17) hx hb dX11_end_4 (by decide) (fun c_2 => absurd c_2 (by decide)) (fun c_2 => ?_)
  refine lv_iload_n hx hb dX11_end_7 rfl (lv_at hl 2 rfl) ?_
  refine lv_if_lt (tgt := 17) hx hb dX11_end_8 (by decide) (fun c_3 => absurd c_3 (by decide)) (fun c_3 => ?_)
  refine lv_iload_n hx hb dX11_end_11 rfl (lv_at hl 2 rfl) ?_
  refine lv_bipush (v := 17) hx hb dX11_end_12 (by decide) ?_
  refine lv_icmp_le (tgt := 19) hx hb dX11_end_14 (by decide) (fun c_4 => ?_) (fun c_4 => absurd (by decide) c_4)
  refine lv_aload_n hx hb dX11_end_19 rfl (lv_at hl 0 rfl) ?_
  refine gf_X11_26 E hT_1 hW ha0 dX11_end_20 (fun h_5 => ?_)
  refine lv_iload_n hx hb dX11_end_23 rfl (lv_at hl 1 rfl) ?_
  refine th_Vr (As := [.int 1]) (rest := []) E hml hl.1 (c_X4_endpoint_v2 l D cI cS τ ρ hW H hT_1 (ρ a0 2) h_5) lk_X11_68 yd_X4_endpoint hT_1 h_5 rfl (by decide) hS_1 (fun _ h => h.elim) ⟨by decide, by decide⟩ (Nat.le_of_ble_eq_true rfl) ⟨by decide, by decide⟩ rfl dX11_end_24 (fun r_6 H_6 locs_6 p_6 hT_6 hk_6 hS_6 => ?_)
  have p_6 : H = H_6 ∧ ρ (ρ a0 2) 4 = r_6 := p_6
  obtain ⟨rfl, rfl⟩ := p_6
  have h_6 : τ (ρ (ρ a0 2) 4) = some 2 := hW _ 4 4 h_5 (by decide) (by decide) (by decide)
  refine lv_iload_n hx hb dX11_end_27 rfl (lv_at hl 2 rfl) ?_
  refine th_Vi (As := [.int 11]) (rest := []) E hml hl.1 (c_X2_value_v12 l D cI cS τ ρ hW H hT_6 (ρ (ρ a0 2) 4) h_6 hf_1) lk_X11_204 yd_X2_value hT_6 h_6 rfl (by decide) hS_6 (fun _ h => h.elim) ⟨by decide, by decide⟩ (Nat.le_of_ble_eq_true rfl) ⟨by decide, by decide⟩ rfl dX11_end_28 (fun r_7 H_7 locs_7 p_7 hT_7 hk_7 hS_7 => ?_)
  have p_7 : H = H_7 ∧ 0 = r_7 := p_7
  obtain ⟨rfl, rfl⟩ := p_7
  exact th_iret E hr hlk hs hT_7 hS_7 ⟨rfl, rfl⟩ dX11_end_31
set_option maxHeartbeats 4000000 in
set_option maxRecDepth 100000 in
/-- StreamEnds.end -/
theorem c_X11_end_v36 (l : Launch) (D : va_G) (cI cS : ClassId) (τ : Nat → Option Nat) (ρ : Nat → Nat → Nat) (hW : WF τ ρ) (H : Heap) (hT : TH D cI cS τ ρ H) (a0 : Nat) (ha0 : τ a0 = some 11) (hf_1 : fi D 2 9 H (ρ (ρ a0 2) 4) = 0) : MI l D cI cS τ ρ yX11_end cX11_end 3 (some .int) 1 21 H [.ref a0, .int 1, .int 12] (fun (r : Int32) (u : Heap) => H = u ∧ 0 = r) (fun q => False) := by
  refine MI.of (by decide) (Nat.le_of_ble_eq_true rfl) ?_
  intro p e s m args below meth c E hml hr hlk hs ls hl
  have hx := E.1
  have hb := E.2.1
  have hown := E.2.2.1
  have hts := E.2.2.2.1
  have hS : SS (fun q => False) H H [] := SS.rf
  have hl : lv_has ls 3 [(0, .ref a0), (1, .int 1), (2, .int 12)] := hl
  refine lv_iload_n hx hb dX11_end_0 rfl (lv_at hl 1 rfl) ?_
  refine th_Si (As := [.int 1]) (rest := []) E hml hl.1 (c_X11_isEnd_v4 l D cI cS τ ρ hW H hT) lk_X11_65 yd_X11_isEnd hS (fun _ h => h.elim) ⟨by decide, by decide⟩ (Nat.le_of_ble_eq_true rfl) ⟨by decide, by decide⟩ rfl dX11_end_1 (fun r_1 H_1 locs_1 p_1 hT_1 hk_1 hS_1 => ?_)
  have p_1 : H = H_1 ∧ 1 = r_1 := p_1
  obtain ⟨rfl, rfl⟩ := p_1
  refine lv_if_eq (tgt := 17) hx hb dX11_end_4 (by decide) (fun c_2 => absurd c_2 (by decide)) (fun c_2 => ?_)
  refine lv_iload_n hx hb dX11_end_7 rfl (lv_at hl 2 rfl) ?_
  refine lv_if_lt (tgt := 17) hx hb dX11_end_8 (by decide) (fun c_3 => absurd c_3 (by decide)) (fun c_3 => ?_)
  refine lv_iload_n hx hb dX11_end_11 rfl (lv_at hl 2 rfl) ?_
  refine lv_bipush (v := 17) hx hb dX11_end_12 (by decide) ?_
  refine lv_icmp_le (tgt := 19) hx hb dX11_end_14 (by decide) (fun c_4 => ?_) (fun c_4 => absurd (by decide) c_4)
  refine lv_aload_n hx hb dX11_end_19 rfl (lv_at hl 0 rfl) ?_
  refine gf_X11_26 E hT_1 hW ha0 dX11_end_20 (fun h_5 => ?_)
  refine lv_iload_n hx hb dX11_end_23 rfl (lv_at hl 1 rfl) ?_
  refine th_Vr (As := [.int 1]) (rest := []) E hml hl.1 (c_X4_endpoint_v2 l D cI cS τ ρ hW H hT_1 (ρ a0 2) h_5) lk_X11_68 yd_X4_endpoint hT_1 h_5 rfl (by decide) hS_1 (fun _ h => h.elim) ⟨by decide, by decide⟩ (Nat.le_of_ble_eq_true rfl) ⟨by decide, by decide⟩ rfl dX11_end_24 (fun r_6 H_6 locs_6 p_6 hT_6 hk_6 hS_6 => ?_)
  have p_6 : H = H_6 ∧ ρ (ρ a0 2) 4 = r_6 := p_6
  obtain ⟨rfl, rfl⟩ := p_6
  have h_6 : τ (ρ (ρ a0 2) 4) = some 2 := hW _ 4 4 h_5 (by decide) (by decide) (by decide)
  refine lv_iload_n hx hb dX11_end_27 rfl (lv_at hl 2 rfl) ?_
  refine th_Vi (As := [.int 12]) (rest := []) E hml hl.1 (c_X2_value_v13 l D cI cS τ ρ hW H hT_6 (ρ (ρ a0 2) 4) h_6 hf_1) lk_X11_204 yd_X2_value hT_6 h_6 rfl (by decide) hS_6 (fun _ h => h.elim) ⟨by decide, by decide⟩ (Nat.le_of_ble_eq_true rfl) ⟨by decide, by decide⟩ rfl dX11_end_28 (fun r_7 H_7 locs_7 p_7 hT_7 hk_7 hS_7 => ?_)
  have p_7 : H = H_7 ∧ 0 = r_7 := p_7
  obtain ⟨rfl, rfl⟩ := p_7
  exact th_iret E hr hlk hs hT_7 hS_7 ⟨rfl, rfl⟩ dX11_end_31
set_option maxHeartbeats 4000000 in
set_option maxRecDepth 100000 in
/-- StreamEnds.end -/
theorem c_X11_end_v37 (l : Launch) (D : va_G) (cI cS : ClassId) (τ : Nat → Option Nat) (ρ : Nat → Nat → Nat) (hW : WF τ ρ) (H : Heap) (hT : TH D cI cS τ ρ H) (a0 : Nat) (ha0 : τ a0 = some 11) (hf_1 : fi D 5 5 H (ρ (ρ (ρ a0 2) 4) 4) = 0) : MI l D cI cS τ ρ yX11_end cX11_end 3 (some .int) 1 21 H [.ref a0, .int 1, .int 13] (fun (r : Int32) (u : Heap) => H = u ∧ 0 = r) (fun q => False) := by
  refine MI.of (by decide) (Nat.le_of_ble_eq_true rfl) ?_
  intro p e s m args below meth c E hml hr hlk hs ls hl
  have hx := E.1
  have hb := E.2.1
  have hown := E.2.2.1
  have hts := E.2.2.2.1
  have hS : SS (fun q => False) H H [] := SS.rf
  have hl : lv_has ls 3 [(0, .ref a0), (1, .int 1), (2, .int 13)] := hl
  refine lv_iload_n hx hb dX11_end_0 rfl (lv_at hl 1 rfl) ?_
  refine th_Si (As := [.int 1]) (rest := []) E hml hl.1 (c_X11_isEnd_v4 l D cI cS τ ρ hW H hT) lk_X11_65 yd_X11_isEnd hS (fun _ h => h.elim) ⟨by decide, by decide⟩ (Nat.le_of_ble_eq_true rfl) ⟨by decide, by decide⟩ rfl dX11_end_1 (fun r_1 H_1 locs_1 p_1 hT_1 hk_1 hS_1 => ?_)
  have p_1 : H = H_1 ∧ 1 = r_1 := p_1
  obtain ⟨rfl, rfl⟩ := p_1
  refine lv_if_eq (tgt := 17) hx hb dX11_end_4 (by decide) (fun c_2 => absurd c_2 (by decide)) (fun c_2 => ?_)
  refine lv_iload_n hx hb dX11_end_7 rfl (lv_at hl 2 rfl) ?_
  refine lv_if_lt (tgt := 17) hx hb dX11_end_8 (by decide) (fun c_3 => absurd c_3 (by decide)) (fun c_3 => ?_)
  refine lv_iload_n hx hb dX11_end_11 rfl (lv_at hl 2 rfl) ?_
  refine lv_bipush (v := 17) hx hb dX11_end_12 (by decide) ?_
  refine lv_icmp_le (tgt := 19) hx hb dX11_end_14 (by decide) (fun c_4 => ?_) (fun c_4 => absurd (by decide) c_4)
  refine lv_aload_n hx hb dX11_end_19 rfl (lv_at hl 0 rfl) ?_
  refine gf_X11_26 E hT_1 hW ha0 dX11_end_20 (fun h_5 => ?_)
  refine lv_iload_n hx hb dX11_end_23 rfl (lv_at hl 1 rfl) ?_
  refine th_Vr (As := [.int 1]) (rest := []) E hml hl.1 (c_X4_endpoint_v2 l D cI cS τ ρ hW H hT_1 (ρ a0 2) h_5) lk_X11_68 yd_X4_endpoint hT_1 h_5 rfl (by decide) hS_1 (fun _ h => h.elim) ⟨by decide, by decide⟩ (Nat.le_of_ble_eq_true rfl) ⟨by decide, by decide⟩ rfl dX11_end_24 (fun r_6 H_6 locs_6 p_6 hT_6 hk_6 hS_6 => ?_)
  have p_6 : H = H_6 ∧ ρ (ρ a0 2) 4 = r_6 := p_6
  obtain ⟨rfl, rfl⟩ := p_6
  have h_6 : τ (ρ (ρ a0 2) 4) = some 2 := hW _ 4 4 h_5 (by decide) (by decide) (by decide)
  refine lv_iload_n hx hb dX11_end_27 rfl (lv_at hl 2 rfl) ?_
  refine th_Vi (As := [.int 13]) (rest := []) E hml hl.1 (c_X2_value_v14 l D cI cS τ ρ hW H hT_6 (ρ (ρ a0 2) 4) h_6 hf_1) lk_X11_204 yd_X2_value hT_6 h_6 rfl (by decide) hS_6 (fun _ h => h.elim) ⟨by decide, by decide⟩ (Nat.le_of_ble_eq_true rfl) ⟨by decide, by decide⟩ rfl dX11_end_28 (fun r_7 H_7 locs_7 p_7 hT_7 hk_7 hS_7 => ?_)
  have p_7 : H = H_7 ∧ 0 = r_7 := p_7
  obtain ⟨rfl, rfl⟩ := p_7
  exact th_iret E hr hlk hs hT_7 hS_7 ⟨rfl, rfl⟩ dX11_end_31
set_option maxHeartbeats 4000000 in
set_option maxRecDepth 100000 in
/-- StreamEnds.end -/
theorem c_X11_end_v38 (l : Launch) (D : va_G) (cI cS : ClassId) (τ : Nat → Option Nat) (ρ : Nat → Nat → Nat) (hW : WF τ ρ) (H : Heap) (hT : TH D cI cS τ ρ H) (a0 : Nat) (ha0 : τ a0 = some 11) (hf_1 : fi D 5 4 H (ρ (ρ (ρ a0 2) 4) 4) = 0) : MI l D cI cS τ ρ yX11_end cX11_end 3 (some .int) 1 21 H [.ref a0, .int 1, .int 14] (fun (r : Int32) (u : Heap) => H = u ∧ 0 = r) (fun q => False) := by
  refine MI.of (by decide) (Nat.le_of_ble_eq_true rfl) ?_
  intro p e s m args below meth c E hml hr hlk hs ls hl
  have hx := E.1
  have hb := E.2.1
  have hown := E.2.2.1
  have hts := E.2.2.2.1
  have hS : SS (fun q => False) H H [] := SS.rf
  have hl : lv_has ls 3 [(0, .ref a0), (1, .int 1), (2, .int 14)] := hl
  refine lv_iload_n hx hb dX11_end_0 rfl (lv_at hl 1 rfl) ?_
  refine th_Si (As := [.int 1]) (rest := []) E hml hl.1 (c_X11_isEnd_v4 l D cI cS τ ρ hW H hT) lk_X11_65 yd_X11_isEnd hS (fun _ h => h.elim) ⟨by decide, by decide⟩ (Nat.le_of_ble_eq_true rfl) ⟨by decide, by decide⟩ rfl dX11_end_1 (fun r_1 H_1 locs_1 p_1 hT_1 hk_1 hS_1 => ?_)
  have p_1 : H = H_1 ∧ 1 = r_1 := p_1
  obtain ⟨rfl, rfl⟩ := p_1
  refine lv_if_eq (tgt := 17) hx hb dX11_end_4 (by decide) (fun c_2 => absurd c_2 (by decide)) (fun c_2 => ?_)
  refine lv_iload_n hx hb dX11_end_7 rfl (lv_at hl 2 rfl) ?_
  refine lv_if_lt (tgt := 17) hx hb dX11_end_8 (by decide) (fun c_3 => absurd c_3 (by decide)) (fun c_3 => ?_)
  refine lv_iload_n hx hb dX11_end_11 rfl (lv_at hl 2 rfl) ?_
  refine lv_bipush (v := 17) hx hb dX11_end_12 (by decide) ?_
  refine lv_icmp_le (tgt := 19) hx hb dX11_end_14 (by decide) (fun c_4 => ?_) (fun c_4 => absurd (by decide) c_4)
  refine lv_aload_n hx hb dX11_end_19 rfl (lv_at hl 0 rfl) ?_
  refine gf_X11_26 E hT_1 hW ha0 dX11_end_20 (fun h_5 => ?_)
  refine lv_iload_n hx hb dX11_end_23 rfl (lv_at hl 1 rfl) ?_
  refine th_Vr (As := [.int 1]) (rest := []) E hml hl.1 (c_X4_endpoint_v2 l D cI cS τ ρ hW H hT_1 (ρ a0 2) h_5) lk_X11_68 yd_X4_endpoint hT_1 h_5 rfl (by decide) hS_1 (fun _ h => h.elim) ⟨by decide, by decide⟩ (Nat.le_of_ble_eq_true rfl) ⟨by decide, by decide⟩ rfl dX11_end_24 (fun r_6 H_6 locs_6 p_6 hT_6 hk_6 hS_6 => ?_)
  have p_6 : H = H_6 ∧ ρ (ρ a0 2) 4 = r_6 := p_6
  obtain ⟨rfl, rfl⟩ := p_6
  have h_6 : τ (ρ (ρ a0 2) 4) = some 2 := hW _ 4 4 h_5 (by decide) (by decide) (by decide)
  refine lv_iload_n hx hb dX11_end_27 rfl (lv_at hl 2 rfl) ?_
  refine th_Vi (As := [.int 14]) (rest := []) E hml hl.1 (c_X2_value_v15 l D cI cS τ ρ hW H hT_6 (ρ (ρ a0 2) 4) h_6 hf_1) lk_X11_204 yd_X2_value hT_6 h_6 rfl (by decide) hS_6 (fun _ h => h.elim) ⟨by decide, by decide⟩ (Nat.le_of_ble_eq_true rfl) ⟨by decide, by decide⟩ rfl dX11_end_28 (fun r_7 H_7 locs_7 p_7 hT_7 hk_7 hS_7 => ?_)
  have p_7 : H = H_7 ∧ 0 = r_7 := p_7
  obtain ⟨rfl, rfl⟩ := p_7
  exact th_iret E hr hlk hs hT_7 hS_7 ⟨rfl, rfl⟩ dX11_end_31
set_option maxHeartbeats 4000000 in
set_option maxRecDepth 100000 in
/-- StreamEnds.end -/
theorem c_X11_end_v39 (l : Launch) (D : va_G) (cI cS : ClassId) (τ : Nat → Option Nat) (ρ : Nat → Nat → Nat) (hW : WF τ ρ) (H : Heap) (hT : TH D cI cS τ ρ H) (a0 : Nat) (ha0 : τ a0 = some 11) (hf_1 : fi D 3 4 H (ρ (ρ (ρ a0 2) 4) 5) = 0) : MI l D cI cS τ ρ yX11_end cX11_end 3 (some .int) 1 21 H [.ref a0, .int 1, .int 15] (fun (r : Int32) (u : Heap) => H = u ∧ 0 = r) (fun q => False) := by
  refine MI.of (by decide) (Nat.le_of_ble_eq_true rfl) ?_
  intro p e s m args below meth c E hml hr hlk hs ls hl
  have hx := E.1
  have hb := E.2.1
  have hown := E.2.2.1
  have hts := E.2.2.2.1
  have hS : SS (fun q => False) H H [] := SS.rf
  have hl : lv_has ls 3 [(0, .ref a0), (1, .int 1), (2, .int 15)] := hl
  refine lv_iload_n hx hb dX11_end_0 rfl (lv_at hl 1 rfl) ?_
  refine th_Si (As := [.int 1]) (rest := []) E hml hl.1 (c_X11_isEnd_v4 l D cI cS τ ρ hW H hT) lk_X11_65 yd_X11_isEnd hS (fun _ h => h.elim) ⟨by decide, by decide⟩ (Nat.le_of_ble_eq_true rfl) ⟨by decide, by decide⟩ rfl dX11_end_1 (fun r_1 H_1 locs_1 p_1 hT_1 hk_1 hS_1 => ?_)
  have p_1 : H = H_1 ∧ 1 = r_1 := p_1
  obtain ⟨rfl, rfl⟩ := p_1
  refine lv_if_eq (tgt := 17) hx hb dX11_end_4 (by decide) (fun c_2 => absurd c_2 (by decide)) (fun c_2 => ?_)
  refine lv_iload_n hx hb dX11_end_7 rfl (lv_at hl 2 rfl) ?_
  refine lv_if_lt (tgt := 17) hx hb dX11_end_8 (by decide) (fun c_3 => absurd c_3 (by decide)) (fun c_3 => ?_)
  refine lv_iload_n hx hb dX11_end_11 rfl (lv_at hl 2 rfl) ?_
  refine lv_bipush (v := 17) hx hb dX11_end_12 (by decide) ?_
  refine lv_icmp_le (tgt := 19) hx hb dX11_end_14 (by decide) (fun c_4 => ?_) (fun c_4 => absurd (by decide) c_4)
  refine lv_aload_n hx hb dX11_end_19 rfl (lv_at hl 0 rfl) ?_
  refine gf_X11_26 E hT_1 hW ha0 dX11_end_20 (fun h_5 => ?_)
  refine lv_iload_n hx hb dX11_end_23 rfl (lv_at hl 1 rfl) ?_
  refine th_Vr (As := [.int 1]) (rest := []) E hml hl.1 (c_X4_endpoint_v2 l D cI cS τ ρ hW H hT_1 (ρ a0 2) h_5) lk_X11_68 yd_X4_endpoint hT_1 h_5 rfl (by decide) hS_1 (fun _ h => h.elim) ⟨by decide, by decide⟩ (Nat.le_of_ble_eq_true rfl) ⟨by decide, by decide⟩ rfl dX11_end_24 (fun r_6 H_6 locs_6 p_6 hT_6 hk_6 hS_6 => ?_)
  have p_6 : H = H_6 ∧ ρ (ρ a0 2) 4 = r_6 := p_6
  obtain ⟨rfl, rfl⟩ := p_6
  have h_6 : τ (ρ (ρ a0 2) 4) = some 2 := hW _ 4 4 h_5 (by decide) (by decide) (by decide)
  refine lv_iload_n hx hb dX11_end_27 rfl (lv_at hl 2 rfl) ?_
  refine th_Vi (As := [.int 15]) (rest := []) E hml hl.1 (c_X2_value_v16 l D cI cS τ ρ hW H hT_6 (ρ (ρ a0 2) 4) h_6 hf_1) lk_X11_204 yd_X2_value hT_6 h_6 rfl (by decide) hS_6 (fun _ h => h.elim) ⟨by decide, by decide⟩ (Nat.le_of_ble_eq_true rfl) ⟨by decide, by decide⟩ rfl dX11_end_28 (fun r_7 H_7 locs_7 p_7 hT_7 hk_7 hS_7 => ?_)
  have p_7 : H = H_7 ∧ 0 = r_7 := p_7
  obtain ⟨rfl, rfl⟩ := p_7
  exact th_iret E hr hlk hs hT_7 hS_7 ⟨rfl, rfl⟩ dX11_end_31
set_option maxHeartbeats 4000000 in
set_option maxRecDepth 100000 in
/-- StreamEnds.end -/
theorem c_X11_end_v40 (l : Launch) (D : va_G) (cI cS : ClassId) (τ : Nat → Option Nat) (ρ : Nat → Nat → Nat) (hW : WF τ ρ) (H : Heap) (hT : TH D cI cS τ ρ H) (a0 : Nat) (ha0 : τ a0 = some 11) (hf_1 : fi D 7 3 H (ρ (ρ (ρ a0 2) 4) 6) = (-4)) : MI l D cI cS τ ρ yX11_end cX11_end 3 (some .int) 1 21 H [.ref a0, .int 1, .int 16] (fun (r : Int32) (u : Heap) => H = u ∧ (-4) = r) (fun q => False) := by
  refine MI.of (by decide) (Nat.le_of_ble_eq_true rfl) ?_
  intro p e s m args below meth c E hml hr hlk hs ls hl
  have hx := E.1
  have hb := E.2.1
  have hown := E.2.2.1
  have hts := E.2.2.2.1
  have hS : SS (fun q => False) H H [] := SS.rf
  have hl : lv_has ls 3 [(0, .ref a0), (1, .int 1), (2, .int 16)] := hl
  refine lv_iload_n hx hb dX11_end_0 rfl (lv_at hl 1 rfl) ?_
  refine th_Si (As := [.int 1]) (rest := []) E hml hl.1 (c_X11_isEnd_v4 l D cI cS τ ρ hW H hT) lk_X11_65 yd_X11_isEnd hS (fun _ h => h.elim) ⟨by decide, by decide⟩ (Nat.le_of_ble_eq_true rfl) ⟨by decide, by decide⟩ rfl dX11_end_1 (fun r_1 H_1 locs_1 p_1 hT_1 hk_1 hS_1 => ?_)
  have p_1 : H = H_1 ∧ 1 = r_1 := p_1
  obtain ⟨rfl, rfl⟩ := p_1
  refine lv_if_eq (tgt := 17) hx hb dX11_end_4 (by decide) (fun c_2 => absurd c_2 (by decide)) (fun c_2 => ?_)
  refine lv_iload_n hx hb dX11_end_7 rfl (lv_at hl 2 rfl) ?_
  refine lv_if_lt (tgt := 17) hx hb dX11_end_8 (by decide) (fun c_3 => absurd c_3 (by decide)) (fun c_3 => ?_)
  refine lv_iload_n hx hb dX11_end_11 rfl (lv_at hl 2 rfl) ?_
  refine lv_bipush (v := 17) hx hb dX11_end_12 (by decide) ?_
  refine lv_icmp_le (tgt := 19) hx hb dX11_end_14 (by decide) (fun c_4 => ?_) (fun c_4 => absurd (by decide) c_4)
  refine lv_aload_n hx hb dX11_end_19 rfl (lv_at hl 0 rfl) ?_
  refine gf_X11_26 E hT_1 hW ha0 dX11_end_20 (fun h_5 => ?_)
  refine lv_iload_n hx hb dX11_end_23 rfl (lv_at hl 1 rfl) ?_
  refine th_Vr (As := [.int 1]) (rest := []) E hml hl.1 (c_X4_endpoint_v2 l D cI cS τ ρ hW H hT_1 (ρ a0 2) h_5) lk_X11_68 yd_X4_endpoint hT_1 h_5 rfl (by decide) hS_1 (fun _ h => h.elim) ⟨by decide, by decide⟩ (Nat.le_of_ble_eq_true rfl) ⟨by decide, by decide⟩ rfl dX11_end_24 (fun r_6 H_6 locs_6 p_6 hT_6 hk_6 hS_6 => ?_)
  have p_6 : H = H_6 ∧ ρ (ρ a0 2) 4 = r_6 := p_6
  obtain ⟨rfl, rfl⟩ := p_6
  have h_6 : τ (ρ (ρ a0 2) 4) = some 2 := hW _ 4 4 h_5 (by decide) (by decide) (by decide)
  refine lv_iload_n hx hb dX11_end_27 rfl (lv_at hl 2 rfl) ?_
  refine th_Vi (As := [.int 16]) (rest := []) E hml hl.1 (c_X2_value_v17 l D cI cS τ ρ hW H hT_6 (ρ (ρ a0 2) 4) h_6 hf_1) lk_X11_204 yd_X2_value hT_6 h_6 rfl (by decide) hS_6 (fun _ h => h.elim) ⟨by decide, by decide⟩ (Nat.le_of_ble_eq_true rfl) ⟨by decide, by decide⟩ rfl dX11_end_28 (fun r_7 H_7 locs_7 p_7 hT_7 hk_7 hS_7 => ?_)
  have p_7 : H = H_7 ∧ (-4) = r_7 := p_7
  obtain ⟨rfl, rfl⟩ := p_7
  exact th_iret E hr hlk hs hT_7 hS_7 ⟨rfl, rfl⟩ dX11_end_31
set_option maxHeartbeats 4000000 in
set_option maxRecDepth 100000 in
/-- StreamEnds.end -/
theorem c_X11_end_v41 (l : Launch) (D : va_G) (cI cS : ClassId) (τ : Nat → Option Nat) (ρ : Nat → Nat → Nat) (hW : WF τ ρ) (H : Heap) (hT : TH D cI cS τ ρ H) (a0 : Nat) (ha0 : τ a0 = some 11) (hf_1 : fi D 3 3 H (ρ (ρ (ρ a0 2) 4) 5) = (-4)) : MI l D cI cS τ ρ yX11_end cX11_end 3 (some .int) 1 21 H [.ref a0, .int 1, .int 17] (fun (r : Int32) (u : Heap) => H = u ∧ (-4) = r) (fun q => False) := by
  refine MI.of (by decide) (Nat.le_of_ble_eq_true rfl) ?_
  intro p e s m args below meth c E hml hr hlk hs ls hl
  have hx := E.1
  have hb := E.2.1
  have hown := E.2.2.1
  have hts := E.2.2.2.1
  have hS : SS (fun q => False) H H [] := SS.rf
  have hl : lv_has ls 3 [(0, .ref a0), (1, .int 1), (2, .int 17)] := hl
  refine lv_iload_n hx hb dX11_end_0 rfl (lv_at hl 1 rfl) ?_
  refine th_Si (As := [.int 1]) (rest := []) E hml hl.1 (c_X11_isEnd_v4 l D cI cS τ ρ hW H hT) lk_X11_65 yd_X11_isEnd hS (fun _ h => h.elim) ⟨by decide, by decide⟩ (Nat.le_of_ble_eq_true rfl) ⟨by decide, by decide⟩ rfl dX11_end_1 (fun r_1 H_1 locs_1 p_1 hT_1 hk_1 hS_1 => ?_)
  have p_1 : H = H_1 ∧ 1 = r_1 := p_1
  obtain ⟨rfl, rfl⟩ := p_1
  refine lv_if_eq (tgt := 17) hx hb dX11_end_4 (by decide) (fun c_2 => absurd c_2 (by decide)) (fun c_2 => ?_)
  refine lv_iload_n hx hb dX11_end_7 rfl (lv_at hl 2 rfl) ?_
  refine lv_if_lt (tgt := 17) hx hb dX11_end_8 (by decide) (fun c_3 => absurd c_3 (by decide)) (fun c_3 => ?_)
  refine lv_iload_n hx hb dX11_end_11 rfl (lv_at hl 2 rfl) ?_
  refine lv_bipush (v := 17) hx hb dX11_end_12 (by decide) ?_
  refine lv_icmp_le (tgt := 19) hx hb dX11_end_14 (by decide) (fun c_4 => ?_) (fun c_4 => absurd (by decide) c_4)
  refine lv_aload_n hx hb dX11_end_19 rfl (lv_at hl 0 rfl) ?_
  refine gf_X11_26 E hT_1 hW ha0 dX11_end_20 (fun h_5 => ?_)
  refine lv_iload_n hx hb dX11_end_23 rfl (lv_at hl 1 rfl) ?_
  refine th_Vr (As := [.int 1]) (rest := []) E hml hl.1 (c_X4_endpoint_v2 l D cI cS τ ρ hW H hT_1 (ρ a0 2) h_5) lk_X11_68 yd_X4_endpoint hT_1 h_5 rfl (by decide) hS_1 (fun _ h => h.elim) ⟨by decide, by decide⟩ (Nat.le_of_ble_eq_true rfl) ⟨by decide, by decide⟩ rfl dX11_end_24 (fun r_6 H_6 locs_6 p_6 hT_6 hk_6 hS_6 => ?_)
  have p_6 : H = H_6 ∧ ρ (ρ a0 2) 4 = r_6 := p_6
  obtain ⟨rfl, rfl⟩ := p_6
  have h_6 : τ (ρ (ρ a0 2) 4) = some 2 := hW _ 4 4 h_5 (by decide) (by decide) (by decide)
  refine lv_iload_n hx hb dX11_end_27 rfl (lv_at hl 2 rfl) ?_
  refine th_Vi (As := [.int 17]) (rest := []) E hml hl.1 (c_X2_value_v18 l D cI cS τ ρ hW H hT_6 (ρ (ρ a0 2) 4) h_6 hf_1) lk_X11_204 yd_X2_value hT_6 h_6 rfl (by decide) hS_6 (fun _ h => h.elim) ⟨by decide, by decide⟩ (Nat.le_of_ble_eq_true rfl) ⟨by decide, by decide⟩ rfl dX11_end_28 (fun r_7 H_7 locs_7 p_7 hT_7 hk_7 hS_7 => ?_)
  have p_7 : H = H_7 ∧ (-4) = r_7 := p_7
  obtain ⟨rfl, rfl⟩ := p_7
  exact th_iret E hr hlk hs hT_7 hS_7 ⟨rfl, rfl⟩ dX11_end_31
set_option maxHeartbeats 4000000 in
set_option maxRecDepth 100000 in
/-- StreamEnds.end -/
theorem c_X11_end_v42 (l : Launch) (D : va_G) (cI cS : ClassId) (τ : Nat → Option Nat) (ρ : Nat → Nat → Nat) (hW : WF τ ρ) (H : Heap) (hT : TH D cI cS τ ρ H) (a0 : Nat) (x0 : Int32) (ha0 : τ a0 = some 11) (bl_x0 : 18 ≤ x0.toInt) : MI l D cI cS τ ρ yX11_end cX11_end 3 (some .int) 1 20 H [.ref a0, .int 1, .int x0] (fun (r : Int32) (u : Heap) => H = u ∧ (-1) = r) (fun q => False) := by
  refine MI.of (by decide) (Nat.le_of_ble_eq_true rfl) ?_
  intro p e s m args below meth c E hml hr hlk hs ls hl
  have hx := E.1
  have hb := E.2.1
  have hown := E.2.2.1
  have hts := E.2.2.2.1
  have hS : SS (fun q => False) H H [] := SS.rf
  have hl : lv_has ls 3 [(0, .ref a0), (1, .int 1), (2, .int x0)] := hl
  refine lv_iload_n hx hb dX11_end_0 rfl (lv_at hl 1 rfl) ?_
  refine th_Si (As := [.int 1]) (rest := []) E hml hl.1 (c_X11_isEnd_v4 l D cI cS τ ρ hW H hT) lk_X11_65 yd_X11_isEnd hS (fun _ h => h.elim) ⟨by decide, by decide⟩ (Nat.le_of_ble_eq_true rfl) ⟨by decide, by decide⟩ rfl dX11_end_1 (fun r_1 H_1 locs_1 p_1 hT_1 hk_1 hS_1 => ?_)
  have p_1 : H = H_1 ∧ 1 = r_1 := p_1
  obtain ⟨rfl, rfl⟩ := p_1
  refine lv_if_eq (tgt := 17) hx hb dX11_end_4 (by decide) (fun c_2 => absurd c_2 (by decide)) (fun c_2 => ?_)
  refine lv_iload_n hx hb dX11_end_7 rfl (lv_at hl 2 rfl) ?_
  refine lv_if_lt (tgt := 17) hx hb dX11_end_8 (by decide) (fun c_3 => False.elim (by (have : (0 : Int32).toInt = 0 := (by decide); have : x0.toInt < (0 : Int32).toInt := Int32.lt_iff_toInt_lt.mp c_3; omega))) (fun c_3 => ?_)
  refine lv_iload_n hx hb dX11_end_11 rfl (lv_at hl 2 rfl) ?_
  refine lv_bipush (v := 17) hx hb dX11_end_12 (by decide) ?_
  refine lv_icmp_le (tgt := 19) hx hb dX11_end_14 (by decide) (fun c_4 => False.elim (by (have : (17 : Int32).toInt = 17 := (by decide); have : x0.toInt ≤ (17 : Int32).toInt := Int32.le_iff_toInt_le.mp c_4; omega))) (fun c_4 => ?_)
  refine lv_iconst (v := (-1)) hx hb dX11_end_17 (by decide) ?_
  exact th_iret E hr hlk hs hT_1 hS_1 ⟨rfl, rfl⟩ dX11_end_18
set_option maxHeartbeats 4000000 in
set_option maxRecDepth 100000 in
/-- StreamEnds.sample -/
theorem c_X11_sample_v5 (l : Launch) (D : va_G) (cI cS : ClassId) (τ : Nat → Option Nat) (ρ : Nat → Nat → Nat) (hW : WF τ ρ) (H : Heap) (hT : TH D cI cS τ ρ H) (a0 : Nat) (x0 : Int32) (ha0 : τ a0 = some 11) (bh_x0 : x0.toInt ≤ -1) : MI l D cI cS τ ρ yX11_sample cX11_sample 3 (some .int) 1 20 H [.ref a0, .int 1, .int x0] (fun (r : Int32) (u : Heap) => H = u ∧ (-1) = r) (fun q => False) := by
  refine MI.of (by decide) (Nat.le_of_ble_eq_true rfl) ?_
  intro p e s m args below meth c E hml hr hlk hs ls hl
  have hx := E.1
  have hb := E.2.1
  have hown := E.2.2.1
  have hts := E.2.2.2.1
  have hS : SS (fun q => False) H H [] := SS.rf
  have hl : lv_has ls 3 [(0, .ref a0), (1, .int 1), (2, .int x0)] := hl
  refine lv_iload_n hx hb dX11_sample_0 rfl (lv_at hl 1 rfl) ?_
  refine th_Si (As := [.int 1]) (rest := []) E hml hl.1 (c_X11_isEnd_v4 l D cI cS τ ρ hW H hT) lk_X11_65 yd_X11_isEnd hS (fun _ h => h.elim) ⟨by decide, by decide⟩ (Nat.le_of_ble_eq_true rfl) ⟨by decide, by decide⟩ rfl dX11_sample_1 (fun r_1 H_1 locs_1 p_1 hT_1 hk_1 hS_1 => ?_)
  have p_1 : H = H_1 ∧ 1 = r_1 := p_1
  obtain ⟨rfl, rfl⟩ := p_1
  refine lv_if_eq (tgt := 11) hx hb dX11_sample_4 (by decide) (fun c_2 => absurd c_2 (by decide)) (fun c_2 => ?_)
  refine lv_iload_n hx hb dX11_sample_7 rfl (lv_at hl 2 rfl) ?_
  refine lv_if_ge (tgt := 13) hx hb dX11_sample_8 (by decide) (fun c_3 => False.elim (by (have : (0 : Int32).toInt = 0 := (by decide); have : (0 : Int32).toInt ≤ x0.toInt := Int32.le_iff_toInt_le.mp c_3; omega))) (fun c_3 => ?_)
  refine lv_iconst (v := (-1)) hx hb dX11_sample_11 (by decide) ?_
  exact th_iret E hr hlk hs hT_1 hS_1 ⟨rfl, rfl⟩ dX11_sample_12
set_option maxHeartbeats 4000000 in
set_option maxRecDepth 100000 in
/-- StreamEnds.known -/
theorem c_X11_known_v5 (l : Launch) (D : va_G) (cI cS : ClassId) (τ : Nat → Option Nat) (ρ : Nat → Nat → Nat) (hW : WF τ ρ) (H : Heap) (hT : TH D cI cS τ ρ H) (a0 : Nat) (x0 : Int32) (ha0 : τ a0 = some 11) (bh_x0 : x0.toInt ≤ -1) : MI l D cI cS τ ρ yX11_known cX11_known 3 (some .int) 1 20 H [.ref a0, .int 1, .int x0] (fun (r : Int32) (u : Heap) => H = u ∧ (-1) = r) (fun q => False) := by
  refine MI.of (by decide) (Nat.le_of_ble_eq_true rfl) ?_
  intro p e s m args below meth c E hml hr hlk hs ls hl
  have hx := E.1
  have hb := E.2.1
  have hown := E.2.2.1
  have hts := E.2.2.2.1
  have hS : SS (fun q => False) H H [] := SS.rf
  have hl : lv_has ls 3 [(0, .ref a0), (1, .int 1), (2, .int x0)] := hl
  refine lv_iload_n hx hb dX11_known_0 rfl (lv_at hl 1 rfl) ?_
  refine th_Si (As := [.int 1]) (rest := []) E hml hl.1 (c_X11_isEnd_v4 l D cI cS τ ρ hW H hT) lk_X11_65 yd_X11_isEnd hS (fun _ h => h.elim) ⟨by decide, by decide⟩ (Nat.le_of_ble_eq_true rfl) ⟨by decide, by decide⟩ rfl dX11_known_1 (fun r_1 H_1 locs_1 p_1 hT_1 hk_1 hS_1 => ?_)
  have p_1 : H = H_1 ∧ 1 = r_1 := p_1
  obtain ⟨rfl, rfl⟩ := p_1
  refine lv_if_eq (tgt := 11) hx hb dX11_known_4 (by decide) (fun c_2 => absurd c_2 (by decide)) (fun c_2 => ?_)
  refine lv_iload_n hx hb dX11_known_7 rfl (lv_at hl 2 rfl) ?_
  refine lv_if_ge (tgt := 13) hx hb dX11_known_8 (by decide) (fun c_3 => False.elim (by (have : (0 : Int32).toInt = 0 := (by decide); have : (0 : Int32).toInt ≤ x0.toInt := Int32.le_iff_toInt_le.mp c_3; omega))) (fun c_3 => ?_)
  refine lv_iconst (v := (-1)) hx hb dX11_known_11 (by decide) ?_
  exact th_iret E hr hlk hs hT_1 hS_1 ⟨rfl, rfl⟩ dX11_known_12
set_option maxHeartbeats 4000000 in
set_option maxRecDepth 100000 in
/-- StreamEnds.sample -/
theorem c_X11_sample_v6 (l : Launch) (D : va_G) (cI cS : ClassId) (τ : Nat → Option Nat) (ρ : Nat → Nat → Nat) (hW : WF τ ρ) (H : Heap) (hT : TH D cI cS τ ρ H) (a0 : Nat) (x0 : Int32) (ha0 : τ a0 = some 11) (bl_x0 : 0 ≤ x0.toInt) (hf_1 : fi D 7 5 H (ρ (ρ (ρ a0 2) 4) 6) = 0) : MI l D cI cS τ ρ yX11_sample cX11_sample 3 (some .int) 1 21 H [.ref a0, .int 1, .int x0] (fun (r : Int32) (u : Heap) => H = u ∧ (-4) = r) (fun q => False) := by
  refine MI.of (by decide) (Nat.le_of_ble_eq_true rfl) ?_
  intro p e s m args below meth c E hml hr hlk hs ls hl
  have hx := E.1
  have hb := E.2.1
  have hown := E.2.2.1
  have hts := E.2.2.2.1
  have hS : SS (fun q => False) H H [] := SS.rf
  have hl : lv_has ls 3 [(0, .ref a0), (1, .int 1), (2, .int x0)] := hl
  refine lv_iload_n hx hb dX11_sample_0 rfl (lv_at hl 1 rfl) ?_
  refine th_Si (As := [.int 1]) (rest := []) E hml hl.1 (c_X11_isEnd_v4 l D cI cS τ ρ hW H hT) lk_X11_65 yd_X11_isEnd hS (fun _ h => h.elim) ⟨by decide, by decide⟩ (Nat.le_of_ble_eq_true rfl) ⟨by decide, by decide⟩ rfl dX11_sample_1 (fun r_1 H_1 locs_1 p_1 hT_1 hk_1 hS_1 => ?_)
  have p_1 : H = H_1 ∧ 1 = r_1 := p_1
  obtain ⟨rfl, rfl⟩ := p_1
  refine lv_if_eq (tgt := 11) hx hb dX11_sample_4 (by decide) (fun c_2 => absurd c_2 (by decide)) (fun c_2 => ?_)
  refine lv_iload_n hx hb dX11_sample_7 rfl (lv_at hl 2 rfl) ?_
  refine lv_if_ge (tgt := 13) hx hb dX11_sample_8 (by decide) (fun c_3 => ?_) (fun c_3 => False.elim (by (have : (0 : Int32).toInt = 0 := (by decide); have : ¬ (0 : Int32).toInt ≤ x0.toInt := fun q => c_3 (Int32.le_iff_toInt_le.mpr q); omega)))
  refine lv_aload_n hx hb dX11_sample_13 rfl (lv_at hl 0 rfl) ?_
  refine gf_X11_26 E hT_1 hW ha0 dX11_sample_14 (fun h_4 => ?_)
  refine lv_iload_n hx hb dX11_sample_17 rfl (lv_at hl 1 rfl) ?_
  refine th_Vr (As := [.int 1]) (rest := []) E hml hl.1 (c_X4_endpoint_v2 l D cI cS τ ρ hW H hT_1 (ρ a0 2) h_4) lk_X11_68 yd_X4_endpoint hT_1 h_4 rfl (by decide) hS_1 (fun _ h => h.elim) ⟨by decide, by decide⟩ (Nat.le_of_ble_eq_true rfl) ⟨by decide, by decide⟩ rfl dX11_sample_18 (fun r_5 H_5 locs_5 p_5 hT_5 hk_5 hS_5 => ?_)
  have p_5 : H = H_5 ∧ ρ (ρ a0 2) 4 = r_5 := p_5
  obtain ⟨rfl, rfl⟩ := p_5
  have h_5 : τ (ρ (ρ a0 2) 4) = some 2 := hW _ 4 4 h_4 (by decide) (by decide) (by decide)
  refine gf_X11_208 E hT_5 hW h_5 dX11_sample_21 (fun h_6 => ?_)
  refine lv_iload_n hx hb dX11_sample_24 rfl (lv_at hl 2 rfl) ?_
  refine th_Vi (As := [.int x0]) (rest := []) E hml hl.1 (c_X7_roundTrip l D cI cS τ ρ hW H hT_5 (ρ (ρ (ρ a0 2) 4) 6) x0 h_6 (by (omega)) hf_1) lk_X11_212 yd_X7_roundTrip hT_5 h_6 rfl (by decide) hS_5 (fun _ h => h.elim) ⟨by decide, by decide⟩ (Nat.le_of_ble_eq_true rfl) ⟨by decide, by decide⟩ rfl dX11_sample_25 (fun r_7 H_7 locs_7 p_7 hT_7 hk_7 hS_7 => ?_)
  have p_7 : H = H_7 ∧ (-4) = r_7 := p_7
  obtain ⟨rfl, rfl⟩ := p_7
  exact th_iret E hr hlk hs hT_7 hS_7 ⟨rfl, rfl⟩ dX11_sample_28
set_option maxHeartbeats 4000000 in
set_option maxRecDepth 100000 in
/-- StreamEnds.known -/
theorem c_X11_known_v6 (l : Launch) (D : va_G) (cI cS : ClassId) (τ : Nat → Option Nat) (ρ : Nat → Nat → Nat) (hW : WF τ ρ) (H : Heap) (hT : TH D cI cS τ ρ H) (a0 : Nat) (x0 : Int32) (ha0 : τ a0 = some 11) (bl_x0 : 0 ≤ x0.toInt) (hf_1 : fi D 5 0 H (ρ (ρ (ρ a0 2) 4) 4) = 0) (hf_2 : fi D 5 1 H (ρ (ρ (ρ a0 2) 4) 4) = 0) : MI l D cI cS τ ρ yX11_known cX11_known 3 (some .int) 1 21 H [.ref a0, .int 1, .int x0] (fun (r : Int32) (u : Heap) => H = u ∧ 0 = r) (fun q => False) := by
  refine MI.of (by decide) (Nat.le_of_ble_eq_true rfl) ?_
  intro p e s m args below meth c E hml hr hlk hs ls hl
  have hx := E.1
  have hb := E.2.1
  have hown := E.2.2.1
  have hts := E.2.2.2.1
  have hS : SS (fun q => False) H H [] := SS.rf
  have hl : lv_has ls 3 [(0, .ref a0), (1, .int 1), (2, .int x0)] := hl
  refine lv_iload_n hx hb dX11_known_0 rfl (lv_at hl 1 rfl) ?_
  refine th_Si (As := [.int 1]) (rest := []) E hml hl.1 (c_X11_isEnd_v4 l D cI cS τ ρ hW H hT) lk_X11_65 yd_X11_isEnd hS (fun _ h => h.elim) ⟨by decide, by decide⟩ (Nat.le_of_ble_eq_true rfl) ⟨by decide, by decide⟩ rfl dX11_known_1 (fun r_1 H_1 locs_1 p_1 hT_1 hk_1 hS_1 => ?_)
  have p_1 : H = H_1 ∧ 1 = r_1 := p_1
  obtain ⟨rfl, rfl⟩ := p_1
  refine lv_if_eq (tgt := 11) hx hb dX11_known_4 (by decide) (fun c_2 => absurd c_2 (by decide)) (fun c_2 => ?_)
  refine lv_iload_n hx hb dX11_known_7 rfl (lv_at hl 2 rfl) ?_
  refine lv_if_ge (tgt := 13) hx hb dX11_known_8 (by decide) (fun c_3 => ?_) (fun c_3 => False.elim (by (have : (0 : Int32).toInt = 0 := (by decide); have : ¬ (0 : Int32).toInt ≤ x0.toInt := fun q => c_3 (Int32.le_iff_toInt_le.mpr q); omega)))
  refine lv_aload_n hx hb dX11_known_13 rfl (lv_at hl 0 rfl) ?_
  refine gf_X11_26 E hT_1 hW ha0 dX11_known_14 (fun h_4 => ?_)
  refine lv_iload_n hx hb dX11_known_17 rfl (lv_at hl 1 rfl) ?_
  refine th_Vr (As := [.int 1]) (rest := []) E hml hl.1 (c_X4_endpoint_v2 l D cI cS τ ρ hW H hT_1 (ρ a0 2) h_4) lk_X11_68 yd_X4_endpoint hT_1 h_4 rfl (by decide) hS_1 (fun _ h => h.elim) ⟨by decide, by decide⟩ (Nat.le_of_ble_eq_true rfl) ⟨by decide, by decide⟩ rfl dX11_known_18 (fun r_5 H_5 locs_5 p_5 hT_5 hk_5 hS_5 => ?_)
  have p_5 : H = H_5 ∧ ρ (ρ a0 2) 4 = r_5 := p_5
  obtain ⟨rfl, rfl⟩ := p_5
  have h_5 : τ (ρ (ρ a0 2) 4) = some 2 := hW _ 4 4 h_4 (by decide) (by decide) (by decide)
  refine gf_X11_98 E hT_5 hW h_5 dX11_known_21 (fun h_6 => ?_)
  refine lv_iload_n hx hb dX11_known_24 rfl (lv_at hl 2 rfl) ?_
  refine th_Vi (As := [.int x0]) (rest := []) E hml hl.1 (c_X5_isMarked l D cI cS τ ρ hW H hT_5 (ρ (ρ (ρ a0 2) 4) 4) x0 h_6 (by (omega)) hf_1 hf_2) lk_X11_229 yd_X5_isMarked hT_5 h_6 rfl (by decide) hS_5 (fun _ h => h.elim) ⟨by decide, by decide⟩ (Nat.le_of_ble_eq_true rfl) ⟨by decide, by decide⟩ rfl dX11_known_25 (fun r_7 H_7 locs_7 p_7 hT_7 hk_7 hS_7 => ?_)
  have p_7 : H = H_7 ∧ 0 = r_7 := p_7
  obtain ⟨rfl, rfl⟩ := p_7
  refine lv_if_eq (tgt := 35) hx hb dX11_known_28 (by decide) (fun c_8 => ?_) (fun c_8 => absurd (by decide) c_8)
  refine lv_iconst (v := 0) hx hb dX11_known_35 (by decide) ?_
  exact th_iret E hr hlk hs hT_7 hS_7 ⟨rfl, rfl⟩ dX11_known_36
set_option maxHeartbeats 4000000 in
set_option maxRecDepth 100000 in
/-- StreamEnds.span -/
theorem c_X11_span_v10 (l : Launch) (D : va_G) (cI cS : ClassId) (τ : Nat → Option Nat) (ρ : Nat → Nat → Nat) (hW : WF τ ρ) (H : Heap) (hT : TH D cI cS τ ρ H) (a0 : Nat) (x0 : Int32) (x1 : Int32) (ha0 : τ a0 = some 11) (bh_x0 : x0.toInt ≤ -2) : MI l D cI cS τ ρ yX11_span cX11_span 8 (some .int) 1 20 H [.ref a0, .int 1, .int x0, .int x1] (fun (r : Int32) (u : Heap) => H = u ∧ (-1) = r) (fun q => False) := by
  refine MI.of (by decide) (Nat.le_of_ble_eq_true rfl) ?_
  intro p e s m args below meth c E hml hr hlk hs ls hl
  have hx := E.1
  have hb := E.2.1
  have hown := E.2.2.1
  have hts := E.2.2.2.1
  have hS : SS (fun q => False) H H [] := SS.rf
  have hl : lv_has ls 8 [(0, .ref a0), (1, .int 1), (2, .int x0), (3, .int x1)] := hl
  refine lv_iload_n hx hb dX11_span_0 rfl (lv_at hl 1 rfl) ?_
  refine th_Si (As := [.int 1]) (rest := []) E hml hl.1 (c_X11_isEnd_v4 l D cI cS τ ρ hW H hT) lk_X11_65 yd_X11_isEnd hS (fun _ h => h.elim) ⟨by decide, by decide⟩ (Nat.le_of_ble_eq_true rfl) ⟨by decide, by decide⟩ rfl dX11_span_1 (fun r_1 H_1 locs_1 p_1 hT_1 hk_1 hS_1 => ?_)
  have p_1 : H = H_1 ∧ 1 = r_1 := p_1
  obtain ⟨rfl, rfl⟩ := p_1
  refine lv_if_eq (tgt := 21) hx hb dX11_span_4 (by decide) (fun c_2 => absurd c_2 (by decide)) (fun c_2 => ?_)
  refine lv_iload_n hx hb dX11_span_7 rfl (lv_at hl 2 rfl) ?_
  refine lv_iconst (v := (-1)) hx hb dX11_span_8 (by decide) ?_
  refine lv_icmp_lt (tgt := 21) hx hb dX11_span_9 (by decide) (fun c_3 => ?_) (fun c_3 => False.elim (by (have : ((-1) : Int32).toInt = -1 := (by decide); have : ¬ x0.toInt < ((-1) : Int32).toInt := fun q => c_3 (Int32.lt_iff_toInt_lt.mpr q); omega)))
  refine lv_iconst (v := (-1)) hx hb dX11_span_21 (by decide) ?_
  exact th_iret E hr hlk hs hT_1 hS_1 ⟨rfl, rfl⟩ dX11_span_22
set_option maxHeartbeats 4000000 in
set_option maxRecDepth 100000 in
/-- StreamEnds.span -/
theorem c_X11_span_v11 (l : Launch) (D : va_G) (cI cS : ClassId) (τ : Nat → Option Nat) (ρ : Nat → Nat → Nat) (hW : WF τ ρ) (H : Heap) (hT : TH D cI cS τ ρ H) (a0 : Nat) (x0 : Int32) (ha0 : τ a0 = some 11) (bh_x0 : x0.toInt ≤ -1) : MI l D cI cS τ ρ yX11_span cX11_span 8 (some .int) 1 20 H [.ref a0, .int 1, .int (-1), .int x0] (fun (r : Int32) (u : Heap) => H = u ∧ (-1) = r) (fun q => False) := by
  refine MI.of (by decide) (Nat.le_of_ble_eq_true rfl) ?_
  intro p e s m args below meth c E hml hr hlk hs ls hl
  have hx := E.1
  have hb := E.2.1
  have hown := E.2.2.1
  have hts := E.2.2.2.1
  have hS : SS (fun q => False) H H [] := SS.rf
  have hl : lv_has ls 8 [(0, .ref a0), (1, .int 1), (2, .int (-1)), (3, .int x0)] := hl
  refine lv_iload_n hx hb dX11_span_0 rfl (lv_at hl 1 rfl) ?_
  refine th_Si (As := [.int 1]) (rest := []) E hml hl.1 (c_X11_isEnd_v4 l D cI cS τ ρ hW H hT) lk_X11_65 yd_X11_isEnd hS (fun _ h => h.elim) ⟨by decide, by decide⟩ (Nat.le_of_ble_eq_true rfl) ⟨by decide, by decide⟩ rfl dX11_span_1 (fun r_1 H_1 locs_1 p_1 hT_1 hk_1 hS_1 => ?_)
  have p_1 : H = H_1 ∧ 1 = r_1 := p_1
  obtain ⟨rfl, rfl⟩ := p_1
  refine lv_if_eq (tgt := 21) hx hb dX11_span_4 (by decide) (fun c_2 => absurd c_2 (by decide)) (fun c_2 => ?_)
  refine lv_iload_n hx hb dX11_span_7 rfl (lv_at hl 2 rfl) ?_
  refine lv_iconst (v := (-1)) hx hb dX11_span_8 (by decide) ?_
  refine lv_icmp_lt (tgt := 21) hx hb dX11_span_9 (by decide) (fun c_3 => absurd c_3 (by decide)) (fun c_3 => ?_)
  refine lv_iload_n hx hb dX11_span_12 rfl (lv_at hl 3 rfl) ?_
  refine lv_if_lt (tgt := 21) hx hb dX11_span_13 (by decide) (fun c_4 => ?_) (fun c_4 => False.elim (by (have : (0 : Int32).toInt = 0 := (by decide); have : ¬ x0.toInt < (0 : Int32).toInt := fun q => c_4 (Int32.lt_iff_toInt_lt.mpr q); omega)))
  refine lv_iconst (v := (-1)) hx hb dX11_span_21 (by decide) ?_
  exact th_iret E hr hlk hs hT_1 hS_1 ⟨rfl, rfl⟩ dX11_span_22
set_option maxHeartbeats 4000000 in
set_option maxRecDepth 100000 in
/-- StreamEnds.span -/
theorem c_X11_span_v12 (l : Launch) (D : va_G) (cI cS : ClassId) (τ : Nat → Option Nat) (ρ : Nat → Nat → Nat) (hW : WF τ ρ) (H : Heap) (hT : TH D cI cS τ ρ H) (a0 : Nat) (x0 : Int32) (ha0 : τ a0 = some 11) (bl_x0 : 0 ≤ x0.toInt) (bh_x0 : x0.toInt ≤ 1) (hf_1 : fi D 3 0 H (ρ (ρ (ρ a0 2) 4) 5) = 0) (hf_2 : fi D 3 2 H (ρ (ρ (ρ a0 2) 4) 5) = 13) (hf_3 : fl D 3 5 H (ρ (ρ (ρ a0 2) 4) 5) = 0) : MI l D cI cS τ ρ yX11_span cX11_span 8 (some .int) 1 22 H [.ref a0, .int 1, .int (-1), .int x0] (fun (r : Int32) (u : Heap) => H = u ∧ 0 = r) (fun q => False) := by
  refine MI.of (by decide) (Nat.le_of_ble_eq_true rfl) ?_
  intro p e s m args below meth c E hml hr hlk hs ls hl
  have hx := E.1
  have hb := E.2.1
  have hown := E.2.2.1
  have hts := E.2.2.2.1
  have hS : SS (fun q => False) H H [] := SS.rf
  have hl : lv_has ls 8 [(0, .ref a0), (1, .int 1), (2, .int (-1)), (3, .int x0)] := hl
  refine lv_iload_n hx hb dX11_span_0 rfl (lv_at hl 1 rfl) ?_
  refine th_Si (As := [.int 1]) (rest := []) E hml hl.1 (c_X11_isEnd_v4 l D cI cS τ ρ hW H hT) lk_X11_65 yd_X11_isEnd hS (fun _ h => h.elim) ⟨by decide, by decide⟩ (Nat.le_of_ble_eq_true rfl) ⟨by decide, by decide⟩ rfl dX11_span_1 (fun r_1 H_1 locs_1 p_1 hT_1 hk_1 hS_1 => ?_)
  have p_1 : H = H_1 ∧ 1 = r_1 := p_1
  obtain ⟨rfl, rfl⟩ := p_1
  refine lv_if_eq (tgt := 21) hx hb dX11_span_4 (by decide) (fun c_2 => absurd c_2 (by decide)) (fun c_2 => ?_)
  refine lv_iload_n hx hb dX11_span_7 rfl (lv_at hl 2 rfl) ?_
  refine lv_iconst (v := (-1)) hx hb dX11_span_8 (by decide) ?_
  refine lv_icmp_lt (tgt := 21) hx hb dX11_span_9 (by decide) (fun c_3 => absurd c_3 (by decide)) (fun c_3 => ?_)
  refine lv_iload_n hx hb dX11_span_12 rfl (lv_at hl 3 rfl) ?_
  refine lv_if_lt (tgt := 21) hx hb dX11_span_13 (by decide) (fun c_4 => False.elim (by (have : (0 : Int32).toInt = 0 := (by decide); have : x0.toInt < (0 : Int32).toInt := Int32.lt_iff_toInt_lt.mp c_4; omega))) (fun c_4 => ?_)
  refine lv_iload_n hx hb dX11_span_16 rfl (lv_at hl 3 rfl) ?_
  refine lv_iconst (v := 1) hx hb dX11_span_17 (by decide) ?_
  refine lv_icmp_le (tgt := 23) hx hb dX11_span_18 (by decide) (fun c_5 => ?_) (fun c_5 => False.elim (by (have : (1 : Int32).toInt = 1 := (by decide); have : ¬ x0.toInt ≤ (1 : Int32).toInt := fun q => c_5 (Int32.le_iff_toInt_le.mpr q); omega)))
  refine lv_aload_n hx hb dX11_span_23 rfl (lv_at hl 0 rfl) ?_
  refine gf_X11_26 E hT_1 hW ha0 dX11_span_24 (fun h_6 => ?_)
  refine lv_iload_n hx hb dX11_span_27 rfl (lv_at hl 1 rfl) ?_
  refine th_Vr (As := [.int 1]) (rest := []) E hml hl.1 (c_X4_endpoint_v2 l D cI cS τ ρ hW H hT_1 (ρ a0 2) h_6) lk_X11_68 yd_X4_endpoint hT_1 h_6 rfl (by decide) hS_1 (fun _ h => h.elim) ⟨by decide, by decide⟩ (Nat.le_of_ble_eq_true rfl) ⟨by decide, by decide⟩ rfl dX11_span_28 (fun r_7 H_7 locs_7 p_7 hT_7 hk_7 hS_7 => ?_)
  have p_7 : H = H_7 ∧ ρ (ρ a0 2) 4 = r_7 := p_7
  obtain ⟨rfl, rfl⟩ := p_7
  have h_7 : τ (ρ (ρ a0 2) 4) = some 2 := hW _ 4 4 h_6 (by decide) (by decide) (by decide)
  refine gf_X11_143 E hT_7 hW h_7 dX11_span_31 (fun h_8 => ?_)
  refine lv_astore (lv' := [(4, .ref (ρ (ρ (ρ a0 2) 4) 5)), (0, .ref a0), (1, .int 1), (2, .int (-1)), (3, .int x0)]) hx hb dX11_span_34 hl (by decide) rfl (fun ls hl => ?_)
  refine lv_iconst (v := 0) hx hb dX11_span_36 (by decide) ?_
  refine lv_istore (lv' := [(5, .int 0), (4, .ref (ρ (ρ (ρ a0 2) 4) 5)), (0, .ref a0), (1, .int 1), (2, .int (-1)), (3, .int x0)]) hx hb dX11_span_37 hl (by decide) rfl (fun ls hl => ?_)
  refine lv_aload hx hb dX11_span_39 (lv_at hl 1 rfl) ?_
  refine lv_aload hx hb dX11_span_41 (lv_at hl 1 rfl) ?_
  refine gf_X11_217 E hT_7 h_8 dX11_span_43 ?_
  refine th_topi (y := 0) hf_1 ?_
  refine lv_iconst (v := 1) hx hb dX11_span_46 (by decide) ?_
  refine lv_iadd hx hb dX11_span_47 ?_
  refine th_topi (y := 1) (by decide) ?_
  refine th_Vi (As := [.int 1]) (rest := []) E hml hl.1 (c_X3_nextHeld l D cI cS τ ρ hW H hT_7 (ρ (ρ (ρ a0 2) 4) 5) h_8 hf_2 hf_3) lk_X11_220 yd_X3_nextHeld hT_7 h_8 rfl (by decide) hS_7 (fun _ h => h.elim) ⟨by decide, by decide⟩ (Nat.le_of_ble_eq_true rfl) ⟨by decide, by decide⟩ rfl dX11_span_48 (fun r_9 H_9 locs_9 p_9 hT_9 hk_9 hS_9 => ?_)
  have p_9 : H = H_9 ∧ 13 = r_9 := p_9
  obtain ⟨rfl, rfl⟩ := p_9
  refine lv_istore (lv' := [(6, .int 13), (5, .int 0), (4, .ref (ρ (ρ (ρ a0 2) 4) 5)), (0, .ref a0), (1, .int 1), (2, .int (-1)), (3, .int x0)]) hx hb dX11_span_51 hl (by decide) rfl (fun ls hl => ?_)
  refine lv_iload hx hb dX11_span_53 (lv_at hl 0 rfl) ?_
  refine lv_aload hx hb dX11_span_55 (lv_at hl 2 rfl) ?_
  refine gf_X11_223 E hT_9 h_8 dX11_span_57 ?_
  refine th_topi (y := 13) hf_2 ?_
  refine lv_icmp_ge (tgt := 112) hx hb dX11_span_60 (by decide) (fun c_10 => ?_) (fun c_10 => absurd (by decide) c_10)
  refine lv_iload_n hx hb dX11_span_112 rfl (lv_at hl 5 rfl) ?_
  refine lv_iconst (v := (-1)) hx hb dX11_span_113 (by decide) ?_
  refine lv_icmp_ne (tgt := 122) hx hb dX11_span_114 (by decide) (fun c_11 => absurd (by decide) c_11) (fun c_11 => ?_)
  refine lv_iload hx hb dX11_span_117 (lv_at hl 1 rfl) ?_
  refine lv_goto (tgt := 124) hx hb dX11_span_119 (by decide) ?_
  exact th_iret E hr hlk hs hT_9 hS_9 ⟨rfl, rfl⟩ dX11_span_124
set_option maxHeartbeats 4000000 in
set_option maxRecDepth 100000 in
/-- StreamEnds.span -/
theorem c_X11_span_v13 (l : Launch) (D : va_G) (cI cS : ClassId) (τ : Nat → Option Nat) (ρ : Nat → Nat → Nat) (hW : WF τ ρ) (H : Heap) (hT : TH D cI cS τ ρ H) (a0 : Nat) (x0 : Int32) (ha0 : τ a0 = some 11) (bl_x0 : 2 ≤ x0.toInt) : MI l D cI cS τ ρ yX11_span cX11_span 8 (some .int) 1 20 H [.ref a0, .int 1, .int (-1), .int x0] (fun (r : Int32) (u : Heap) => H = u ∧ (-1) = r) (fun q => False) := by
  refine MI.of (by decide) (Nat.le_of_ble_eq_true rfl) ?_
  intro p e s m args below meth c E hml hr hlk hs ls hl
  have hx := E.1
  have hb := E.2.1
  have hown := E.2.2.1
  have hts := E.2.2.2.1
  have hS : SS (fun q => False) H H [] := SS.rf
  have hl : lv_has ls 8 [(0, .ref a0), (1, .int 1), (2, .int (-1)), (3, .int x0)] := hl
  refine lv_iload_n hx hb dX11_span_0 rfl (lv_at hl 1 rfl) ?_
  refine th_Si (As := [.int 1]) (rest := []) E hml hl.1 (c_X11_isEnd_v4 l D cI cS τ ρ hW H hT) lk_X11_65 yd_X11_isEnd hS (fun _ h => h.elim) ⟨by decide, by decide⟩ (Nat.le_of_ble_eq_true rfl) ⟨by decide, by decide⟩ rfl dX11_span_1 (fun r_1 H_1 locs_1 p_1 hT_1 hk_1 hS_1 => ?_)
  have p_1 : H = H_1 ∧ 1 = r_1 := p_1
  obtain ⟨rfl, rfl⟩ := p_1
  refine lv_if_eq (tgt := 21) hx hb dX11_span_4 (by decide) (fun c_2 => absurd c_2 (by decide)) (fun c_2 => ?_)
  refine lv_iload_n hx hb dX11_span_7 rfl (lv_at hl 2 rfl) ?_
  refine lv_iconst (v := (-1)) hx hb dX11_span_8 (by decide) ?_
  refine lv_icmp_lt (tgt := 21) hx hb dX11_span_9 (by decide) (fun c_3 => absurd c_3 (by decide)) (fun c_3 => ?_)
  refine lv_iload_n hx hb dX11_span_12 rfl (lv_at hl 3 rfl) ?_
  refine lv_if_lt (tgt := 21) hx hb dX11_span_13 (by decide) (fun c_4 => False.elim (by (have : (0 : Int32).toInt = 0 := (by decide); have : x0.toInt < (0 : Int32).toInt := Int32.lt_iff_toInt_lt.mp c_4; omega))) (fun c_4 => ?_)
  refine lv_iload_n hx hb dX11_span_16 rfl (lv_at hl 3 rfl) ?_
  refine lv_iconst (v := 1) hx hb dX11_span_17 (by decide) ?_
  refine lv_icmp_le (tgt := 23) hx hb dX11_span_18 (by decide) (fun c_5 => False.elim (by (have : (1 : Int32).toInt = 1 := (by decide); have : x0.toInt ≤ (1 : Int32).toInt := Int32.le_iff_toInt_le.mp c_5; omega))) (fun c_5 => ?_)
  refine lv_iconst (v := (-1)) hx hb dX11_span_21 (by decide) ?_
  exact th_iret E hr hlk hs hT_1 hS_1 ⟨rfl, rfl⟩ dX11_span_22
set_option maxHeartbeats 4000000 in
set_option maxRecDepth 100000 in
/-- StreamEnds.span -/
theorem c_X11_span_v14 (l : Launch) (D : va_G) (cI cS : ClassId) (τ : Nat → Option Nat) (ρ : Nat → Nat → Nat) (hW : WF τ ρ) (H : Heap) (hT : TH D cI cS τ ρ H) (a0 : Nat) (x0 : Int32) (x1 : Int32) (ha0 : τ a0 = some 11) (bl_x0 : 0 ≤ x0.toInt) (bh_x1 : x1.toInt ≤ -1) : MI l D cI cS τ ρ yX11_span cX11_span 8 (some .int) 1 20 H [.ref a0, .int 1, .int x0, .int x1] (fun (r : Int32) (u : Heap) => H = u ∧ (-1) = r) (fun q => False) := by
  refine MI.of (by decide) (Nat.le_of_ble_eq_true rfl) ?_
  intro p e s m args below meth c E hml hr hlk hs ls hl
  have hx := E.1
  have hb := E.2.1
  have hown := E.2.2.1
  have hts := E.2.2.2.1
  have hS : SS (fun q => False) H H [] := SS.rf
  have hl : lv_has ls 8 [(0, .ref a0), (1, .int 1), (2, .int x0), (3, .int x1)] := hl
  refine lv_iload_n hx hb dX11_span_0 rfl (lv_at hl 1 rfl) ?_
  refine th_Si (As := [.int 1]) (rest := []) E hml hl.1 (c_X11_isEnd_v4 l D cI cS τ ρ hW H hT) lk_X11_65 yd_X11_isEnd hS (fun _ h => h.elim) ⟨by decide, by decide⟩ (Nat.le_of_ble_eq_true rfl) ⟨by decide, by decide⟩ rfl dX11_span_1 (fun r_1 H_1 locs_1 p_1 hT_1 hk_1 hS_1 => ?_)
  have p_1 : H = H_1 ∧ 1 = r_1 := p_1
  obtain ⟨rfl, rfl⟩ := p_1
  refine lv_if_eq (tgt := 21) hx hb dX11_span_4 (by decide) (fun c_2 => absurd c_2 (by decide)) (fun c_2 => ?_)
  refine lv_iload_n hx hb dX11_span_7 rfl (lv_at hl 2 rfl) ?_
  refine lv_iconst (v := (-1)) hx hb dX11_span_8 (by decide) ?_
  refine lv_icmp_lt (tgt := 21) hx hb dX11_span_9 (by decide) (fun c_3 => False.elim (by (have : ((-1) : Int32).toInt = -1 := (by decide); have : x0.toInt < ((-1) : Int32).toInt := Int32.lt_iff_toInt_lt.mp c_3; omega))) (fun c_3 => ?_)
  refine lv_iload_n hx hb dX11_span_12 rfl (lv_at hl 3 rfl) ?_
  refine lv_if_lt (tgt := 21) hx hb dX11_span_13 (by decide) (fun c_4 => ?_) (fun c_4 => False.elim (by (have : (0 : Int32).toInt = 0 := (by decide); have : ¬ x1.toInt < (0 : Int32).toInt := fun q => c_4 (Int32.lt_iff_toInt_lt.mpr q); omega)))
  refine lv_iconst (v := (-1)) hx hb dX11_span_21 (by decide) ?_
  exact th_iret E hr hlk hs hT_1 hS_1 ⟨rfl, rfl⟩ dX11_span_22
set_option maxHeartbeats 4000000 in
set_option maxRecDepth 100000 in
/-- StreamEnds.span -/
theorem c_X11_span_v15 (l : Launch) (D : va_G) (cI cS : ClassId) (τ : Nat → Option Nat) (ρ : Nat → Nat → Nat) (hW : WF τ ρ) (H : Heap) (hT : TH D cI cS τ ρ H) (a0 : Nat) (x0 : Int32) (x1 : Int32) (ha0 : τ a0 = some 11) (bl_x0 : 0 ≤ x0.toInt) (bl_x1 : 0 ≤ x1.toInt) (bh_x1 : x1.toInt ≤ 1) (hf_1 : fi D 3 0 H (ρ (ρ (ρ a0 2) 4) 5) = 0) (hf_2 : fi D 3 2 H (ρ (ρ (ρ a0 2) 4) 5) = 13) (hf_3 : fl D 3 5 H (ρ (ρ (ρ a0 2) 4) 5) = 0) : MI l D cI cS τ ρ yX11_span cX11_span 8 (some .int) 1 22 H [.ref a0, .int 1, .int x0, .int x1] (fun (r : Int32) (u : Heap) => H = u ∧ (-4) = r) (fun q => False) := by
  refine MI.of (by decide) (Nat.le_of_ble_eq_true rfl) ?_
  intro p e s m args below meth c E hml hr hlk hs ls hl
  have hx := E.1
  have hb := E.2.1
  have hown := E.2.2.1
  have hts := E.2.2.2.1
  have hS : SS (fun q => False) H H [] := SS.rf
  have hl : lv_has ls 8 [(0, .ref a0), (1, .int 1), (2, .int x0), (3, .int x1)] := hl
  refine lv_iload_n hx hb dX11_span_0 rfl (lv_at hl 1 rfl) ?_
  refine th_Si (As := [.int 1]) (rest := []) E hml hl.1 (c_X11_isEnd_v4 l D cI cS τ ρ hW H hT) lk_X11_65 yd_X11_isEnd hS (fun _ h => h.elim) ⟨by decide, by decide⟩ (Nat.le_of_ble_eq_true rfl) ⟨by decide, by decide⟩ rfl dX11_span_1 (fun r_1 H_1 locs_1 p_1 hT_1 hk_1 hS_1 => ?_)
  have p_1 : H = H_1 ∧ 1 = r_1 := p_1
  obtain ⟨rfl, rfl⟩ := p_1
  refine lv_if_eq (tgt := 21) hx hb dX11_span_4 (by decide) (fun c_2 => absurd c_2 (by decide)) (fun c_2 => ?_)
  refine lv_iload_n hx hb dX11_span_7 rfl (lv_at hl 2 rfl) ?_
  refine lv_iconst (v := (-1)) hx hb dX11_span_8 (by decide) ?_
  refine lv_icmp_lt (tgt := 21) hx hb dX11_span_9 (by decide) (fun c_3 => False.elim (by (have : ((-1) : Int32).toInt = -1 := (by decide); have : x0.toInt < ((-1) : Int32).toInt := Int32.lt_iff_toInt_lt.mp c_3; omega))) (fun c_3 => ?_)
  refine lv_iload_n hx hb dX11_span_12 rfl (lv_at hl 3 rfl) ?_
  refine lv_if_lt (tgt := 21) hx hb dX11_span_13 (by decide) (fun c_4 => False.elim (by (have : (0 : Int32).toInt = 0 := (by decide); have : x1.toInt < (0 : Int32).toInt := Int32.lt_iff_toInt_lt.mp c_4; omega))) (fun c_4 => ?_)
  refine lv_iload_n hx hb dX11_span_16 rfl (lv_at hl 3 rfl) ?_
  refine lv_iconst (v := 1) hx hb dX11_span_17 (by decide) ?_
  refine lv_icmp_le (tgt := 23) hx hb dX11_span_18 (by decide) (fun c_5 => ?_) (fun c_5 => False.elim (by (have : (1 : Int32).toInt = 1 := (by decide); have : ¬ x1.toInt ≤ (1 : Int32).toInt := fun q => c_5 (Int32.le_iff_toInt_le.mpr q); omega)))
  refine lv_aload_n hx hb dX11_span_23 rfl (lv_at hl 0 rfl) ?_
  refine gf_X11_26 E hT_1 hW ha0 dX11_span_24 (fun h_6 => ?_)
  refine lv_iload_n hx hb dX11_span_27 rfl (lv_at hl 1 rfl) ?_
  refine th_Vr (As := [.int 1]) (rest := []) E hml hl.1 (c_X4_endpoint_v2 l D cI cS τ ρ hW H hT_1 (ρ a0 2) h_6) lk_X11_68 yd_X4_endpoint hT_1 h_6 rfl (by decide) hS_1 (fun _ h => h.elim) ⟨by decide, by decide⟩ (Nat.le_of_ble_eq_true rfl) ⟨by decide, by decide⟩ rfl dX11_span_28 (fun r_7 H_7 locs_7 p_7 hT_7 hk_7 hS_7 => ?_)
  have p_7 : H = H_7 ∧ ρ (ρ a0 2) 4 = r_7 := p_7
  obtain ⟨rfl, rfl⟩ := p_7
  have h_7 : τ (ρ (ρ a0 2) 4) = some 2 := hW _ 4 4 h_6 (by decide) (by decide) (by decide)
  refine gf_X11_143 E hT_7 hW h_7 dX11_span_31 (fun h_8 => ?_)
  refine lv_astore (lv' := [(4, .ref (ρ (ρ (ρ a0 2) 4) 5)), (0, .ref a0), (1, .int 1), (2, .int x0), (3, .int x1)]) hx hb dX11_span_34 hl (by decide) rfl (fun ls hl => ?_)
  refine lv_iconst (v := 0) hx hb dX11_span_36 (by decide) ?_
  refine lv_istore (lv' := [(5, .int 0), (4, .ref (ρ (ρ (ρ a0 2) 4) 5)), (0, .ref a0), (1, .int 1), (2, .int x0), (3, .int x1)]) hx hb dX11_span_37 hl (by decide) rfl (fun ls hl => ?_)
  refine lv_aload hx hb dX11_span_39 (lv_at hl 1 rfl) ?_
  refine lv_aload hx hb dX11_span_41 (lv_at hl 1 rfl) ?_
  refine gf_X11_217 E hT_7 h_8 dX11_span_43 ?_
  refine th_topi (y := 0) hf_1 ?_
  refine lv_iconst (v := 1) hx hb dX11_span_46 (by decide) ?_
  refine lv_iadd hx hb dX11_span_47 ?_
  refine th_topi (y := 1) (by decide) ?_
  refine th_Vi (As := [.int 1]) (rest := []) E hml hl.1 (c_X3_nextHeld l D cI cS τ ρ hW H hT_7 (ρ (ρ (ρ a0 2) 4) 5) h_8 hf_2 hf_3) lk_X11_220 yd_X3_nextHeld hT_7 h_8 rfl (by decide) hS_7 (fun _ h => h.elim) ⟨by decide, by decide⟩ (Nat.le_of_ble_eq_true rfl) ⟨by decide, by decide⟩ rfl dX11_span_48 (fun r_9 H_9 locs_9 p_9 hT_9 hk_9 hS_9 => ?_)
  have p_9 : H = H_9 ∧ 13 = r_9 := p_9
  obtain ⟨rfl, rfl⟩ := p_9
  refine lv_istore (lv' := [(6, .int 13), (5, .int 0), (4, .ref (ρ (ρ (ρ a0 2) 4) 5)), (0, .ref a0), (1, .int 1), (2, .int x0), (3, .int x1)]) hx hb dX11_span_51 hl (by decide) rfl (fun ls hl => ?_)
  refine lv_iload hx hb dX11_span_53 (lv_at hl 0 rfl) ?_
  refine lv_aload hx hb dX11_span_55 (lv_at hl 2 rfl) ?_
  refine gf_X11_223 E hT_9 h_8 dX11_span_57 ?_
  refine th_topi (y := 13) hf_2 ?_
  refine lv_icmp_ge (tgt := 112) hx hb dX11_span_60 (by decide) (fun c_10 => ?_) (fun c_10 => absurd (by decide) c_10)
  refine lv_iload_n hx hb dX11_span_112 rfl (lv_at hl 5 rfl) ?_
  refine lv_iconst (v := (-1)) hx hb dX11_span_113 (by decide) ?_
  refine lv_icmp_ne (tgt := 122) hx hb dX11_span_114 (by decide) (fun c_11 => ?_) (fun c_11 => False.elim (by (have : ((-1) : Int32).toInt = -1 := (by decide); have := congrArg Int32.toInt c_11; omega)))
  refine lv_bipush (v := (-4)) hx hb dX11_span_122 (by decide) ?_
  exact th_iret E hr hlk hs hT_9 hS_9 ⟨rfl, rfl⟩ dX11_span_124
set_option maxHeartbeats 4000000 in
set_option maxRecDepth 100000 in
/-- StreamEnds.span -/
theorem c_X11_span_v16 (l : Launch) (D : va_G) (cI cS : ClassId) (τ : Nat → Option Nat) (ρ : Nat → Nat → Nat) (hW : WF τ ρ) (H : Heap) (hT : TH D cI cS τ ρ H) (a0 : Nat) (x0 : Int32) (x1 : Int32) (ha0 : τ a0 = some 11) (bl_x0 : 0 ≤ x0.toInt) (bl_x1 : 2 ≤ x1.toInt) : MI l D cI cS τ ρ yX11_span cX11_span 8 (some .int) 1 20 H [.ref a0, .int 1, .int x0, .int x1] (fun (r : Int32) (u : Heap) => H = u ∧ (-1) = r) (fun q => False) := by
  refine MI.of (by decide) (Nat.le_of_ble_eq_true rfl) ?_
  intro p e s m args below meth c E hml hr hlk hs ls hl
  have hx := E.1
  have hb := E.2.1
  have hown := E.2.2.1
  have hts := E.2.2.2.1
  have hS : SS (fun q => False) H H [] := SS.rf
  have hl : lv_has ls 8 [(0, .ref a0), (1, .int 1), (2, .int x0), (3, .int x1)] := hl
  refine lv_iload_n hx hb dX11_span_0 rfl (lv_at hl 1 rfl) ?_
  refine th_Si (As := [.int 1]) (rest := []) E hml hl.1 (c_X11_isEnd_v4 l D cI cS τ ρ hW H hT) lk_X11_65 yd_X11_isEnd hS (fun _ h => h.elim) ⟨by decide, by decide⟩ (Nat.le_of_ble_eq_true rfl) ⟨by decide, by decide⟩ rfl dX11_span_1 (fun r_1 H_1 locs_1 p_1 hT_1 hk_1 hS_1 => ?_)
  have p_1 : H = H_1 ∧ 1 = r_1 := p_1
  obtain ⟨rfl, rfl⟩ := p_1
  refine lv_if_eq (tgt := 21) hx hb dX11_span_4 (by decide) (fun c_2 => absurd c_2 (by decide)) (fun c_2 => ?_)
  refine lv_iload_n hx hb dX11_span_7 rfl (lv_at hl 2 rfl) ?_
  refine lv_iconst (v := (-1)) hx hb dX11_span_8 (by decide) ?_
  refine lv_icmp_lt (tgt := 21) hx hb dX11_span_9 (by decide) (fun c_3 => False.elim (by (have : ((-1) : Int32).toInt = -1 := (by decide); have : x0.toInt < ((-1) : Int32).toInt := Int32.lt_iff_toInt_lt.mp c_3; omega))) (fun c_3 => ?_)
  refine lv_iload_n hx hb dX11_span_12 rfl (lv_at hl 3 rfl) ?_
  refine lv_if_lt (tgt := 21) hx hb dX11_span_13 (by decide) (fun c_4 => False.elim (by (have : (0 : Int32).toInt = 0 := (by decide); have : x1.toInt < (0 : Int32).toInt := Int32.lt_iff_toInt_lt.mp c_4; omega))) (fun c_4 => ?_)
  refine lv_iload_n hx hb dX11_span_16 rfl (lv_at hl 3 rfl) ?_
  refine lv_iconst (v := 1) hx hb dX11_span_17 (by decide) ?_
  refine lv_icmp_le (tgt := 23) hx hb dX11_span_18 (by decide) (fun c_5 => False.elim (by (have : (1 : Int32).toInt = 1 := (by decide); have : x1.toInt ≤ (1 : Int32).toInt := Int32.le_iff_toInt_le.mp c_5; omega))) (fun c_5 => ?_)
  refine lv_iconst (v := (-1)) hx hb dX11_span_21 (by decide) ?_
  exact th_iret E hr hlk hs hT_1 hS_1 ⟨rfl, rfl⟩ dX11_span_22
set_option maxHeartbeats 4000000 in
set_option maxRecDepth 100000 in
/-- StreamEnds$Wire.has -/
theorem c_X10_has (l : Launch) (D : va_G) (cI cS : ClassId) (τ : Nat → Option Nat) (ρ : Nat → Nat → Nat) (hW : WF τ ρ) (H : Heap) (hT : TH D cI cS τ ρ H) (a0 : Nat) (x0 : Int32) (ha0 : τ a0 = some 10) (bh_x0 : x0.toInt ≤ -1) : MI l D cI cS τ ρ yX10_has cX10_has 2 (some .boolean) 0 0 H [.ref a0, .int x0] (fun (r : Int32) (u : Heap) => H = u ∧ 0 = r) (fun q => False) := by
  refine MI.of (by decide) (Nat.le_of_ble_eq_true rfl) ?_
  intro p e s m args below meth c E hml hr hlk hs ls hl
  have hx := E.1
  have hb := E.2.1
  have hown := E.2.2.1
  have hts := E.2.2.2.1
  have hS : SS (fun q => False) H H [] := SS.rf
  have hl : lv_has ls 2 [(0, .ref a0), (1, .int x0)] := hl
  refine lv_iload_n hx hb dX10_has_0 rfl (lv_at hl 1 rfl) ?_
  refine lv_if_lt (tgt := 22) hx hb dX10_has_1 (by decide) (fun c_1 => ?_) (fun c_1 => False.elim (by (have : (0 : Int32).toInt = 0 := (by decide); have : ¬ x0.toInt < (0 : Int32).toInt := fun q => c_1 (Int32.lt_iff_toInt_lt.mpr q); omega)))
  refine lv_iconst (v := 0) hx hb dX10_has_22 (by decide) ?_
  exact th_zret E hr hlk hs (Or.inl rfl) hT hS ⟨rfl, rfl⟩ dX10_has_23
set_option maxHeartbeats 4000000 in
set_option maxRecDepth 100000 in
/-- StreamEnds.arrive -/
theorem c_X11_arrive (l : Launch) (D : va_G) (cI cS : ClassId) (τ : Nat → Option Nat) (ρ : Nat → Nat → Nat) (hW : WF τ ρ) (H : Heap) (hT : TH D cI cS τ ρ H) (a0 : Nat) (x0 : Int32) (ha0 : τ a0 = some 11) (bh_x0 : x0.toInt ≤ -1) : MI l D cI cS τ ρ yX11_arrive cX11_arrive 2 (some .int) 1 21 H [.ref a0, .int x0] (fun (r : Int32) (u : Heap) => H = u ∧ (-1) = r) (fun q => False) := by
  refine MI.of (by decide) (Nat.le_of_ble_eq_true rfl) ?_
  intro p e s m args below meth c E hml hr hlk hs ls hl
  have hx := E.1
  have hb := E.2.1
  have hown := E.2.2.1
  have hts := E.2.2.2.1
  have hS : SS (fun q => False) H H [] := SS.rf
  have hl : lv_has ls 2 [(0, .ref a0), (1, .int x0)] := hl
  refine lv_aload_n hx hb dX11_arrive_0 rfl (lv_at hl 0 rfl) ?_
  refine gf_X11_26 E hT hW ha0 dX11_arrive_1 (fun h_1 => ?_)
  refine gf_X11_86 E hT hW h_1 dX11_arrive_4 (fun h_2 => ?_)
  refine lv_iload_n hx hb dX11_arrive_7 rfl (lv_at hl 1 rfl) ?_
  refine th_Vi (As := [.int x0]) (rest := []) E hml hl.1 (c_X10_has l D cI cS τ ρ hW H hT (ρ (ρ a0 2) 1) x0 h_2 (by (omega))) lk_X11_158 yd_X10_has hT h_2 rfl (by decide) hS (fun _ h => h.elim) ⟨by decide, by decide⟩ (Nat.le_of_ble_eq_true rfl) ⟨by decide, by decide⟩ rfl dX11_arrive_8 (fun r_3 H_3 locs_3 p_3 hT_3 hk_3 hS_3 => ?_)
  have p_3 : H = H_3 ∧ 0 = r_3 := p_3
  obtain ⟨rfl, rfl⟩ := p_3
  refine lv_if_ne (tgt := 16) hx hb dX11_arrive_11 (by decide) (fun c_4 => absurd (by decide) c_4) (fun c_4 => ?_)
  refine lv_iconst (v := (-1)) hx hb dX11_arrive_14 (by decide) ?_
  exact th_iret E hr hlk hs hT_3 hS_3 ⟨rfl, rfl⟩ dX11_arrive_15
set_option maxHeartbeats 4000000 in
set_option maxRecDepth 100000 in
/-- StreamEnds.lose -/
theorem c_X11_lose (l : Launch) (D : va_G) (cI cS : ClassId) (τ : Nat → Option Nat) (ρ : Nat → Nat → Nat) (hW : WF τ ρ) (H : Heap) (hT : TH D cI cS τ ρ H) (a0 : Nat) (x0 : Int32) (ha0 : τ a0 = some 11) (bh_x0 : x0.toInt ≤ -1) : MI l D cI cS τ ρ yX11_lose cX11_lose 2 (some .int) 1 21 H [.ref a0, .int x0] (fun (r : Int32) (u : Heap) => H = u ∧ (-1) = r) (fun q => False) := by
  refine MI.of (by decide) (Nat.le_of_ble_eq_true rfl) ?_
  intro p e s m args below meth c E hml hr hlk hs ls hl
  have hx := E.1
  have hb := E.2.1
  have hown := E.2.2.1
  have hts := E.2.2.2.1
  have hS : SS (fun q => False) H H [] := SS.rf
  have hl : lv_has ls 2 [(0, .ref a0), (1, .int x0)] := hl
  refine lv_aload_n hx hb dX11_lose_0 rfl (lv_at hl 0 rfl) ?_
  refine gf_X11_26 E hT hW ha0 dX11_lose_1 (fun h_1 => ?_)
  refine gf_X11_86 E hT hW h_1 dX11_lose_4 (fun h_2 => ?_)
  refine lv_iload_n hx hb dX11_lose_7 rfl (lv_at hl 1 rfl) ?_
  refine th_Vi (As := [.int x0]) (rest := []) E hml hl.1 (c_X10_has l D cI cS τ ρ hW H hT (ρ (ρ a0 2) 1) x0 h_2 (by (omega))) lk_X11_158 yd_X10_has hT h_2 rfl (by decide) hS (fun _ h => h.elim) ⟨by decide, by decide⟩ (Nat.le_of_ble_eq_true rfl) ⟨by decide, by decide⟩ rfl dX11_lose_8 (fun r_3 H_3 locs_3 p_3 hT_3 hk_3 hS_3 => ?_)
  have p_3 : H = H_3 ∧ 0 = r_3 := p_3
  obtain ⟨rfl, rfl⟩ := p_3
  refine lv_if_ne (tgt := 16) hx hb dX11_lose_11 (by decide) (fun c_4 => absurd (by decide) c_4) (fun c_4 => ?_)
  refine lv_iconst (v := (-1)) hx hb dX11_lose_14 (by decide) ?_
  exact th_iret E hr hlk hs hT_3 hS_3 ⟨rfl, rfl⟩ dX11_lose_15
set_option maxHeartbeats 4000000 in
set_option maxRecDepth 100000 in
/-- StreamEnds.twice -/
theorem c_X11_twice (l : Launch) (D : va_G) (cI cS : ClassId) (τ : Nat → Option Nat) (ρ : Nat → Nat → Nat) (hW : WF τ ρ) (H : Heap) (hT : TH D cI cS τ ρ H) (a0 : Nat) (x0 : Int32) (ha0 : τ a0 = some 11) (bh_x0 : x0.toInt ≤ -1) : MI l D cI cS τ ρ yX11_twice cX11_twice 2 (some .int) 1 21 H [.ref a0, .int x0] (fun (r : Int32) (u : Heap) => H = u ∧ (-1) = r) (fun q => False) := by
  refine MI.of (by decide) (Nat.le_of_ble_eq_true rfl) ?_
  intro p e s m args below meth c E hml hr hlk hs ls hl
  have hx := E.1
  have hb := E.2.1
  have hown := E.2.2.1
  have hts := E.2.2.2.1
  have hS : SS (fun q => False) H H [] := SS.rf
  have hl : lv_has ls 2 [(0, .ref a0), (1, .int x0)] := hl
  refine lv_aload_n hx hb dX11_twice_0 rfl (lv_at hl 0 rfl) ?_
  refine gf_X11_26 E hT hW ha0 dX11_twice_1 (fun h_1 => ?_)
  refine gf_X11_86 E hT hW h_1 dX11_twice_4 (fun h_2 => ?_)
  refine lv_iload_n hx hb dX11_twice_7 rfl (lv_at hl 1 rfl) ?_
  refine th_Vi (As := [.int x0]) (rest := []) E hml hl.1 (c_X10_has l D cI cS τ ρ hW H hT (ρ (ρ a0 2) 1) x0 h_2 (by (omega))) lk_X11_158 yd_X10_has hT h_2 rfl (by decide) hS (fun _ h => h.elim) ⟨by decide, by decide⟩ (Nat.le_of_ble_eq_true rfl) ⟨by decide, by decide⟩ rfl dX11_twice_8 (fun r_3 H_3 locs_3 p_3 hT_3 hk_3 hS_3 => ?_)
  have p_3 : H = H_3 ∧ 0 = r_3 := p_3
  obtain ⟨rfl, rfl⟩ := p_3
  refine lv_if_ne (tgt := 16) hx hb dX11_twice_11 (by decide) (fun c_4 => absurd (by decide) c_4) (fun c_4 => ?_)
  refine lv_iconst (v := (-1)) hx hb dX11_twice_14 (by decide) ?_
  exact th_iret E hr hlk hs hT_3 hS_3 ⟨rfl, rfl⟩ dX11_twice_15
set_option maxHeartbeats 4000000 in
set_option maxRecDepth 100000 in
/-- StreamEnds.letter -/
theorem c_X11_letter (l : Launch) (D : va_G) (cI cS : ClassId) (τ : Nat → Option Nat) (ρ : Nat → Nat → Nat) (hW : WF τ ρ) (H : Heap) (hT : TH D cI cS τ ρ H) (a0 : Nat) (x0 : Int32) (x1 : Int32) (ha0 : τ a0 = some 11) (bh_x0 : x0.toInt ≤ -1) : MI l D cI cS τ ρ yX11_letter cX11_letter 3 (some .int) 1 21 H [.ref a0, .int x0, .int x1] (fun (r : Int32) (u : Heap) => H = u ∧ (-1) = r) (fun q => False) := by
  refine MI.of (by decide) (Nat.le_of_ble_eq_true rfl) ?_
  intro p e s m args below meth c E hml hr hlk hs ls hl
  have hx := E.1
  have hb := E.2.1
  have hown := E.2.2.1
  have hts := E.2.2.2.1
  have hS : SS (fun q => False) H H [] := SS.rf
  have hl : lv_has ls 3 [(0, .ref a0), (1, .int x0), (2, .int x1)] := hl
  refine lv_aload_n hx hb dX11_letter_0 rfl (lv_at hl 0 rfl) ?_
  refine gf_X11_26 E hT hW ha0 dX11_letter_1 (fun h_1 => ?_)
  refine gf_X11_86 E hT hW h_1 dX11_letter_4 (fun h_2 => ?_)
  refine lv_iload_n hx hb dX11_letter_7 rfl (lv_at hl 1 rfl) ?_
  refine th_Vi (As := [.int x0]) (rest := []) E hml hl.1 (c_X10_has l D cI cS τ ρ hW H hT (ρ (ρ a0 2) 1) x0 h_2 (by (omega))) lk_X11_158 yd_X10_has hT h_2 rfl (by decide) hS (fun _ h => h.elim) ⟨by decide, by decide⟩ (Nat.le_of_ble_eq_true rfl) ⟨by decide, by decide⟩ rfl dX11_letter_8 (fun r_3 H_3 locs_3 p_3 hT_3 hk_3 hS_3 => ?_)
  have p_3 : H = H_3 ∧ 0 = r_3 := p_3
  obtain ⟨rfl, rfl⟩ := p_3
  refine lv_if_eq (tgt := 24) hx hb dX11_letter_11 (by decide) (fun c_4 => ?_) (fun c_4 => absurd (by decide) c_4)
  refine lv_iconst (v := (-1)) hx hb dX11_letter_24 (by decide) ?_
  exact th_iret E hr hlk hs hT_3 hS_3 ⟨rfl, rfl⟩ dX11_letter_25
set_option maxHeartbeats 4000000 in
set_option maxRecDepth 100000 in
/-- StreamEnds.byteOf -/
theorem c_X11_byteOf (l : Launch) (D : va_G) (cI cS : ClassId) (τ : Nat → Option Nat) (ρ : Nat → Nat → Nat) (hW : WF τ ρ) (H : Heap) (hT : TH D cI cS τ ρ H) (a0 : Nat) (x0 : Int32) (x1 : Int32) (ha0 : τ a0 = some 11) (bh_x0 : x0.toInt ≤ -1) : MI l D cI cS τ ρ yX11_byteOf cX11_byteOf 3 (some .int) 1 21 H [.ref a0, .int x0, .int x1] (fun (r : Int32) (u : Heap) => H = u ∧ (-1) = r) (fun q => False) := by
  refine MI.of (by decide) (Nat.le_of_ble_eq_true rfl) ?_
  intro p e s m args below meth c E hml hr hlk hs ls hl
  have hx := E.1
  have hb := E.2.1
  have hown := E.2.2.1
  have hts := E.2.2.2.1
  have hS : SS (fun q => False) H H [] := SS.rf
  have hl : lv_has ls 3 [(0, .ref a0), (1, .int x0), (2, .int x1)] := hl
  refine lv_aload_n hx hb dX11_byteOf_0 rfl (lv_at hl 0 rfl) ?_
  refine gf_X11_26 E hT hW ha0 dX11_byteOf_1 (fun h_1 => ?_)
  refine gf_X11_86 E hT hW h_1 dX11_byteOf_4 (fun h_2 => ?_)
  refine lv_iload_n hx hb dX11_byteOf_7 rfl (lv_at hl 1 rfl) ?_
  refine th_Vi (As := [.int x0]) (rest := []) E hml hl.1 (c_X10_has l D cI cS τ ρ hW H hT (ρ (ρ a0 2) 1) x0 h_2 (by (omega))) lk_X11_158 yd_X10_has hT h_2 rfl (by decide) hS (fun _ h => h.elim) ⟨by decide, by decide⟩ (Nat.le_of_ble_eq_true rfl) ⟨by decide, by decide⟩ rfl dX11_byteOf_8 (fun r_3 H_3 locs_3 p_3 hT_3 hk_3 hS_3 => ?_)
  have p_3 : H = H_3 ∧ 0 = r_3 := p_3
  obtain ⟨rfl, rfl⟩ := p_3
  refine lv_if_eq (tgt := 18) hx hb dX11_byteOf_11 (by decide) (fun c_4 => ?_) (fun c_4 => absurd (by decide) c_4)
  refine lv_iconst (v := (-1)) hx hb dX11_byteOf_18 (by decide) ?_
  exact th_iret E hr hlk hs hT_3 hS_3 ⟨rfl, rfl⟩ dX11_byteOf_19
set_option maxHeartbeats 4000000 in
set_option maxRecDepth 100000 in
/-- StreamEnds$Wire.has -/
theorem c_X10_has_v2 (l : Launch) (D : va_G) (cI cS : ClassId) (τ : Nat → Option Nat) (ρ : Nat → Nat → Nat) (hW : WF τ ρ) (H : Heap) (hT : TH D cI cS τ ρ H) (a0 : Nat) (x0 : Int32) (ha0 : τ a0 = some 10) (bl_x0 : 0 ≤ x0.toInt) (hf_1 : fi D 10 2 H a0 = 0) : MI l D cI cS τ ρ yX10_has cX10_has 2 (some .boolean) 0 0 H [.ref a0, .int x0] (fun (r : Int32) (u : Heap) => H = u ∧ 0 = r) (fun q => False) := by
  refine MI.of (by decide) (Nat.le_of_ble_eq_true rfl) ?_
  intro p e s m args below meth c E hml hr hlk hs ls hl
  have hx := E.1
  have hb := E.2.1
  have hown := E.2.2.1
  have hts := E.2.2.2.1
  have hS : SS (fun q => False) H H [] := SS.rf
  have hl : lv_has ls 2 [(0, .ref a0), (1, .int x0)] := hl
  refine lv_iload_n hx hb dX10_has_0 rfl (lv_at hl 1 rfl) ?_
  refine lv_if_lt (tgt := 22) hx hb dX10_has_1 (by decide) (fun c_1 => False.elim (by (have : (0 : Int32).toInt = 0 := (by decide); have : x0.toInt < (0 : Int32).toInt := Int32.lt_iff_toInt_lt.mp c_1; omega))) (fun c_1 => ?_)
  refine lv_iload_n hx hb dX10_has_4 rfl (lv_at hl 1 rfl) ?_
  refine lv_aload_n hx hb dX10_has_5 rfl (lv_at hl 0 rfl) ?_
  refine gf_X10_22 E hT ha0 dX10_has_6 ?_
  refine th_topi (y := 0) hf_1 ?_
  refine lv_icmp_ge (tgt := 22) hx hb dX10_has_9 (by decide) (fun c_2 => ?_) (fun c_2 => False.elim (by (have : (0 : Int32).toInt = 0 := (by decide); have : ¬ (0 : Int32).toInt ≤ x0.toInt := fun q => c_2 (Int32.le_iff_toInt_le.mpr q); omega)))
  refine lv_iconst (v := 0) hx hb dX10_has_22 (by decide) ?_
  exact th_zret E hr hlk hs (Or.inl rfl) hT hS ⟨rfl, rfl⟩ dX10_has_23
set_option maxHeartbeats 4000000 in
set_option maxRecDepth 100000 in
/-- StreamEnds.arrive -/
theorem c_X11_arrive_v2 (l : Launch) (D : va_G) (cI cS : ClassId) (τ : Nat → Option Nat) (ρ : Nat → Nat → Nat) (hW : WF τ ρ) (H : Heap) (hT : TH D cI cS τ ρ H) (a0 : Nat) (x0 : Int32) (ha0 : τ a0 = some 11) (bl_x0 : 0 ≤ x0.toInt) (hf_1 : fi D 10 2 H (ρ (ρ a0 2) 1) = 0) : MI l D cI cS τ ρ yX11_arrive cX11_arrive 2 (some .int) 1 21 H [.ref a0, .int x0] (fun (r : Int32) (u : Heap) => H = u ∧ (-1) = r) (fun q => False) := by
  refine MI.of (by decide) (Nat.le_of_ble_eq_true rfl) ?_
  intro p e s m args below meth c E hml hr hlk hs ls hl
  have hx := E.1
  have hb := E.2.1
  have hown := E.2.2.1
  have hts := E.2.2.2.1
  have hS : SS (fun q => False) H H [] := SS.rf
  have hl : lv_has ls 2 [(0, .ref a0), (1, .int x0)] := hl
  refine lv_aload_n hx hb dX11_arrive_0 rfl (lv_at hl 0 rfl) ?_
  refine gf_X11_26 E hT hW ha0 dX11_arrive_1 (fun h_1 => ?_)
  refine gf_X11_86 E hT hW h_1 dX11_arrive_4 (fun h_2 => ?_)
  refine lv_iload_n hx hb dX11_arrive_7 rfl (lv_at hl 1 rfl) ?_
  refine th_Vi (As := [.int x0]) (rest := []) E hml hl.1 (c_X10_has_v2 l D cI cS τ ρ hW H hT (ρ (ρ a0 2) 1) x0 h_2 (by (omega)) hf_1) lk_X11_158 yd_X10_has hT h_2 rfl (by decide) hS (fun _ h => h.elim) ⟨by decide, by decide⟩ (Nat.le_of_ble_eq_true rfl) ⟨by decide, by decide⟩ rfl dX11_arrive_8 (fun r_3 H_3 locs_3 p_3 hT_3 hk_3 hS_3 => ?_)
  have p_3 : H = H_3 ∧ 0 = r_3 := p_3
  obtain ⟨rfl, rfl⟩ := p_3
  refine lv_if_ne (tgt := 16) hx hb dX11_arrive_11 (by decide) (fun c_4 => absurd (by decide) c_4) (fun c_4 => ?_)
  refine lv_iconst (v := (-1)) hx hb dX11_arrive_14 (by decide) ?_
  exact th_iret E hr hlk hs hT_3 hS_3 ⟨rfl, rfl⟩ dX11_arrive_15
set_option maxHeartbeats 4000000 in
set_option maxRecDepth 100000 in
/-- StreamEnds.lose -/
theorem c_X11_lose_v2 (l : Launch) (D : va_G) (cI cS : ClassId) (τ : Nat → Option Nat) (ρ : Nat → Nat → Nat) (hW : WF τ ρ) (H : Heap) (hT : TH D cI cS τ ρ H) (a0 : Nat) (x0 : Int32) (ha0 : τ a0 = some 11) (bl_x0 : 0 ≤ x0.toInt) (hf_1 : fi D 10 2 H (ρ (ρ a0 2) 1) = 0) : MI l D cI cS τ ρ yX11_lose cX11_lose 2 (some .int) 1 21 H [.ref a0, .int x0] (fun (r : Int32) (u : Heap) => H = u ∧ (-1) = r) (fun q => False) := by
  refine MI.of (by decide) (Nat.le_of_ble_eq_true rfl) ?_
  intro p e s m args below meth c E hml hr hlk hs ls hl
  have hx := E.1
  have hb := E.2.1
  have hown := E.2.2.1
  have hts := E.2.2.2.1
  have hS : SS (fun q => False) H H [] := SS.rf
  have hl : lv_has ls 2 [(0, .ref a0), (1, .int x0)] := hl
  refine lv_aload_n hx hb dX11_lose_0 rfl (lv_at hl 0 rfl) ?_
  refine gf_X11_26 E hT hW ha0 dX11_lose_1 (fun h_1 => ?_)
  refine gf_X11_86 E hT hW h_1 dX11_lose_4 (fun h_2 => ?_)
  refine lv_iload_n hx hb dX11_lose_7 rfl (lv_at hl 1 rfl) ?_
  refine th_Vi (As := [.int x0]) (rest := []) E hml hl.1 (c_X10_has_v2 l D cI cS τ ρ hW H hT (ρ (ρ a0 2) 1) x0 h_2 (by (omega)) hf_1) lk_X11_158 yd_X10_has hT h_2 rfl (by decide) hS (fun _ h => h.elim) ⟨by decide, by decide⟩ (Nat.le_of_ble_eq_true rfl) ⟨by decide, by decide⟩ rfl dX11_lose_8 (fun r_3 H_3 locs_3 p_3 hT_3 hk_3 hS_3 => ?_)
  have p_3 : H = H_3 ∧ 0 = r_3 := p_3
  obtain ⟨rfl, rfl⟩ := p_3
  refine lv_if_ne (tgt := 16) hx hb dX11_lose_11 (by decide) (fun c_4 => absurd (by decide) c_4) (fun c_4 => ?_)
  refine lv_iconst (v := (-1)) hx hb dX11_lose_14 (by decide) ?_
  exact th_iret E hr hlk hs hT_3 hS_3 ⟨rfl, rfl⟩ dX11_lose_15
set_option maxHeartbeats 4000000 in
set_option maxRecDepth 100000 in
/-- StreamEnds.twice -/
theorem c_X11_twice_v2 (l : Launch) (D : va_G) (cI cS : ClassId) (τ : Nat → Option Nat) (ρ : Nat → Nat → Nat) (hW : WF τ ρ) (H : Heap) (hT : TH D cI cS τ ρ H) (a0 : Nat) (x0 : Int32) (ha0 : τ a0 = some 11) (bl_x0 : 0 ≤ x0.toInt) (hf_1 : fi D 10 2 H (ρ (ρ a0 2) 1) = 0) : MI l D cI cS τ ρ yX11_twice cX11_twice 2 (some .int) 1 21 H [.ref a0, .int x0] (fun (r : Int32) (u : Heap) => H = u ∧ (-1) = r) (fun q => False) := by
  refine MI.of (by decide) (Nat.le_of_ble_eq_true rfl) ?_
  intro p e s m args below meth c E hml hr hlk hs ls hl
  have hx := E.1
  have hb := E.2.1
  have hown := E.2.2.1
  have hts := E.2.2.2.1
  have hS : SS (fun q => False) H H [] := SS.rf
  have hl : lv_has ls 2 [(0, .ref a0), (1, .int x0)] := hl
  refine lv_aload_n hx hb dX11_twice_0 rfl (lv_at hl 0 rfl) ?_
  refine gf_X11_26 E hT hW ha0 dX11_twice_1 (fun h_1 => ?_)
  refine gf_X11_86 E hT hW h_1 dX11_twice_4 (fun h_2 => ?_)
  refine lv_iload_n hx hb dX11_twice_7 rfl (lv_at hl 1 rfl) ?_
  refine th_Vi (As := [.int x0]) (rest := []) E hml hl.1 (c_X10_has_v2 l D cI cS τ ρ hW H hT (ρ (ρ a0 2) 1) x0 h_2 (by (omega)) hf_1) lk_X11_158 yd_X10_has hT h_2 rfl (by decide) hS (fun _ h => h.elim) ⟨by decide, by decide⟩ (Nat.le_of_ble_eq_true rfl) ⟨by decide, by decide⟩ rfl dX11_twice_8 (fun r_3 H_3 locs_3 p_3 hT_3 hk_3 hS_3 => ?_)
  have p_3 : H = H_3 ∧ 0 = r_3 := p_3
  obtain ⟨rfl, rfl⟩ := p_3
  refine lv_if_ne (tgt := 16) hx hb dX11_twice_11 (by decide) (fun c_4 => absurd (by decide) c_4) (fun c_4 => ?_)
  refine lv_iconst (v := (-1)) hx hb dX11_twice_14 (by decide) ?_
  exact th_iret E hr hlk hs hT_3 hS_3 ⟨rfl, rfl⟩ dX11_twice_15
set_option maxHeartbeats 4000000 in
set_option maxRecDepth 100000 in
/-- StreamEnds.letter -/
theorem c_X11_letter_v2 (l : Launch) (D : va_G) (cI cS : ClassId) (τ : Nat → Option Nat) (ρ : Nat → Nat → Nat) (hW : WF τ ρ) (H : Heap) (hT : TH D cI cS τ ρ H) (a0 : Nat) (x0 : Int32) (x1 : Int32) (ha0 : τ a0 = some 11) (bl_x0 : 0 ≤ x0.toInt) (hf_1 : fi D 10 2 H (ρ (ρ a0 2) 1) = 0) : MI l D cI cS τ ρ yX11_letter cX11_letter 3 (some .int) 1 21 H [.ref a0, .int x0, .int x1] (fun (r : Int32) (u : Heap) => H = u ∧ (-1) = r) (fun q => False) := by
  refine MI.of (by decide) (Nat.le_of_ble_eq_true rfl) ?_
  intro p e s m args below meth c E hml hr hlk hs ls hl
  have hx := E.1
  have hb := E.2.1
  have hown := E.2.2.1
  have hts := E.2.2.2.1
  have hS : SS (fun q => False) H H [] := SS.rf
  have hl : lv_has ls 3 [(0, .ref a0), (1, .int x0), (2, .int x1)] := hl
  refine lv_aload_n hx hb dX11_letter_0 rfl (lv_at hl 0 rfl) ?_
  refine gf_X11_26 E hT hW ha0 dX11_letter_1 (fun h_1 => ?_)
  refine gf_X11_86 E hT hW h_1 dX11_letter_4 (fun h_2 => ?_)
  refine lv_iload_n hx hb dX11_letter_7 rfl (lv_at hl 1 rfl) ?_
  refine th_Vi (As := [.int x0]) (rest := []) E hml hl.1 (c_X10_has_v2 l D cI cS τ ρ hW H hT (ρ (ρ a0 2) 1) x0 h_2 (by (omega)) hf_1) lk_X11_158 yd_X10_has hT h_2 rfl (by decide) hS (fun _ h => h.elim) ⟨by decide, by decide⟩ (Nat.le_of_ble_eq_true rfl) ⟨by decide, by decide⟩ rfl dX11_letter_8 (fun r_3 H_3 locs_3 p_3 hT_3 hk_3 hS_3 => ?_)
  have p_3 : H = H_3 ∧ 0 = r_3 := p_3
  obtain ⟨rfl, rfl⟩ := p_3
  refine lv_if_eq (tgt := 24) hx hb dX11_letter_11 (by decide) (fun c_4 => ?_) (fun c_4 => absurd (by decide) c_4)
  refine lv_iconst (v := (-1)) hx hb dX11_letter_24 (by decide) ?_
  exact th_iret E hr hlk hs hT_3 hS_3 ⟨rfl, rfl⟩ dX11_letter_25
set_option maxHeartbeats 4000000 in
set_option maxRecDepth 100000 in
/-- StreamEnds.byteOf -/
theorem c_X11_byteOf_v2 (l : Launch) (D : va_G) (cI cS : ClassId) (τ : Nat → Option Nat) (ρ : Nat → Nat → Nat) (hW : WF τ ρ) (H : Heap) (hT : TH D cI cS τ ρ H) (a0 : Nat) (x0 : Int32) (x1 : Int32) (ha0 : τ a0 = some 11) (bl_x0 : 0 ≤ x0.toInt) (hf_1 : fi D 10 2 H (ρ (ρ a0 2) 1) = 0) : MI l D cI cS τ ρ yX11_byteOf cX11_byteOf 3 (some .int) 1 21 H [.ref a0, .int x0, .int x1] (fun (r : Int32) (u : Heap) => H = u ∧ (-1) = r) (fun q => False) := by
  refine MI.of (by decide) (Nat.le_of_ble_eq_true rfl) ?_
  intro p e s m args below meth c E hml hr hlk hs ls hl
  have hx := E.1
  have hb := E.2.1
  have hown := E.2.2.1
  have hts := E.2.2.2.1
  have hS : SS (fun q => False) H H [] := SS.rf
  have hl : lv_has ls 3 [(0, .ref a0), (1, .int x0), (2, .int x1)] := hl
  refine lv_aload_n hx hb dX11_byteOf_0 rfl (lv_at hl 0 rfl) ?_
  refine gf_X11_26 E hT hW ha0 dX11_byteOf_1 (fun h_1 => ?_)
  refine gf_X11_86 E hT hW h_1 dX11_byteOf_4 (fun h_2 => ?_)
  refine lv_iload_n hx hb dX11_byteOf_7 rfl (lv_at hl 1 rfl) ?_
  refine th_Vi (As := [.int x0]) (rest := []) E hml hl.1 (c_X10_has_v2 l D cI cS τ ρ hW H hT (ρ (ρ a0 2) 1) x0 h_2 (by (omega)) hf_1) lk_X11_158 yd_X10_has hT h_2 rfl (by decide) hS (fun _ h => h.elim) ⟨by decide, by decide⟩ (Nat.le_of_ble_eq_true rfl) ⟨by decide, by decide⟩ rfl dX11_byteOf_8 (fun r_3 H_3 locs_3 p_3 hT_3 hk_3 hS_3 => ?_)
  have p_3 : H = H_3 ∧ 0 = r_3 := p_3
  obtain ⟨rfl, rfl⟩ := p_3
  refine lv_if_eq (tgt := 18) hx hb dX11_byteOf_11 (by decide) (fun c_4 => ?_) (fun c_4 => absurd (by decide) c_4)
  refine lv_iconst (v := (-1)) hx hb dX11_byteOf_18 (by decide) ?_
  exact th_iret E hr hlk hs hT_3 hS_3 ⟨rfl, rfl⟩ dX11_byteOf_19
set_option maxHeartbeats 4000000 in
set_option maxRecDepth 100000 in
/-- StreamEnds.pass -/
theorem c_X11_pass (l : Launch) (D : va_G) (cI cS : ClassId) (τ : Nat → Option Nat) (ρ : Nat → Nat → Nat) (hW : WF τ ρ) (H : Heap) (hT : TH D cI cS τ ρ H) (a0 : Nat) (x0 : Int32) (ha0 : τ a0 = some 11) (bh_x0 : x0.toInt ≤ 0) : MI l D cI cS τ ρ yX11_pass cX11_pass 3 (some .int) 0 0 H [.ref a0, .int x0] (fun (r : Int32) (u : Heap) => H = u ∧ (-1) = r) (fun q => False) := by
  refine MI.of (by decide) (Nat.le_of_ble_eq_true rfl) ?_
  intro p e s m args below meth c E hml hr hlk hs ls hl
  have hx := E.1
  have hb := E.2.1
  have hown := E.2.2.1
  have hts := E.2.2.2.1
  have hS : SS (fun q => False) H H [] := SS.rf
  have hl : lv_has ls 3 [(0, .ref a0), (1, .int x0)] := hl
  refine lv_iload_n hx hb dX11_pass_0 rfl (lv_at hl 1 rfl) ?_
  refine lv_iconst (v := 1) hx hb dX11_pass_1 (by decide) ?_
  refine lv_icmp_lt (tgt := 11) hx hb dX11_pass_2 (by decide) (fun c_1 => ?_) (fun c_1 => False.elim (by (have : (1 : Int32).toInt = 1 := (by decide); have : ¬ x0.toInt < (1 : Int32).toInt := fun q => c_1 (Int32.lt_iff_toInt_lt.mpr q); omega)))
  refine lv_iconst (v := (-1)) hx hb dX11_pass_11 (by decide) ?_
  exact th_iret E hr hlk hs hT hS ⟨rfl, rfl⟩ dX11_pass_12
set_option maxHeartbeats 4000000 in
set_option maxRecDepth 100000 in
/-- StreamEnds$Endpoint.tick -/
theorem c_X2_tick (l : Launch) (D : va_G) (cI cS : ClassId) (τ : Nat → Option Nat) (ρ : Nat → Nat → Nat) (hW : WF τ ρ) (H : Heap) (hT : TH D cI cS τ ρ H) (a0 : Nat) (ha0 : τ a0 = some 2) (hf_1 : fi D 2 9 H a0 = 0) (hf_2 : fi D 2 8 H a0 = 0) : MV l D cI cS τ ρ yX2_tick cX2_tick 1 none 0 0 H [.ref a0] (fun (u : Heap) => H = u) (fun q => False) := by
  refine MV.of (by decide) (Nat.le_of_ble_eq_true rfl) ?_
  intro p e s m args below meth c E hml hr hlk hs ls hl
  have hx := E.1
  have hb := E.2.1
  have hown := E.2.2.1
  have hts := E.2.2.2.1
  have hS : SS (fun q => False) H H [] := SS.rf
  have hl : lv_has ls 1 [(0, .ref a0)] := hl
  refine lv_aload_n hx hb dX2_tick_0 rfl (lv_at hl 0 rfl) ?_
  refine gf_X2_69 E hT ha0 dX2_tick_1 ?_
  refine th_topi (y := 0) hf_1 ?_
  refine lv_if_eq (tgt := 28) hx hb dX2_tick_4 (by decide) (fun c_1 => ?_) (fun c_1 => absurd (by decide) c_1)
  refine lv_aload_n hx hb dX2_tick_28 rfl (lv_at hl 0 rfl) ?_
  refine gf_X2_66 E hT ha0 dX2_tick_29 ?_
  refine th_topi (y := 0) hf_2 ?_
  refine lv_if_eq (tgt := 56) hx hb dX2_tick_32 (by decide) (fun c_2 => ?_) (fun c_2 => absurd (by decide) c_2)
  exact th_vret E hr hlk hs hT hS rfl dX2_tick_56
set_option maxHeartbeats 4000000 in
set_option maxRecDepth 100000 in
/-- StreamEnds$Network.tick -/
theorem c_X4_tick (l : Launch) (D : va_G) (cI cS : ClassId) (τ : Nat → Option Nat) (ρ : Nat → Nat → Nat) (hW : WF τ ρ) (H : Heap) (hT : TH D cI cS τ ρ H) (a0 : Nat) (ha0 : τ a0 = some 4) (hf_1 : fi D 2 9 H (ρ a0 3) = 0) (hf_2 : fi D 2 8 H (ρ a0 3) = 0) (hf_3 : fi D 2 9 H (ρ a0 4) = 0) (hf_4 : fi D 2 8 H (ρ a0 4) = 0) : MV l D cI cS τ ρ yX4_tick cX4_tick 1 none 1 20 H [.ref a0] (fun (u : Heap) => fi D 0 0 u (ρ a0 2) = (fi D 0 0 H (ρ a0 2)) + 1) (fun q => q = ρ a0 2) := by
  refine MV.of (by decide) (Nat.le_of_ble_eq_true rfl) ?_
  intro p e s m args below meth c E hml hr hlk hs ls hl
  have hx := E.1
  have hb := E.2.1
  have hown := E.2.2.1
  have hts := E.2.2.2.1
  have hS : SS (fun q => q = ρ a0 2) H H [] := SS.rf
  have hl : lv_has ls 1 [(0, .ref a0)] := hl
  refine lv_aload_n hx hb dX4_tick_0 rfl (lv_at hl 0 rfl) ?_
  refine gf_X4_28 E hT hW ha0 dX4_tick_1 (fun h_1 => ?_)
  refine lv_dup hx hb dX4_tick_4 rfl ?_
  refine gf_X4_63 E hT h_1 dX4_tick_5 ?_
  refine lv_iconst (v := 1) hx hb dX4_tick_8 (by decide) ?_
  refine lv_iadd hx hb dX4_tick_9 ?_
  refine pf_X4_63 E hT hS h_1 rfl dX4_tick_10 (fun H_2 locs_2 hT_2 hU_2 hS_2 => ?_)
  refine lv_aload_n hx hb dX4_tick_13 rfl (lv_at hl 0 rfl) ?_
  refine gf_X4_37 E hT_2 hW ha0 dX4_tick_14 (fun h_3 => ?_)
  refine th_Vv (As := []) (rest := []) E hml hl.1 (c_X2_tick l D cI cS τ ρ hW H_2 hT_2 (ρ a0 3) h_3 (Eq.trans (fi_q (hU_2.2.2 _ (th_ne h_3 h_1 (by decide)))) hf_1) (Eq.trans (fi_q (hU_2.2.2 _ (th_ne h_3 h_1 (by decide)))) hf_2)) lk_X4_110 yd_X2_tick hT_2 h_3 rfl (by decide) hS_2 (fun _ h => h.elim) ⟨by decide, by decide⟩ (Nat.le_of_ble_eq_true rfl) ⟨by decide, by decide⟩ rfl dX4_tick_17 (fun H_4 locs_4 p_4 hT_4 hk_4 hS_4 => ?_)
  have p_4 : H_2 = H_4 := p_4
  obtain rfl := p_4
  refine lv_aload_n hx hb dX4_tick_20 rfl (lv_at hl 0 rfl) ?_
  refine gf_X4_41 E hT_4 hW ha0 dX4_tick_21 (fun h_5 => ?_)
  refine th_Vv (As := []) (rest := []) E hml hl.1 (c_X2_tick l D cI cS τ ρ hW H_2 hT_4 (ρ a0 4) h_5 (Eq.trans (fi_q (hU_2.2.2 _ (th_ne h_5 h_1 (by decide)))) hf_3) (Eq.trans (fi_q (hU_2.2.2 _ (th_ne h_5 h_1 (by decide)))) hf_4)) lk_X4_110 yd_X2_tick hT_4 h_5 rfl (by decide) hS_4 (fun _ h => h.elim) ⟨by decide, by decide⟩ (Nat.le_of_ble_eq_true rfl) ⟨by decide, by decide⟩ rfl dX4_tick_24 (fun H_6 locs_6 p_6 hT_6 hk_6 hS_6 => ?_)
  have p_6 : H_2 = H_6 := p_6
  obtain rfl := p_6
  exact th_vret E hr hlk hs hT_6 hS_6 (PU.i hU_2) dX4_tick_27
set_option maxHeartbeats 4000000 in
set_option maxRecDepth 100000 in
/-- StreamEnds.pass -/
theorem c_X11_pass_v2 (l : Launch) (D : va_G) (cI cS : ClassId) (τ : Nat → Option Nat) (ρ : Nat → Nat → Nat) (hW : WF τ ρ) (H : Heap) (hT : TH D cI cS τ ρ H) (a0 : Nat) (x0 : Int32) (ha0 : τ a0 = some 11) (bl_x0 : 1 ≤ x0.toInt) (bh_x0 : x0.toInt ≤ 100) (hn_1 : ρ (ρ a0 2) 3 ≠ ρ (ρ a0 2) 2) (hf_2 : fi D 2 9 H (ρ (ρ a0 2) 3) = 0) (hf_3 : fi D 2 8 H (ρ (ρ a0 2) 3) = 0) (hn_4 : ρ (ρ a0 2) 4 ≠ ρ (ρ a0 2) 2) (hf_5 : fi D 2 9 H (ρ (ρ a0 2) 4) = 0) (hf_6 : fi D 2 8 H (ρ (ρ a0 2) 4) = 0) (hf_7 : fi D 0 0 H (ρ (ρ a0 2) 2) = 0) : MI l D cI cS τ ρ yX11_pass cX11_pass 3 (some .int) 2 40 H [.ref a0, .int x0] (fun (r : Int32) (u : Heap) => x0 = r) (fun q => q = ρ (ρ a0 2) 2) := by
  refine MI.of (by decide) (Nat.le_of_ble_eq_true rfl) ?_
  intro p e s m args below meth c E hml hr hlk hs ls hl
  have hx := E.1
  have hb := E.2.1
  have hown := E.2.2.1
  have hts := E.2.2.2.1
  have hS : SS (fun q => q = ρ (ρ a0 2) 2) H H [] := SS.rf
  have hl : lv_has ls 3 [(0, .ref a0), (1, .int x0)] := hl
  refine lv_iload_n hx hb dX11_pass_0 rfl (lv_at hl 1 rfl) ?_
  refine lv_iconst (v := 1) hx hb dX11_pass_1 (by decide) ?_
  refine lv_icmp_lt (tgt := 11) hx hb dX11_pass_2 (by decide) (fun c_1 => False.elim (by (have : (1 : Int32).toInt = 1 := (by decide); have : x0.toInt < (1 : Int32).toInt := Int32.lt_iff_toInt_lt.mp c_1; omega))) (fun c_1 => ?_)
  refine lv_iload_n hx hb dX11_pass_5 rfl (lv_at hl 1 rfl) ?_
  refine lv_bipush (v := 100) hx hb dX11_pass_6 (by decide) ?_
  refine lv_icmp_le (tgt := 13) hx hb dX11_pass_8 (by decide) (fun c_2 => ?_) (fun c_2 => False.elim (by (have : (100 : Int32).toInt = 100 := (by decide); have : ¬ x0.toInt ≤ (100 : Int32).toInt := fun q => c_2 (Int32.le_iff_toInt_le.mpr q); omega)))
  refine lv_iconst (v := 0) hx hb dX11_pass_13 (by decide) ?_
  refine lv_istore_n (lv' := [(2, .int 0), (0, .ref a0), (1, .int x0)]) hx hb dX11_pass_14 rfl hl (by decide) rfl (fun ls hl => ?_)
  have loop_3 : ∀ (f_3 i_3 : Nat) (H_3 : Heap) (locs_3 : List Loc), TH D cI cS τ ρ H_3 → SS (fun q => q = ρ (ρ a0 2) 2) H H_3 locs_3 → (∀ q : Nat, ¬ (q = ρ (ρ a0 2) 2) → H_3[q]? = H[q]?) → (i_3 : Int) ≤ x0.toInt → (fi D 0 0 H_3 (ρ (ρ a0 2) 2) = nI i_3) → (x0.toInt - (i_3 : Int)).toNat < f_3 → ∀ ls : Array Slot, lv_has ls 3 [(2, .int (nI i_3)), (0, .ref a0), (1, .int x0)] → W p l e (rmO 2 40) s m args below meth c H_3 locs_3 0 0 (MQ below (va_Qi (fun (r : Int32) (u : Heap) => x0 = r) (Bt D cI cS τ ρ H) (fun q => q = ρ (ρ a0 2) 2)) args s 0 0 (fun q => q = ρ (ρ a0 2) 2)) (F0 m 15 ls []) := by
    intro f_3
    induction f_3 with
    | zero => intro i_3 H_3 locs_3 hT_3 hS_3 hk_3 hi_3 hv_3 hm_3; exact absurd hm_3 (Nat.not_lt_zero _)
    | succ f_3 ih_3 =>
      intro i_3 H_3 locs_3 hT_3 hS_3 hk_3 hi_3 hv_3 hm_3 ls hl
      refine lv_iload_n hx hb dX11_pass_15 rfl (lv_at hl 0 rfl) ?_
      refine lv_iload_n hx hb dX11_pass_16 rfl (lv_at hl 2 rfl) ?_
      refine lv_icmp_ge (tgt := 33) hx hb dX11_pass_17 (by decide) (fun c_4 => ?_) (fun c_4 => ?_)
      · have en_3 := nI_toInt (n := i_3) (by omega)
        have hb_3 := Int32.le_iff_toInt_le.mp c_4
        have hx_3 : nI i_3 = x0 := Int32.toInt_inj.mp (by rw [en_3]; omega)
        refine lv_aload_n hx hb dX11_pass_33 rfl (lv_at hl 1 rfl) ?_
        refine gf_X11_26 E hT_3 hW ha0 dX11_pass_34 (fun h_5 => ?_)
        refine gf_X11_174 E hT_3 hW h_5 dX11_pass_37 (fun h_6 => ?_)
        refine gf_X11_178 E hT_3 h_6 dX11_pass_40 ?_
        refine th_topi (y := x0) (hv_3.trans hx_3) ?_
        exact th_iret E hr hlk hs hT_3 hS_3 rfl dX11_pass_43
      · have en_3 := nI_toInt (n := i_3) (by omega)
        have hb_3 := Int32.not_le.mp c_4
        have hb_3 := Int32.lt_iff_toInt_lt.mp hb_3
        refine lv_aload_n hx hb dX11_pass_20 rfl (lv_at hl 1 rfl) ?_
        refine gf_X11_26 E hT_3 hW ha0 dX11_pass_21 (fun h_7 => ?_)
        refine th_Vv (As := []) (rest := []) E hml hl.1 (c_X4_tick l D cI cS τ ρ hW H_3 hT_3 (ρ a0 2) h_7 (Eq.trans (fi_q (hk_3 _ hn_1)) hf_2) (Eq.trans (fi_q (hk_3 _ hn_1)) hf_3) (Eq.trans (fi_q (hk_3 _ hn_4)) hf_5) (Eq.trans (fi_q (hk_3 _ hn_4)) hf_6)) lk_X11_171 yd_X4_tick hT_3 h_7 rfl (by decide) hS_3 (fun q h => h) ⟨by decide, by decide⟩ (Nat.le_of_ble_eq_true rfl) ⟨by decide, by decide⟩ rfl dX11_pass_24 (fun H_8 locs_8 p_8 hT_8 hk_8 hS_8 => ?_)
        have p_8 : fi D 0 0 H_8 (ρ (ρ a0 2) 2) = (fi D 0 0 H_3 (ρ (ρ a0 2) 2)) + 1 := p_8
        have p_8_0 := p_8
        obtain ⟨x_9, ex_9⟩ : ∃ y : Int32, nI i_3 + 1 = y := ⟨_, rfl⟩
        refine lv_iinc (v := x_9) (lv' := [(2, .int x_9), (0, .ref a0), (1, .int x0)]) hx hb dX11_pass_27 hl (k := 0) rfl (by rw [← ex_9]; rfl) (by decide) rfl (fun ls hl => ?_)
        refine lv_goto (tgt := 15) hx hb dX11_pass_30 (by decide) ?_
        have en_3 : x_9 = nI (i_3 + 1) := by rw [← ex_9]; exact nI_1 _
        subst en_3
        exact ih_3 (i_3 + 1) H_8 locs_8 hT_8 hS_8 (fun q hn => (Eq.trans (hk_8 q (fun h => hn h)) (hk_3 q hn))) (by omega) (p_8_0.trans (by rw [hv_3]; exact nI_1 i_3)) (by omega) ls (lv_sub hl [0, 1, 2] rfl)
  exact loop_3 (((x0.toInt : Int) - 0).toNat + 1) 0 H [] hT hS (fun _ _ => rfl) (by omega) (hf_7.trans nI_0.symm) (by omega) ls (lv_sub hl [0, 1, 2] rfl)
set_option maxHeartbeats 4000000 in
set_option maxRecDepth 100000 in
/-- StreamEnds.pass -/
theorem c_X11_pass_v3 (l : Launch) (D : va_G) (cI cS : ClassId) (τ : Nat → Option Nat) (ρ : Nat → Nat → Nat) (hW : WF τ ρ) (H : Heap) (hT : TH D cI cS τ ρ H) (a0 : Nat) (x0 : Int32) (ha0 : τ a0 = some 11) (bl_x0 : 101 ≤ x0.toInt) : MI l D cI cS τ ρ yX11_pass cX11_pass 3 (some .int) 0 0 H [.ref a0, .int x0] (fun (r : Int32) (u : Heap) => H = u ∧ (-1) = r) (fun q => False) := by
  refine MI.of (by decide) (Nat.le_of_ble_eq_true rfl) ?_
  intro p e s m args below meth c E hml hr hlk hs ls hl
  have hx := E.1
  have hb := E.2.1
  have hown := E.2.2.1
  have hts := E.2.2.2.1
  have hS : SS (fun q => False) H H [] := SS.rf
  have hl : lv_has ls 3 [(0, .ref a0), (1, .int x0)] := hl
  refine lv_iload_n hx hb dX11_pass_0 rfl (lv_at hl 1 rfl) ?_
  refine lv_iconst (v := 1) hx hb dX11_pass_1 (by decide) ?_
  refine lv_icmp_lt (tgt := 11) hx hb dX11_pass_2 (by decide) (fun c_1 => False.elim (by (have : (1 : Int32).toInt = 1 := (by decide); have : x0.toInt < (1 : Int32).toInt := Int32.lt_iff_toInt_lt.mp c_1; omega))) (fun c_1 => ?_)
  refine lv_iload_n hx hb dX11_pass_5 rfl (lv_at hl 1 rfl) ?_
  refine lv_bipush (v := 100) hx hb dX11_pass_6 (by decide) ?_
  refine lv_icmp_le (tgt := 13) hx hb dX11_pass_8 (by decide) (fun c_2 => False.elim (by (have : (100 : Int32).toInt = 100 := (by decide); have : x0.toInt ≤ (100 : Int32).toInt := Int32.le_iff_toInt_le.mp c_2; omega))) (fun c_2 => ?_)
  refine lv_iconst (v := (-1)) hx hb dX11_pass_11 (by decide) ?_
  exact th_iret E hr hlk hs hT hS ⟨rfl, rfl⟩ dX11_pass_12
set_option maxHeartbeats 4000000 in
set_option maxRecDepth 100000 in
/-- StreamEnds.drive -/
theorem c_X11_drive (l : Launch) (D : va_G) (cI cS : ClassId) (τ : Nat → Option Nat) (ρ : Nat → Nat → Nat) (hW : WF τ ρ) (H : Heap) (hT : TH D cI cS τ ρ H) (a0 : Nat) (x0 : Int32) (x1 : Int32) (ha0 : τ a0 = some 11) (bh_x0 : x0.toInt ≤ -1) : MI l D cI cS τ ρ yX11_drive cX11_drive 10 (some .int) 0 0 H [.ref a0, .int x0, .int x1] (fun (r : Int32) (u : Heap) => H = u ∧ (-1) = r) (fun q => False) := by
  refine MI.of (by decide) (Nat.le_of_ble_eq_true rfl) ?_
  intro p e s m args below meth c E hml hr hlk hs ls hl
  have hx := E.1
  have hb := E.2.1
  have hown := E.2.2.1
  have hts := E.2.2.2.1
  have hS : SS (fun q => False) H H [] := SS.rf
  have hl : lv_has ls 10 [(0, .ref a0), (1, .int x0), (2, .int x1)] := hl
  refine lv_iload_n hx hb dX11_drive_0 rfl (lv_at hl 1 rfl) ?_
  refine lv_if_lt (tgt := 22) hx hb dX11_drive_1 (by decide) (fun c_1 => ?_) (fun c_1 => False.elim (by (have : (0 : Int32).toInt = 0 := (by decide); have : ¬ x0.toInt < (0 : Int32).toInt := fun q => c_1 (Int32.lt_iff_toInt_lt.mpr q); omega)))
  refine lv_iconst (v := (-1)) hx hb dX11_drive_22 (by decide) ?_
  exact th_iret E hr hlk hs hT hS ⟨rfl, rfl⟩ dX11_drive_23
set_option maxHeartbeats 4000000 in
set_option maxRecDepth 100000 in
/-- StreamEnds.drive -/
theorem c_X11_drive_v2 (l : Launch) (D : va_G) (cI cS : ClassId) (τ : Nat → Option Nat) (ρ : Nat → Nat → Nat) (hW : WF τ ρ) (H : Heap) (hT : TH D cI cS τ ρ H) (a0 : Nat) (x0 : Int32) (x1 : Int32) (ha0 : τ a0 = some 11) (bl_x0 : 10000 ≤ x0.toInt) : MI l D cI cS τ ρ yX11_drive cX11_drive 10 (some .int) 0 0 H [.ref a0, .int x0, .int x1] (fun (r : Int32) (u : Heap) => H = u ∧ (-1) = r) (fun q => False) := by
  refine MI.of (by decide) (Nat.le_of_ble_eq_true rfl) ?_
  intro p e s m args below meth c E hml hr hlk hs ls hl
  have hx := E.1
  have hb := E.2.1
  have hown := E.2.2.1
  have hts := E.2.2.2.1
  have hS : SS (fun q => False) H H [] := SS.rf
  have hl : lv_has ls 10 [(0, .ref a0), (1, .int x0), (2, .int x1)] := hl
  refine lv_iload_n hx hb dX11_drive_0 rfl (lv_at hl 1 rfl) ?_
  refine lv_if_lt (tgt := 22) hx hb dX11_drive_1 (by decide) (fun c_1 => False.elim (by (have : (0 : Int32).toInt = 0 := (by decide); have : x0.toInt < (0 : Int32).toInt := Int32.lt_iff_toInt_lt.mp c_1; omega))) (fun c_1 => ?_)
  refine lv_iload_n hx hb dX11_drive_4 rfl (lv_at hl 1 rfl) ?_
  refine lv_sipush (v := 9999) hx hb dX11_drive_5 (by decide) ?_
  refine lv_icmp_gt (tgt := 22) hx hb dX11_drive_8 (by decide) (fun c_2 => ?_) (fun c_2 => False.elim (by (have : (9999 : Int32).toInt = 9999 := (by decide); have : ¬ (9999 : Int32).toInt < x0.toInt := fun q => c_2 (Int32.lt_iff_toInt_lt.mpr q); omega)))
  refine lv_iconst (v := (-1)) hx hb dX11_drive_22 (by decide) ?_
  exact th_iret E hr hlk hs hT hS ⟨rfl, rfl⟩ dX11_drive_23
set_option maxHeartbeats 4000000 in
set_option maxRecDepth 100000 in
/-- StreamEnds.drive -/
theorem c_X11_drive_v3 (l : Launch) (D : va_G) (cI cS : ClassId) (τ : Nat → Option Nat) (ρ : Nat → Nat → Nat) (hW : WF τ ρ) (H : Heap) (hT : TH D cI cS τ ρ H) (a0 : Nat) (x0 : Int32) (x1 : Int32) (ha0 : τ a0 = some 11) (bl_x0 : 0 ≤ x0.toInt) (bh_x0 : x0.toInt ≤ 9999) (bh_x1 : x1.toInt ≤ 0) : MI l D cI cS τ ρ yX11_drive cX11_drive 10 (some .int) 0 0 H [.ref a0, .int x0, .int x1] (fun (r : Int32) (u : Heap) => H = u ∧ (-1) = r) (fun q => False) := by
  refine MI.of (by decide) (Nat.le_of_ble_eq_true rfl) ?_
  intro p e s m args below meth c E hml hr hlk hs ls hl
  have hx := E.1
  have hb := E.2.1
  have hown := E.2.2.1
  have hts := E.2.2.2.1
  have hS : SS (fun q => False) H H [] := SS.rf
  have hl : lv_has ls 10 [(0, .ref a0), (1, .int x0), (2, .int x1)] := hl
  refine lv_iload_n hx hb dX11_drive_0 rfl (lv_at hl 1 rfl) ?_
  refine lv_if_lt (tgt := 22) hx hb dX11_drive_1 (by decide) (fun c_1 => False.elim (by (have : (0 : Int32).toInt = 0 := (by decide); have : x0.toInt < (0 : Int32).toInt := Int32.lt_iff_toInt_lt.mp c_1; omega))) (fun c_1 => ?_)
  refine lv_iload_n hx hb dX11_drive_4 rfl (lv_at hl 1 rfl) ?_
  refine lv_sipush (v := 9999) hx hb dX11_drive_5 (by decide) ?_
  refine lv_icmp_gt (tgt := 22) hx hb dX11_drive_8 (by decide) (fun c_2 => False.elim (by (have : (9999 : Int32).toInt = 9999 := (by decide); have : (9999 : Int32).toInt < x0.toInt := Int32.lt_iff_toInt_lt.mp c_2; omega))) (fun c_2 => ?_)
  refine lv_iload_n hx hb dX11_drive_11 rfl (lv_at hl 2 rfl) ?_
  refine lv_iconst (v := 1) hx hb dX11_drive_12 (by decide) ?_
  refine lv_icmp_lt (tgt := 22) hx hb dX11_drive_13 (by decide) (fun c_3 => ?_) (fun c_3 => False.elim (by (have : (1 : Int32).toInt = 1 := (by decide); have : ¬ x1.toInt < (1 : Int32).toInt := fun q => c_3 (Int32.lt_iff_toInt_lt.mpr q); omega)))
  refine lv_iconst (v := (-1)) hx hb dX11_drive_22 (by decide) ?_
  exact th_iret E hr hlk hs hT hS ⟨rfl, rfl⟩ dX11_drive_23
set_option maxHeartbeats 4000000 in
set_option maxRecDepth 100000 in
/-- StreamEnds.drive -/
theorem c_X11_drive_v4 (l : Launch) (D : va_G) (cI cS : ClassId) (τ : Nat → Option Nat) (ρ : Nat → Nat → Nat) (hW : WF τ ρ) (H : Heap) (hT : TH D cI cS τ ρ H) (a0 : Nat) (x0 : Int32) (x1 : Int32) (ha0 : τ a0 = some 11) (bl_x0 : 0 ≤ x0.toInt) (bh_x0 : x0.toInt ≤ 9999) (bl_x1 : 1 ≤ x1.toInt) (bh_x1 : x1.toInt ≤ 60) (hn_1 : ρ (ρ a0 2) 1 ≠ ρ (ρ a0 2) 2) (hf_2 : fi D 10 2 H (ρ (ρ a0 2) 1) = 0) (hn_3 : ρ (ρ a0 2) 1 ≠ ρ (ρ a0 2) 2) (hf_4 : fi D 10 2 H (ρ (ρ a0 2) 1) = 0) (hn_5 : ρ (ρ a0 2) 3 ≠ ρ (ρ a0 2) 2) (hf_6 : fi D 2 9 H (ρ (ρ a0 2) 3) = 0) (hf_7 : fi D 2 8 H (ρ (ρ a0 2) 3) = 0) (hn_8 : ρ (ρ a0 2) 4 ≠ ρ (ρ a0 2) 2) (hf_9 : fi D 2 9 H (ρ (ρ a0 2) 4) = 0) (hf_10 : fi D 2 8 H (ρ (ρ a0 2) 4) = 0) (hf_11 : fi D 0 0 H (ρ (ρ a0 2) 2) = 0) : MI l D cI cS τ ρ yX11_drive cX11_drive 10 (some .int) 2 40 H [.ref a0, .int x0, .int x1] (fun (r : Int32) (u : Heap) => 0 = r) (fun q => q = ρ (ρ a0 2) 2) := by
  refine MI.of (by decide) (Nat.le_of_ble_eq_true rfl) ?_
  intro p e s m args below meth c E hml hr hlk hs ls hl
  have hx := E.1
  have hb := E.2.1
  have hown := E.2.2.1
  have hts := E.2.2.2.1
  have hS : SS (fun q => q = ρ (ρ a0 2) 2) H H [] := SS.rf
  have hl : lv_has ls 10 [(0, .ref a0), (1, .int x0), (2, .int x1)] := hl
  refine lv_iload_n hx hb dX11_drive_0 rfl (lv_at hl 1 rfl) ?_
  refine lv_if_lt (tgt := 22) hx hb dX11_drive_1 (by decide) (fun c_1 => False.elim (by (have : (0 : Int32).toInt = 0 := (by decide); have : x0.toInt < (0 : Int32).toInt := Int32.lt_iff_toInt_lt.mp c_1; omega))) (fun c_1 => ?_)
  refine lv_iload_n hx hb dX11_drive_4 rfl (lv_at hl 1 rfl) ?_
  refine lv_sipush (v := 9999) hx hb dX11_drive_5 (by decide) ?_
  refine lv_icmp_gt (tgt := 22) hx hb dX11_drive_8 (by decide) (fun c_2 => False.elim (by (have : (9999 : Int32).toInt = 9999 := (by decide); have : (9999 : Int32).toInt < x0.toInt := Int32.lt_iff_toInt_lt.mp c_2; omega))) (fun c_2 => ?_)
  refine lv_iload_n hx hb dX11_drive_11 rfl (lv_at hl 2 rfl) ?_
  refine lv_iconst (v := 1) hx hb dX11_drive_12 (by decide) ?_
  refine lv_icmp_lt (tgt := 22) hx hb dX11_drive_13 (by decide) (fun c_3 => False.elim (by (have : (1 : Int32).toInt = 1 := (by decide); have : x1.toInt < (1 : Int32).toInt := Int32.lt_iff_toInt_lt.mp c_3; omega))) (fun c_3 => ?_)
  refine lv_iload_n hx hb dX11_drive_16 rfl (lv_at hl 2 rfl) ?_
  refine lv_bipush (v := 60) hx hb dX11_drive_17 (by decide) ?_
  refine lv_icmp_le (tgt := 24) hx hb dX11_drive_19 (by decide) (fun c_4 => ?_) (fun c_4 => False.elim (by (have : (60 : Int32).toInt = 60 := (by decide); have : ¬ x1.toInt ≤ (60 : Int32).toInt := fun q => c_4 (Int32.le_iff_toInt_le.mpr q); omega)))
  refine lv_iconst (v := 0) hx hb dX11_drive_24 (by decide) ?_
  refine lv_istore_n (lv' := [(3, .int 0), (0, .ref a0), (1, .int x0), (2, .int x1)]) hx hb dX11_drive_25 rfl hl (by decide) rfl (fun ls hl => ?_)
  have loop_5 : ∀ (f_5 i_5 : Nat) (H_5 : Heap) (locs_5 : List Loc), TH D cI cS τ ρ H_5 → SS (fun q => q = ρ (ρ a0 2) 2) H H_5 locs_5 → (∀ q : Nat, ¬ (q = ρ (ρ a0 2) 2) → H_5[q]? = H[q]?) → (i_5 : Int) ≤ x1.toInt → (fi D 0 0 H_5 (ρ (ρ a0 2) 2) = nI i_5) → (x1.toInt - (i_5 : Int)).toNat < f_5 → ∀ ls : Array Slot, lv_has ls 10 [(3, .int (nI i_5)), (0, .ref a0), (1, .int x0), (2, .int x1)] → W p l e (rmO 2 40) s m args below meth c H_5 locs_5 0 0 (MQ below (va_Qi (fun (r : Int32) (u : Heap) => 0 = r) (Bt D cI cS τ ρ H) (fun q => q = ρ (ρ a0 2) 2)) args s 0 0 (fun q => q = ρ (ρ a0 2) 2)) (F0 m 26 ls []) := by
    intro f_5
    induction f_5 with
    | zero => intro i_5 H_5 locs_5 hT_5 hS_5 hk_5 hi_5 hv_5 hm_5; exact absurd hm_5 (Nat.not_lt_zero _)
    | succ f_5 ih_5 =>
      intro i_5 H_5 locs_5 hT_5 hS_5 hk_5 hi_5 hv_5 hm_5 ls hl
      refine lv_iload_n hx hb dX11_drive_26 rfl (lv_at hl 0 rfl) ?_
      refine lv_iload_n hx hb dX11_drive_27 rfl (lv_at hl 3 rfl) ?_
      refine lv_icmp_ge (tgt := 175) hx hb dX11_drive_28 (by decide) (fun c_6 => ?_) (fun c_6 => ?_)
      · have en_5 := nI_toInt (n := i_5) (by omega)
        have hb_5 := Int32.le_iff_toInt_le.mp c_6
        refine lv_aload_n hx hb dX11_drive_175 rfl (lv_at hl 1 rfl) ?_
        refine gf_X11_26 E hT_5 hW ha0 dX11_drive_176 (fun h_7 => ?_)
        refine gf_X11_86 E hT_5 hW h_7 dX11_drive_179 (fun h_8 => ?_)
        refine gf_X11_90 E hT_5 h_8 dX11_drive_182 ?_
        refine th_topi (y := 0) (Eq.trans (fi_q (hk_5 _ hn_3)) hf_4) ?_
        exact th_iret E hr hlk hs hT_5 hS_5 rfl dX11_drive_185
      · have en_5 := nI_toInt (n := i_5) (by omega)
        have hb_5 := Int32.not_le.mp c_6
        have hb_5 := Int32.lt_iff_toInt_lt.mp hb_5
        refine lv_ldc2 (v := 7919) hx hb hown (hts _ qw_1201) dX11_drive_31 ?_
        refine lv_iload_n hx hb dX11_drive_34 rfl (lv_at hl 2 rfl) ?_
        refine lv_i2l (v := x0.toInt64) hx hb dX11_drive_35 rfl ?_
        refine lv_lmul hx hb dX11_drive_36 ?_
        refine lv_ldc2 (v := 6151) hx hb hown (hts _ qw_1202) dX11_drive_37 ?_
        refine lv_iload_n hx hb dX11_drive_40 rfl (lv_at hl 0 rfl) ?_
        refine lv_i2l (v := (nI i_5).toInt64) hx hb dX11_drive_41 rfl ?_
        refine lv_lmul hx hb dX11_drive_42 ?_
        refine lv_ladd hx hb dX11_drive_43 ?_
        refine lv_lconst (v := 1) hx hb dX11_drive_44 (by decide) ?_
        refine lv_ladd hx hb dX11_drive_45 ?_
        refine lv_lstore (lv' := [(4, .long (((7919 * x0.toInt64) + (6151 * ((nI i_5).toInt64))) + 1)), (3, .int (nI i_5)), (0, .ref a0), (1, .int x0), (2, .int x1)]) hx hb dX11_drive_46 hl (by decide) rfl (fun ls hl => ?_)
        refine lv_lload hx hb dX11_drive_48 (lv_at hl 0 rfl) ?_
        refine lv_lload hx hb dX11_drive_50 (lv_at hl 0 rfl) ?_
        refine lv_lmul hx hb dX11_drive_52 ?_
        refine lv_topl (fun x_9 ex_9 => ?_)
        refine lv_ldc2 (v := 65521) hx hb hown (hts _ qw_1203) dX11_drive_53 ?_
        refine lv_lrem hx hb dX11_drive_56 (by decide) ?_
        refine lv_topl (fun x_10 ex_10 => ?_)
        refine lv_l2i (v := x_10.toInt32) hx hb dX11_drive_57 rfl ?_
        refine lv_topi (fun x_11 ex_11 => ?_)
        refine lv_istore (lv' := [(6, .int x_11), (4, .long (((7919 * x0.toInt64) + (6151 * ((nI i_5).toInt64))) + 1)), (3, .int (nI i_5)), (0, .ref a0), (1, .int x0), (2, .int x1)]) hx hb dX11_drive_58 hl (by decide) rfl (fun ls hl => ?_)
        refine lv_aload_n hx hb dX11_drive_60 rfl (lv_at hl 3 rfl) ?_
        refine gf_X11_26 E hT_5 hW ha0 dX11_drive_61 (fun h_12 => ?_)
        refine gf_X11_86 E hT_5 hW h_12 dX11_drive_64 (fun h_13 => ?_)
        refine gf_X11_90 E hT_5 h_13 dX11_drive_67 ?_
        refine th_topi (y := 0) (Eq.trans (fi_q (hk_5 _ hn_3)) hf_4) ?_
        refine lv_istore (lv' := [(7, .int 0), (6, .int x_11), (4, .long (((7919 * x0.toInt64) + (6151 * ((nI i_5).toInt64))) + 1)), (3, .int (nI i_5)), (0, .ref a0), (1, .int x0), (2, .int x1)]) hx hb dX11_drive_70 hl (by decide) rfl (fun ls hl => ?_)
        refine lv_iload hx hb dX11_drive_72 (lv_at hl 0 rfl) ?_
        refine lv_if_eq (tgt := 85) hx hb dX11_drive_74 (by decide) (fun c_14 => ?_) (fun c_14 => absurd (by decide) c_14)
        refine lv_aload_n hx hb dX11_drive_85 rfl (lv_at hl 4 rfl) ?_
        refine gf_X11_26 E hT_5 hW ha0 dX11_drive_86 (fun h_15 => ?_)
        refine th_Vv (As := []) (rest := []) E hml hl.1 (c_X4_tick l D cI cS τ ρ hW H_5 hT_5 (ρ a0 2) h_12 (Eq.trans (fi_q (hk_5 _ hn_5)) hf_6) (Eq.trans (fi_q (hk_5 _ hn_5)) hf_7) (Eq.trans (fi_q (hk_5 _ hn_8)) hf_9) (Eq.trans (fi_q (hk_5 _ hn_8)) hf_10)) lk_X11_171 yd_X4_tick hT_5 h_12 rfl (by decide) hS_5 (fun q h => h) ⟨by decide, by decide⟩ (Nat.le_of_ble_eq_true rfl) ⟨by decide, by decide⟩ rfl dX11_drive_89 (fun H_16 locs_16 p_16 hT_16 hk_16 hS_16 => ?_)
        have p_16 : fi D 0 0 H_16 (ρ (ρ a0 2) 2) = (fi D 0 0 H_5 (ρ (ρ a0 2) 2)) + 1 := p_16
        have p_16_0 := p_16
        refine lv_goto (tgt := 169) hx hb dX11_drive_92 (by decide) ?_
        obtain ⟨x_17, ex_17⟩ : ∃ y : Int32, nI i_5 + 1 = y := ⟨_, rfl⟩
        refine lv_iinc (v := x_17) (lv' := [(3, .int x_17), (7, .int 0), (6, .int x_11), (4, .long (((7919 * x0.toInt64) + (6151 * ((nI i_5).toInt64))) + 1)), (0, .ref a0), (1, .int x0), (2, .int x1)]) hx hb dX11_drive_169 hl (k := 3) rfl (by rw [← ex_17]; rfl) (by decide) rfl (fun ls hl => ?_)
        refine lv_goto (tgt := 26) hx hb dX11_drive_172 (by decide) ?_
        have en_5 : x_17 = nI (i_5 + 1) := by rw [← ex_17]; exact nI_1 _
        subst en_5
        exact ih_5 (i_5 + 1) H_16 locs_16 hT_16 hS_16 (fun q hn => (Eq.trans (hk_16 q (fun h => hn h)) (hk_5 q hn))) (by omega) (p_16_0.trans (by rw [hv_5]; exact nI_1 i_5)) (by omega) ls (lv_sub hl [0, 4, 5, 6] rfl)
  exact loop_5 (((x1.toInt : Int) - 0).toNat + 1) 0 H [] hT hS (fun _ _ => rfl) (by omega) (hf_11.trans nI_0.symm) (by omega) ls (lv_sub hl [0, 1, 2, 3] rfl)
set_option maxHeartbeats 4000000 in
set_option maxRecDepth 100000 in
/-- StreamEnds.drive -/
theorem c_X11_drive_v5 (l : Launch) (D : va_G) (cI cS : ClassId) (τ : Nat → Option Nat) (ρ : Nat → Nat → Nat) (hW : WF τ ρ) (H : Heap) (hT : TH D cI cS τ ρ H) (a0 : Nat) (x0 : Int32) (x1 : Int32) (ha0 : τ a0 = some 11) (bl_x0 : 0 ≤ x0.toInt) (bh_x0 : x0.toInt ≤ 9999) (bl_x1 : 61 ≤ x1.toInt) : MI l D cI cS τ ρ yX11_drive cX11_drive 10 (some .int) 0 0 H [.ref a0, .int x0, .int x1] (fun (r : Int32) (u : Heap) => H = u ∧ (-1) = r) (fun q => False) := by
  refine MI.of (by decide) (Nat.le_of_ble_eq_true rfl) ?_
  intro p e s m args below meth c E hml hr hlk hs ls hl
  have hx := E.1
  have hb := E.2.1
  have hown := E.2.2.1
  have hts := E.2.2.2.1
  have hS : SS (fun q => False) H H [] := SS.rf
  have hl : lv_has ls 10 [(0, .ref a0), (1, .int x0), (2, .int x1)] := hl
  refine lv_iload_n hx hb dX11_drive_0 rfl (lv_at hl 1 rfl) ?_
  refine lv_if_lt (tgt := 22) hx hb dX11_drive_1 (by decide) (fun c_1 => False.elim (by (have : (0 : Int32).toInt = 0 := (by decide); have : x0.toInt < (0 : Int32).toInt := Int32.lt_iff_toInt_lt.mp c_1; omega))) (fun c_1 => ?_)
  refine lv_iload_n hx hb dX11_drive_4 rfl (lv_at hl 1 rfl) ?_
  refine lv_sipush (v := 9999) hx hb dX11_drive_5 (by decide) ?_
  refine lv_icmp_gt (tgt := 22) hx hb dX11_drive_8 (by decide) (fun c_2 => False.elim (by (have : (9999 : Int32).toInt = 9999 := (by decide); have : (9999 : Int32).toInt < x0.toInt := Int32.lt_iff_toInt_lt.mp c_2; omega))) (fun c_2 => ?_)
  refine lv_iload_n hx hb dX11_drive_11 rfl (lv_at hl 2 rfl) ?_
  refine lv_iconst (v := 1) hx hb dX11_drive_12 (by decide) ?_
  refine lv_icmp_lt (tgt := 22) hx hb dX11_drive_13 (by decide) (fun c_3 => False.elim (by (have : (1 : Int32).toInt = 1 := (by decide); have : x1.toInt < (1 : Int32).toInt := Int32.lt_iff_toInt_lt.mp c_3; omega))) (fun c_3 => ?_)
  refine lv_iload_n hx hb dX11_drive_16 rfl (lv_at hl 2 rfl) ?_
  refine lv_bipush (v := 60) hx hb dX11_drive_17 (by decide) ?_
  refine lv_icmp_le (tgt := 24) hx hb dX11_drive_19 (by decide) (fun c_4 => False.elim (by (have : (60 : Int32).toInt = 60 := (by decide); have : x1.toInt ≤ (60 : Int32).toInt := Int32.le_iff_toInt_le.mp c_4; omega))) (fun c_4 => ?_)
  refine lv_iconst (v := (-1)) hx hb dX11_drive_22 (by decide) ?_
  exact th_iret E hr hlk hs hT hS ⟨rfl, rfl⟩ dX11_drive_23
set_option maxHeartbeats 4000000 in
set_option maxRecDepth 100000 in
/-- StreamEnds.calm -/
theorem c_X11_calm (l : Launch) (D : va_G) (cI cS : ClassId) (τ : Nat → Option Nat) (ρ : Nat → Nat → Nat) (hW : WF τ ρ) (H : Heap) (hT : TH D cI cS τ ρ H) (a0 : Nat) (x0 : Int32) (ha0 : τ a0 = some 11) (bh_x0 : x0.toInt ≤ -1) : MI l D cI cS τ ρ yX11_calm cX11_calm 5 (some .int) 0 0 H [.ref a0, .int x0] (fun (r : Int32) (u : Heap) => H = u ∧ (-1) = r) (fun q => False) := by
  refine MI.of (by decide) (Nat.le_of_ble_eq_true rfl) ?_
  intro p e s m args below meth c E hml hr hlk hs ls hl
  have hx := E.1
  have hb := E.2.1
  have hown := E.2.2.1
  have hts := E.2.2.2.1
  have hS : SS (fun q => False) H H [] := SS.rf
  have hl : lv_has ls 5 [(0, .ref a0), (1, .int x0)] := hl
  refine lv_iload_n hx hb dX11_calm_0 rfl (lv_at hl 1 rfl) ?_
  refine lv_if_lt (tgt := 9) hx hb dX11_calm_1 (by decide) (fun c_1 => ?_) (fun c_1 => False.elim (by (have : (0 : Int32).toInt = 0 := (by decide); have : ¬ x0.toInt < (0 : Int32).toInt := fun q => c_1 (Int32.lt_iff_toInt_lt.mpr q); omega)))
  refine lv_iconst (v := (-1)) hx hb dX11_calm_9 (by decide) ?_
  exact th_iret E hr hlk hs hT hS ⟨rfl, rfl⟩ dX11_calm_10
set_option maxHeartbeats 4000000 in
set_option maxRecDepth 100000 in
/-- StreamEnds$Config.copyFrom -/
theorem c_X1_copyFrom_v2 (l : Launch) (D : va_G) (cI cS : ClassId) (τ : Nat → Option Nat) (ρ : Nat → Nat → Nat) (hW : WF τ ρ) (H : Heap) (hT : TH D cI cS τ ρ H) (a0 : Nat) (a1 : Nat) (ha0 : τ a0 = some 1) (ha1 : τ a1 = some 1) (hf_1 : fi D 1 0 H a1 = 4) (hn_2 : a1 ≠ a0) (hf_3 : fi D 1 1 H a1 = 12) (hf_4 : fi D 1 2 H a1 = 250) (hf_5 : fi D 1 3 H a1 = 100) (hf_6 : fi D 1 4 H a1 = 5) : MV l D cI cS τ ρ yX1_copyFrom cX1_copyFrom 2 none 0 0 H [.ref a0, .ref a1] (fun (u : Heap) => fi D 1 0 u a0 = 4 ∧ fi D 1 1 u a0 = 12 ∧ fi D 1 2 u a0 = 250 ∧ fi D 1 3 u a0 = 100 ∧ fi D 1 4 u a0 = 5) (fun q => q = a0) := by
  refine MV.of (by decide) (Nat.le_of_ble_eq_true rfl) ?_
  intro p e s m args below meth c E hml hr hlk hs ls hl
  have hx := E.1
  have hb := E.2.1
  have hown := E.2.2.1
  have hts := E.2.2.2.1
  have hS : SS (fun q => q = a0) H H [] := SS.rf
  have hl : lv_has ls 2 [(0, .ref a0), (1, .ref a1)] := hl
  refine lv_aload_n hx hb dX1_copyFrom_0 rfl (lv_at hl 0 rfl) ?_
  refine lv_aload_n hx hb dX1_copyFrom_1 rfl (lv_at hl 1 rfl) ?_
  refine gf_X1_14 E hT ha1 dX1_copyFrom_2 ?_
  refine th_topi (y := 4) hf_1 ?_
  refine pf_X1_14 E hT hS ha0 rfl dX1_copyFrom_5 (fun H_1 locs_1 hT_1 hU_1 hS_1 => ?_)
  refine lv_aload_n hx hb dX1_copyFrom_8 rfl (lv_at hl 0 rfl) ?_
  refine lv_aload_n hx hb dX1_copyFrom_9 rfl (lv_at hl 1 rfl) ?_
  refine gf_X1_18 E hT_1 ha1 dX1_copyFrom_10 ?_
  refine th_topi (y := 12) (Eq.trans (fi_q (hU_1.2.2 _ hn_2)) hf_3) ?_
  refine pf_X1_18 E hT_1 hS_1 ha0 rfl dX1_copyFrom_13 (fun H_2 locs_2 hT_2 hU_2 hS_2 => ?_)
  refine lv_aload_n hx hb dX1_copyFrom_16 rfl (lv_at hl 0 rfl) ?_
  refine lv_aload_n hx hb dX1_copyFrom_17 rfl (lv_at hl 1 rfl) ?_
  refine gf_X1_21 E hT_2 ha1 dX1_copyFrom_18 ?_
  refine th_topi (y := 250) (Eq.trans (fi_q (hU_2.2.2 _ hn_2)) (Eq.trans (fi_q (hU_1.2.2 _ hn_2)) hf_4)) ?_
  refine pf_X1_21 E hT_2 hS_2 ha0 rfl dX1_copyFrom_21 (fun H_3 locs_3 hT_3 hU_3 hS_3 => ?_)
  refine lv_aload_n hx hb dX1_copyFrom_24 rfl (lv_at hl 0 rfl) ?_
  refine lv_aload_n hx hb dX1_copyFrom_25 rfl (lv_at hl 1 rfl) ?_
  refine gf_X1_24 E hT_3 ha1 dX1_copyFrom_26 ?_
  refine th_topi (y := 100) (Eq.trans (fi_q (hU_3.2.2 _ hn_2)) (Eq.trans (fi_q (hU_2.2.2 _ hn_2)) (Eq.trans (fi_q (hU_1.2.2 _ hn_2)) hf_5))) ?_
  refine pf_X1_24 E hT_3 hS_3 ha0 rfl dX1_copyFrom_29 (fun H_4 locs_4 hT_4 hU_4 hS_4 => ?_)
  refine lv_aload_n hx hb dX1_copyFrom_32 rfl (lv_at hl 0 rfl) ?_
  refine lv_aload_n hx hb dX1_copyFrom_33 rfl (lv_at hl 1 rfl) ?_
  refine gf_X1_27 E hT_4 ha1 dX1_copyFrom_34 ?_
  refine th_topi (y := 5) (Eq.trans (fi_q (hU_4.2.2 _ hn_2)) (Eq.trans (fi_q (hU_3.2.2 _ hn_2)) (Eq.trans (fi_q (hU_2.2.2 _ hn_2)) (Eq.trans (fi_q (hU_1.2.2 _ hn_2)) hf_6)))) ?_
  refine pf_X1_27 E hT_4 hS_4 ha0 rfl dX1_copyFrom_37 (fun H_5 locs_5 hT_5 hU_5 hS_5 => ?_)
  exact th_vret E hr hlk hs hT_5 hS_5 ⟨(Eq.trans (PU.io hU_5 (j := 0) (by decide) (by decide)) (Eq.trans (PU.io hU_4 (j := 0) (by decide) (by decide)) (Eq.trans (PU.io hU_3 (j := 0) (by decide) (by decide)) (Eq.trans (PU.io hU_2 (j := 0) (by decide) (by decide)) (PU.i hU_1))))), (Eq.trans (PU.io hU_5 (j := 1) (by decide) (by decide)) (Eq.trans (PU.io hU_4 (j := 1) (by decide) (by decide)) (Eq.trans (PU.io hU_3 (j := 1) (by decide) (by decide)) (PU.i hU_2)))), (Eq.trans (PU.io hU_5 (j := 2) (by decide) (by decide)) (Eq.trans (PU.io hU_4 (j := 2) (by decide) (by decide)) (PU.i hU_3))), (Eq.trans (PU.io hU_5 (j := 3) (by decide) (by decide)) (PU.i hU_4)), (PU.i hU_5)⟩ dX1_copyFrom_40
set_option maxHeartbeats 4000000 in
set_option maxRecDepth 100000 in
/-- StreamEnds$Wire.copyFrom -/
theorem c_X10_copyFrom (l : Launch) (D : va_G) (cI cS : ClassId) (τ : Nat → Option Nat) (ρ : Nat → Nat → Nat) (hW : WF τ ρ) (H : Heap) (hT : TH D cI cS τ ρ H) (a0 : Nat) (a1 : Nat) (ha0 : τ a0 = some 10) (ha1 : τ a1 = some 10) (hf_1 : fi D 10 2 H a1 = 0) (hn_2 : a1 ≠ a0) (hf_3 : fi D 10 3 H a1 = 0) (hf_4 : fi D 10 4 H a1 = 0) (hf_5 : fi D 10 5 H a1 = 0) : MV l D cI cS τ ρ yX10_copyFrom cX10_copyFrom 3 none 0 0 H [.ref a0, .ref a1] (fun (u : Heap) => fi D 10 2 u a0 = 0 ∧ fi D 10 3 u a0 = 0 ∧ fi D 10 4 u a0 = 0 ∧ fi D 10 5 u a0 = 0) (fun q => q = a0) := by
  refine MV.of (by decide) (Nat.le_of_ble_eq_true rfl) ?_
  intro p e s m args below meth c E hml hr hlk hs ls hl
  have hx := E.1
  have hb := E.2.1
  have hown := E.2.2.1
  have hts := E.2.2.2.1
  have hS : SS (fun q => q = a0) H H [] := SS.rf
  have hl : lv_has ls 3 [(0, .ref a0), (1, .ref a1)] := hl
  refine lv_aload_n hx hb dX10_copyFrom_0 rfl (lv_at hl 0 rfl) ?_
  refine lv_aload_n hx hb dX10_copyFrom_1 rfl (lv_at hl 1 rfl) ?_
  refine gf_X10_22 E hT ha1 dX10_copyFrom_2 ?_
  refine th_topi (y := 0) hf_1 ?_
  refine pf_X10_22 E hT hS ha0 rfl dX10_copyFrom_5 (fun H_1 locs_1 hT_1 hU_1 hS_1 => ?_)
  refine lv_aload_n hx hb dX10_copyFrom_8 rfl (lv_at hl 0 rfl) ?_
  refine lv_aload_n hx hb dX10_copyFrom_9 rfl (lv_at hl 1 rfl) ?_
  refine gf_X10_26 E hT_1 ha1 dX10_copyFrom_10 ?_
  refine th_topi (y := 0) (Eq.trans (fi_q (hU_1.2.2 _ hn_2)) hf_3) ?_
  refine pf_X10_26 E hT_1 hS_1 ha0 rfl dX10_copyFrom_13 (fun H_2 locs_2 hT_2 hU_2 hS_2 => ?_)
  refine lv_aload_n hx hb dX10_copyFrom_16 rfl (lv_at hl 0 rfl) ?_
  refine lv_aload_n hx hb dX10_copyFrom_17 rfl (lv_at hl 1 rfl) ?_
  refine gf_X10_29 E hT_2 ha1 dX10_copyFrom_18 ?_
  refine th_topi (y := 0) (Eq.trans (fi_q (hU_2.2.2 _ hn_2)) (Eq.trans (fi_q (hU_1.2.2 _ hn_2)) hf_4)) ?_
  refine pf_X10_29 E hT_2 hS_2 ha0 rfl dX10_copyFrom_21 (fun H_3 locs_3 hT_3 hU_3 hS_3 => ?_)
  refine lv_aload_n hx hb dX10_copyFrom_24 rfl (lv_at hl 0 rfl) ?_
  refine lv_aload_n hx hb dX10_copyFrom_25 rfl (lv_at hl 1 rfl) ?_
  refine gf_X10_32 E hT_3 ha1 dX10_copyFrom_26 ?_
  refine th_topi (y := 0) (Eq.trans (fi_q (hU_3.2.2 _ hn_2)) (Eq.trans (fi_q (hU_2.2.2 _ hn_2)) (Eq.trans (fi_q (hU_1.2.2 _ hn_2)) hf_5))) ?_
  refine pf_X10_32 E hT_3 hS_3 ha0 rfl dX10_copyFrom_29 (fun H_4 locs_4 hT_4 hU_4 hS_4 => ?_)
  refine lv_iconst (v := 0) hx hb dX10_copyFrom_32 (by decide) ?_
  refine lv_istore_n (lv' := [(2, .int 0), (0, .ref a0), (1, .ref a1)]) hx hb dX10_copyFrom_33 rfl hl (by decide) rfl (fun ls hl => ?_)
  refine lv_iload_n hx hb dX10_copyFrom_34 rfl (lv_at hl 0 rfl) ?_
  refine lv_aload_n hx hb dX10_copyFrom_35 rfl (lv_at hl 1 rfl) ?_
  refine gf_X10_22 E hT_4 ha0 dX10_copyFrom_36 ?_
  refine th_topi (y := 0) (Eq.trans (PU.io hU_4 (j := 2) (by decide) (by decide)) (Eq.trans (PU.io hU_3 (j := 2) (by decide) (by decide)) (Eq.trans (PU.io hU_2 (j := 2) (by decide) (by decide)) (PU.i hU_1)))) ?_
  refine lv_icmp_ge (tgt := 69) hx hb dX10_copyFrom_39 (by decide) (fun c_5 => ?_) (fun c_5 => absurd (by decide) c_5)
  exact th_vret E hr hlk hs hT_4 hS_4 ⟨(Eq.trans (PU.io hU_4 (j := 2) (by decide) (by decide)) (Eq.trans (PU.io hU_3 (j := 2) (by decide) (by decide)) (Eq.trans (PU.io hU_2 (j := 2) (by decide) (by decide)) (PU.i hU_1)))), (Eq.trans (PU.io hU_4 (j := 3) (by decide) (by decide)) (Eq.trans (PU.io hU_3 (j := 3) (by decide) (by decide)) (PU.i hU_2))), (Eq.trans (PU.io hU_4 (j := 4) (by decide) (by decide)) (PU.i hU_3)), (PU.i hU_4)⟩ dX10_copyFrom_69
set_option maxHeartbeats 4000000 in
set_option maxRecDepth 100000 in
/-- StreamEnds$Outgoing.copyFrom -/
theorem c_X5_copyFrom (l : Launch) (D : va_G) (cI cS : ClassId) (τ : Nat → Option Nat) (ρ : Nat → Nat → Nat) (hW : WF τ ρ) (H : Heap) (hT : TH D cI cS τ ρ H) (a0 : Nat) (a1 : Nat) (ha0 : τ a0 = some 5) (ha1 : τ a1 = some 5) (hf_1 : fi D 5 0 H a1 = 0) (hn_2 : a1 ≠ a0) (hf_3 : fi D 5 1 H a1 = 0) (hf_4 : fi D 5 2 H a1 = 1) (hf_5 : fi D 5 3 H a1 = 0) (hf_6 : fi D 5 4 H a1 = 0) (hf_7 : fi D 5 5 H a1 = 0) (hf_8 : fl D 5 6 H a1 = 0) : MV l D cI cS τ ρ yX5_copyFrom cX5_copyFrom 2 none 1 40 H [.ref a0, .ref a1] (fun (u : Heap) => fi D 5 0 u a0 = 0 ∧ fi D 5 1 u a0 = 0 ∧ fi D 5 2 u a0 = 1 ∧ fi D 5 3 u a0 = 0 ∧ fi D 5 4 u a0 = 0 ∧ fi D 5 5 u a0 = 0 ∧ fl D 5 6 u a0 = 0) (fun q => q = a0 ∨ q = ρ a0 7) := by
  refine MV.of (by decide) (Nat.le_of_ble_eq_true rfl) ?_
  intro p e s m args below meth c E hml hr hlk hs ls hl
  have hx := E.1
  have hb := E.2.1
  have hown := E.2.2.1
  have hts := E.2.2.2.1
  have hS : SS (fun q => q = a0 ∨ q = ρ a0 7) H H [] := SS.rf
  have hl : lv_has ls 2 [(0, .ref a0), (1, .ref a1)] := hl
  refine lv_aload_n hx hb dX5_copyFrom_0 rfl (lv_at hl 0 rfl) ?_
  refine lv_aload_n hx hb dX5_copyFrom_1 rfl (lv_at hl 1 rfl) ?_
  refine gf_X5_15 E hT ha1 dX5_copyFrom_2 ?_
  refine th_topi (y := 0) hf_1 ?_
  refine pf_X5_15 E hT hS ha0 (Or.inl rfl) dX5_copyFrom_5 (fun H_1 locs_1 hT_1 hU_1 hS_1 => ?_)
  refine lv_aload_n hx hb dX5_copyFrom_8 rfl (lv_at hl 0 rfl) ?_
  refine lv_aload_n hx hb dX5_copyFrom_9 rfl (lv_at hl 1 rfl) ?_
  refine gf_X5_19 E hT_1 ha1 dX5_copyFrom_10 ?_
  refine th_topi (y := 0) (Eq.trans (fi_q (hU_1.2.2 _ hn_2)) hf_3) ?_
  refine pf_X5_19 E hT_1 hS_1 ha0 (Or.inl rfl) dX5_copyFrom_13 (fun H_2 locs_2 hT_2 hU_2 hS_2 => ?_)
  refine lv_aload_n hx hb dX5_copyFrom_16 rfl (lv_at hl 0 rfl) ?_
  refine lv_aload_n hx hb dX5_copyFrom_17 rfl (lv_at hl 1 rfl) ?_
  refine gf_X5_22 E hT_2 ha1 dX5_copyFrom_18 ?_
  refine th_topi (y := 1) (Eq.trans (fi_q (hU_2.2.2 _ hn_2)) (Eq.trans (fi_q (hU_1.2.2 _ hn_2)) hf_4)) ?_
  refine pf_X5_22 E hT_2 hS_2 ha0 (Or.inl rfl) dX5_copyFrom_21 (fun H_3 locs_3 hT_3 hU_3 hS_3 => ?_)
  refine lv_aload_n hx hb dX5_copyFrom_24 rfl (lv_at hl 0 rfl) ?_
  refine lv_aload_n hx hb dX5_copyFrom_25 rfl (lv_at hl 1 rfl) ?_
  refine gf_X5_25 E hT_3 ha1 dX5_copyFrom_26 ?_
  refine th_topi (y := 0) (Eq.trans (fi_q (hU_3.2.2 _ hn_2)) (Eq.trans (fi_q (hU_2.2.2 _ hn_2)) (Eq.trans (fi_q (hU_1.2.2 _ hn_2)) hf_5))) ?_
  refine pf_X5_25 E hT_3 hS_3 ha0 (Or.inl rfl) dX5_copyFrom_29 (fun H_4 locs_4 hT_4 hU_4 hS_4 => ?_)
  refine lv_aload_n hx hb dX5_copyFrom_32 rfl (lv_at hl 0 rfl) ?_
  refine lv_aload_n hx hb dX5_copyFrom_33 rfl (lv_at hl 1 rfl) ?_
  refine gf_X5_28 E hT_4 ha1 dX5_copyFrom_34 ?_
  refine th_topi (y := 0) (Eq.trans (fi_q (hU_4.2.2 _ hn_2)) (Eq.trans (fi_q (hU_3.2.2 _ hn_2)) (Eq.trans (fi_q (hU_2.2.2 _ hn_2)) (Eq.trans (fi_q (hU_1.2.2 _ hn_2)) hf_6)))) ?_
  refine pf_X5_28 E hT_4 hS_4 ha0 (Or.inl rfl) dX5_copyFrom_37 (fun H_5 locs_5 hT_5 hU_5 hS_5 => ?_)
  refine lv_aload_n hx hb dX5_copyFrom_40 rfl (lv_at hl 0 rfl) ?_
  refine lv_aload_n hx hb dX5_copyFrom_41 rfl (lv_at hl 1 rfl) ?_
  refine gf_X5_31 E hT_5 ha1 dX5_copyFrom_42 ?_
  refine th_topi (y := 0) (Eq.trans (fi_q (hU_5.2.2 _ hn_2)) (Eq.trans (fi_q (hU_4.2.2 _ hn_2)) (Eq.trans (fi_q (hU_3.2.2 _ hn_2)) (Eq.trans (fi_q (hU_2.2.2 _ hn_2)) (Eq.trans (fi_q (hU_1.2.2 _ hn_2)) hf_7))))) ?_
  refine pf_X5_31 E hT_5 hS_5 ha0 (Or.inl rfl) (Or.inl rfl) dX5_copyFrom_45 (fun H_6 locs_6 hT_6 hU_6 hS_6 => ?_)
  refine lv_aload_n hx hb dX5_copyFrom_48 rfl (lv_at hl 0 rfl) ?_
  refine lv_aload_n hx hb dX5_copyFrom_49 rfl (lv_at hl 1 rfl) ?_
  refine gf_X5_35 E hT_6 ha1 dX5_copyFrom_50 ?_
  refine th_topl (y := 0) (Eq.trans (fl_q (hU_6.2.2 _ hn_2)) (Eq.trans (fl_q (hU_5.2.2 _ hn_2)) (Eq.trans (fl_q (hU_4.2.2 _ hn_2)) (Eq.trans (fl_q (hU_3.2.2 _ hn_2)) (Eq.trans (fl_q (hU_2.2.2 _ hn_2)) (Eq.trans (fl_q (hU_1.2.2 _ hn_2)) hf_8)))))) ?_
  refine pf_X5_35 E hT_6 hS_6 ha0 (Or.inl rfl) dX5_copyFrom_53 (fun H_7 locs_7 hT_7 hU_7 hS_7 => ?_)
  refine lv_aload_n hx hb dX5_copyFrom_56 rfl (lv_at hl 1 rfl) ?_
  refine gf_X5_9 E hT_7 hW ha1 dX5_copyFrom_57 (fun h_8 => ?_)
  refine lv_iconst (v := 0) hx hb dX5_copyFrom_60 (by decide) ?_
  refine lv_aload_n hx hb dX5_copyFrom_61 rfl (lv_at hl 0 rfl) ?_
  refine gf_X5_9 E hT_7 hW ha0 dX5_copyFrom_62 (fun h_9 => ?_)
  refine lv_iconst (v := 0) hx hb dX5_copyFrom_65 (by decide) ?_
  refine lv_bipush (v := 64) hx hb dX5_copyFrom_66 (by decide) ?_
  refine cp_X5_39 (t := 164) (a0 := (ρ a1 7)) (a := (ρ a0 7)) (sp := 0) (dp := 0) (n := 64) (rest := []) E hml hl.1 hT_7 hS_7 h_8 h_9 (Or.inr rfl) (by decide) (by decide) (by decide) (by decide) (by decide) (by decide) (by decide) (Nat.le_of_ble_eq_true rfl) dX5_copyFrom_68 (fun H_10 locs_10 hT_10 hk_10 hS_10 => ?_)
  exact th_vret E hr hlk hs hT_10 hS_10 ⟨(Eq.trans (fi_q (hk_10 _ (th_ne ha0 h_9 (by decide)))) (Eq.trans (PU.io hU_7 (j := 0) (by decide) (by decide)) (Eq.trans (PU.io hU_6 (j := 0) (by decide) (by decide)) (Eq.trans (PU.io hU_5 (j := 0) (by decide) (by decide)) (Eq.trans (PU.io hU_4 (j := 0) (by decide) (by decide)) (Eq.trans (PU.io hU_3 (j := 0) (by decide) (by decide)) (Eq.trans (PU.io hU_2 (j := 0) (by decide) (by decide)) (PU.i hU_1)))))))), (Eq.trans (fi_q (hk_10 _ (th_ne ha0 h_9 (by decide)))) (Eq.trans (PU.io hU_7 (j := 1) (by decide) (by decide)) (Eq.trans (PU.io hU_6 (j := 1) (by decide) (by decide)) (Eq.trans (PU.io hU_5 (j := 1) (by decide) (by decide)) (Eq.trans (PU.io hU_4 (j := 1) (by decide) (by decide)) (Eq.trans (PU.io hU_3 (j := 1) (by decide) (by decide)) (PU.i hU_2))))))), (Eq.trans (fi_q (hk_10 _ (th_ne ha0 h_9 (by decide)))) (Eq.trans (PU.io hU_7 (j := 2) (by decide) (by decide)) (Eq.trans (PU.io hU_6 (j := 2) (by decide) (by decide)) (Eq.trans (PU.io hU_5 (j := 2) (by decide) (by decide)) (Eq.trans (PU.io hU_4 (j := 2) (by decide) (by decide)) (PU.i hU_3)))))), (Eq.trans (fi_q (hk_10 _ (th_ne ha0 h_9 (by decide)))) (Eq.trans (PU.io hU_7 (j := 3) (by decide) (by decide)) (Eq.trans (PU.io hU_6 (j := 3) (by decide) (by decide)) (Eq.trans (PU.io hU_5 (j := 3) (by decide) (by decide)) (PU.i hU_4))))), (Eq.trans (fi_q (hk_10 _ (th_ne ha0 h_9 (by decide)))) (Eq.trans (PU.io hU_7 (j := 4) (by decide) (by decide)) (Eq.trans (PU.io hU_6 (j := 4) (by decide) (by decide)) (PU.i hU_5)))), (Eq.trans (fi_q (hk_10 _ (th_ne ha0 h_9 (by decide)))) (Eq.trans (PU.io hU_7 (j := 5) (by decide) (by decide)) (PU.i hU_6))), (Eq.trans (fl_q (hk_10 _ (th_ne ha0 h_9 (by decide)))) (PU.l hU_7))⟩ dX5_copyFrom_71
set_option maxHeartbeats 4000000 in
set_option maxRecDepth 100000 in
/-- StreamEnds$Incoming.copyFrom -/
theorem c_X3_copyFrom (l : Launch) (D : va_G) (cI cS : ClassId) (τ : Nat → Option Nat) (ρ : Nat → Nat → Nat) (hW : WF τ ρ) (H : Heap) (hT : TH D cI cS τ ρ H) (a0 : Nat) (a1 : Nat) (ha0 : τ a0 = some 3) (ha1 : τ a1 = some 3) (hf_1 : fi D 3 0 H a1 = 0) (hn_2 : a1 ≠ a0) (hf_3 : fi D 3 1 H a1 = 1) (hf_4 : fi D 3 2 H a1 = 13) (hf_5 : fi D 3 3 H a1 = (-4)) (hf_6 : fi D 3 4 H a1 = 0) (hf_7 : fl D 3 5 H a1 = 0) : MV l D cI cS τ ρ yX3_copyFrom cX3_copyFrom 2 none 1 40 H [.ref a0, .ref a1] (fun (u : Heap) => fi D 3 0 u a0 = 0 ∧ fi D 3 1 u a0 = 1 ∧ fi D 3 2 u a0 = 13 ∧ fi D 3 3 u a0 = (-4) ∧ fi D 3 4 u a0 = 0 ∧ fl D 3 5 u a0 = 0) (fun q => q = a0 ∨ q = ρ a0 6) := by
  refine MV.of (by decide) (Nat.le_of_ble_eq_true rfl) ?_
  intro p e s m args below meth c E hml hr hlk hs ls hl
  have hx := E.1
  have hb := E.2.1
  have hown := E.2.2.1
  have hts := E.2.2.2.1
  have hS : SS (fun q => q = a0 ∨ q = ρ a0 6) H H [] := SS.rf
  have hl : lv_has ls 2 [(0, .ref a0), (1, .ref a1)] := hl
  refine lv_aload_n hx hb dX3_copyFrom_0 rfl (lv_at hl 0 rfl) ?_
  refine lv_aload_n hx hb dX3_copyFrom_1 rfl (lv_at hl 1 rfl) ?_
  refine gf_X3_15 E hT ha1 dX3_copyFrom_2 ?_
  refine th_topi (y := 0) hf_1 ?_
  refine pf_X3_15 E hT hS ha0 (Or.inl rfl) dX3_copyFrom_5 (fun H_1 locs_1 hT_1 hU_1 hS_1 => ?_)
  refine lv_aload_n hx hb dX3_copyFrom_8 rfl (lv_at hl 0 rfl) ?_
  refine lv_aload_n hx hb dX3_copyFrom_9 rfl (lv_at hl 1 rfl) ?_
  refine gf_X3_19 E hT_1 ha1 dX3_copyFrom_10 ?_
  refine th_topi (y := 1) (Eq.trans (fi_q (hU_1.2.2 _ hn_2)) hf_3) ?_
  refine pf_X3_19 E hT_1 hS_1 ha0 (Or.inl rfl) dX3_copyFrom_13 (fun H_2 locs_2 hT_2 hU_2 hS_2 => ?_)
  refine lv_aload_n hx hb dX3_copyFrom_16 rfl (lv_at hl 0 rfl) ?_
  refine lv_aload_n hx hb dX3_copyFrom_17 rfl (lv_at hl 1 rfl) ?_
  refine gf_X3_22 E hT_2 ha1 dX3_copyFrom_18 ?_
  refine th_topi (y := 13) (Eq.trans (fi_q (hU_2.2.2 _ hn_2)) (Eq.trans (fi_q (hU_1.2.2 _ hn_2)) hf_4)) ?_
  refine pf_X3_22 E hT_2 hS_2 ha0 (Or.inl rfl) dX3_copyFrom_21 (fun H_3 locs_3 hT_3 hU_3 hS_3 => ?_)
  refine lv_aload_n hx hb dX3_copyFrom_24 rfl (lv_at hl 0 rfl) ?_
  refine lv_aload_n hx hb dX3_copyFrom_25 rfl (lv_at hl 1 rfl) ?_
  refine gf_X3_25 E hT_3 ha1 dX3_copyFrom_26 ?_
  refine th_topi (y := (-4)) (Eq.trans (fi_q (hU_3.2.2 _ hn_2)) (Eq.trans (fi_q (hU_2.2.2 _ hn_2)) (Eq.trans (fi_q (hU_1.2.2 _ hn_2)) hf_5))) ?_
  refine pf_X3_25 E hT_3 hS_3 ha0 (Or.inl rfl) dX3_copyFrom_29 (fun H_4 locs_4 hT_4 hU_4 hS_4 => ?_)
  refine lv_aload_n hx hb dX3_copyFrom_32 rfl (lv_at hl 0 rfl) ?_
  refine lv_aload_n hx hb dX3_copyFrom_33 rfl (lv_at hl 1 rfl) ?_
  refine gf_X3_28 E hT_4 ha1 dX3_copyFrom_34 ?_
  refine th_topi (y := 0) (Eq.trans (fi_q (hU_4.2.2 _ hn_2)) (Eq.trans (fi_q (hU_3.2.2 _ hn_2)) (Eq.trans (fi_q (hU_2.2.2 _ hn_2)) (Eq.trans (fi_q (hU_1.2.2 _ hn_2)) hf_6)))) ?_
  refine pf_X3_28 E hT_4 hS_4 ha0 (Or.inl rfl) dX3_copyFrom_37 (fun H_5 locs_5 hT_5 hU_5 hS_5 => ?_)
  refine lv_aload_n hx hb dX3_copyFrom_40 rfl (lv_at hl 0 rfl) ?_
  refine lv_aload_n hx hb dX3_copyFrom_41 rfl (lv_at hl 1 rfl) ?_
  refine gf_X3_31 E hT_5 ha1 dX3_copyFrom_42 ?_
  refine th_topl (y := 0) (Eq.trans (fl_q (hU_5.2.2 _ hn_2)) (Eq.trans (fl_q (hU_4.2.2 _ hn_2)) (Eq.trans (fl_q (hU_3.2.2 _ hn_2)) (Eq.trans (fl_q (hU_2.2.2 _ hn_2)) (Eq.trans (fl_q (hU_1.2.2 _ hn_2)) hf_7))))) ?_
  refine pf_X3_31 E hT_5 hS_5 ha0 (Or.inl rfl) dX3_copyFrom_45 (fun H_6 locs_6 hT_6 hU_6 hS_6 => ?_)
  refine lv_aload_n hx hb dX3_copyFrom_48 rfl (lv_at hl 1 rfl) ?_
  refine gf_X3_9 E hT_6 hW ha1 dX3_copyFrom_49 (fun h_7 => ?_)
  refine lv_iconst (v := 0) hx hb dX3_copyFrom_52 (by decide) ?_
  refine lv_aload_n hx hb dX3_copyFrom_53 rfl (lv_at hl 0 rfl) ?_
  refine gf_X3_9 E hT_6 hW ha0 dX3_copyFrom_54 (fun h_8 => ?_)
  refine lv_iconst (v := 0) hx hb dX3_copyFrom_57 (by decide) ?_
  refine lv_bipush (v := 64) hx hb dX3_copyFrom_58 (by decide) ?_
  refine cp_X3_35 (t := 164) (a0 := (ρ a1 6)) (a := (ρ a0 6)) (sp := 0) (dp := 0) (n := 64) (rest := []) E hml hl.1 hT_6 hS_6 h_7 h_8 (Or.inr rfl) (by decide) (by decide) (by decide) (by decide) (by decide) (by decide) (by decide) (Nat.le_of_ble_eq_true rfl) dX3_copyFrom_60 (fun H_9 locs_9 hT_9 hk_9 hS_9 => ?_)
  exact th_vret E hr hlk hs hT_9 hS_9 ⟨(Eq.trans (fi_q (hk_9 _ (th_ne ha0 h_8 (by decide)))) (Eq.trans (PU.io hU_6 (j := 0) (by decide) (by decide)) (Eq.trans (PU.io hU_5 (j := 0) (by decide) (by decide)) (Eq.trans (PU.io hU_4 (j := 0) (by decide) (by decide)) (Eq.trans (PU.io hU_3 (j := 0) (by decide) (by decide)) (Eq.trans (PU.io hU_2 (j := 0) (by decide) (by decide)) (PU.i hU_1))))))), (Eq.trans (fi_q (hk_9 _ (th_ne ha0 h_8 (by decide)))) (Eq.trans (PU.io hU_6 (j := 1) (by decide) (by decide)) (Eq.trans (PU.io hU_5 (j := 1) (by decide) (by decide)) (Eq.trans (PU.io hU_4 (j := 1) (by decide) (by decide)) (Eq.trans (PU.io hU_3 (j := 1) (by decide) (by decide)) (PU.i hU_2)))))), (Eq.trans (fi_q (hk_9 _ (th_ne ha0 h_8 (by decide)))) (Eq.trans (PU.io hU_6 (j := 2) (by decide) (by decide)) (Eq.trans (PU.io hU_5 (j := 2) (by decide) (by decide)) (Eq.trans (PU.io hU_4 (j := 2) (by decide) (by decide)) (PU.i hU_3))))), (Eq.trans (fi_q (hk_9 _ (th_ne ha0 h_8 (by decide)))) (Eq.trans (PU.io hU_6 (j := 3) (by decide) (by decide)) (Eq.trans (PU.io hU_5 (j := 3) (by decide) (by decide)) (PU.i hU_4)))), (Eq.trans (fi_q (hk_9 _ (th_ne ha0 h_8 (by decide)))) (Eq.trans (PU.io hU_6 (j := 4) (by decide) (by decide)) (PU.i hU_5))), (Eq.trans (fl_q (hk_9 _ (th_ne ha0 h_8 (by decide)))) (PU.l hU_6))⟩ dX3_copyFrom_63
set_option maxHeartbeats 4000000 in
set_option maxRecDepth 100000 in
/-- StreamEnds$RoundTrips.copyFrom -/
theorem c_X7_copyFrom (l : Launch) (D : va_G) (cI cS : ClassId) (τ : Nat → Option Nat) (ρ : Nat → Nat → Nat) (hW : WF τ ρ) (H : Heap) (hT : TH D cI cS τ ρ H) (a0 : Nat) (a1 : Nat) (ha0 : τ a0 = some 7) (ha1 : τ a1 = some 7) (hf_1 : fi D 7 0 H a1 = 6) (hn_2 : a1 ≠ a0) (hf_3 : fi D 7 1 H a1 = 0) (hf_4 : fi D 7 2 H a1 = 0) (hf_5 : fi D 7 3 H a1 = (-4)) (hf_6 : fi D 7 4 H a1 = 0) (hf_7 : fi D 7 5 H a1 = 0) : MV l D cI cS τ ρ yX7_copyFrom cX7_copyFrom 2 none 1 40 H [.ref a0, .ref a1] (fun (u : Heap) => fi D 7 0 u a0 = 6 ∧ fi D 7 1 u a0 = 0 ∧ fi D 7 2 u a0 = 0 ∧ fi D 7 3 u a0 = (-4) ∧ fi D 7 4 u a0 = 0 ∧ fi D 7 5 u a0 = 0) (fun q => q = a0 ∨ q = ρ a0 6) := by
  refine MV.of (by decide) (Nat.le_of_ble_eq_true rfl) ?_
  intro p e s m args below meth c E hml hr hlk hs ls hl
  have hx := E.1
  have hb := E.2.1
  have hown := E.2.2.1
  have hts := E.2.2.2.1
  have hS : SS (fun q => q = a0 ∨ q = ρ a0 6) H H [] := SS.rf
  have hl : lv_has ls 2 [(0, .ref a0), (1, .ref a1)] := hl
  refine lv_aload_n hx hb dX7_copyFrom_0 rfl (lv_at hl 0 rfl) ?_
  refine lv_aload_n hx hb dX7_copyFrom_1 rfl (lv_at hl 1 rfl) ?_
  refine gf_X7_15 E hT ha1 dX7_copyFrom_2 ?_
  refine th_topi (y := 6) hf_1 ?_
  refine pf_X7_15 E hT hS ha0 (Or.inl rfl) dX7_copyFrom_5 (fun H_1 locs_1 hT_1 hU_1 hS_1 => ?_)
  refine lv_aload_n hx hb dX7_copyFrom_8 rfl (lv_at hl 0 rfl) ?_
  refine lv_aload_n hx hb dX7_copyFrom_9 rfl (lv_at hl 1 rfl) ?_
  refine gf_X7_19 E hT_1 ha1 dX7_copyFrom_10 ?_
  refine th_topi (y := 0) (Eq.trans (fi_q (hU_1.2.2 _ hn_2)) hf_3) ?_
  refine pf_X7_19 E hT_1 hS_1 ha0 (Or.inl rfl) dX7_copyFrom_13 (fun H_2 locs_2 hT_2 hU_2 hS_2 => ?_)
  refine lv_aload_n hx hb dX7_copyFrom_16 rfl (lv_at hl 0 rfl) ?_
  refine lv_aload_n hx hb dX7_copyFrom_17 rfl (lv_at hl 1 rfl) ?_
  refine gf_X7_22 E hT_2 ha1 dX7_copyFrom_18 ?_
  refine th_topi (y := 0) (Eq.trans (fi_q (hU_2.2.2 _ hn_2)) (Eq.trans (fi_q (hU_1.2.2 _ hn_2)) hf_4)) ?_
  refine pf_X7_22 E hT_2 hS_2 ha0 (Or.inl rfl) dX7_copyFrom_21 (fun H_3 locs_3 hT_3 hU_3 hS_3 => ?_)
  refine lv_aload_n hx hb dX7_copyFrom_24 rfl (lv_at hl 0 rfl) ?_
  refine lv_aload_n hx hb dX7_copyFrom_25 rfl (lv_at hl 1 rfl) ?_
  refine gf_X7_25 E hT_3 ha1 dX7_copyFrom_26 ?_
  refine th_topi (y := (-4)) (Eq.trans (fi_q (hU_3.2.2 _ hn_2)) (Eq.trans (fi_q (hU_2.2.2 _ hn_2)) (Eq.trans (fi_q (hU_1.2.2 _ hn_2)) hf_5))) ?_
  refine pf_X7_25 E hT_3 hS_3 ha0 (Or.inl rfl) dX7_copyFrom_29 (fun H_4 locs_4 hT_4 hU_4 hS_4 => ?_)
  refine lv_aload_n hx hb dX7_copyFrom_32 rfl (lv_at hl 0 rfl) ?_
  refine lv_aload_n hx hb dX7_copyFrom_33 rfl (lv_at hl 1 rfl) ?_
  refine gf_X7_28 E hT_4 ha1 dX7_copyFrom_34 ?_
  refine th_topi (y := 0) (Eq.trans (fi_q (hU_4.2.2 _ hn_2)) (Eq.trans (fi_q (hU_3.2.2 _ hn_2)) (Eq.trans (fi_q (hU_2.2.2 _ hn_2)) (Eq.trans (fi_q (hU_1.2.2 _ hn_2)) hf_6)))) ?_
  refine pf_X7_28 E hT_4 hS_4 ha0 (Or.inl rfl) dX7_copyFrom_37 (fun H_5 locs_5 hT_5 hU_5 hS_5 => ?_)
  refine lv_aload_n hx hb dX7_copyFrom_40 rfl (lv_at hl 0 rfl) ?_
  refine lv_aload_n hx hb dX7_copyFrom_41 rfl (lv_at hl 1 rfl) ?_
  refine gf_X7_31 E hT_5 ha1 dX7_copyFrom_42 ?_
  refine th_topi (y := 0) (Eq.trans (fi_q (hU_5.2.2 _ hn_2)) (Eq.trans (fi_q (hU_4.2.2 _ hn_2)) (Eq.trans (fi_q (hU_3.2.2 _ hn_2)) (Eq.trans (fi_q (hU_2.2.2 _ hn_2)) (Eq.trans (fi_q (hU_1.2.2 _ hn_2)) hf_7))))) ?_
  refine pf_X7_31 E hT_5 hS_5 ha0 (Or.inl rfl) dX7_copyFrom_45 (fun H_6 locs_6 hT_6 hU_6 hS_6 => ?_)
  refine lv_aload_n hx hb dX7_copyFrom_48 rfl (lv_at hl 1 rfl) ?_
  refine gf_X7_9 E hT_6 hW ha1 dX7_copyFrom_49 (fun h_7 => ?_)
  refine lv_iconst (v := 0) hx hb dX7_copyFrom_52 (by decide) ?_
  refine lv_aload_n hx hb dX7_copyFrom_53 rfl (lv_at hl 0 rfl) ?_
  refine gf_X7_9 E hT_6 hW ha0 dX7_copyFrom_54 (fun h_8 => ?_)
  refine lv_iconst (v := 0) hx hb dX7_copyFrom_57 (by decide) ?_
  refine lv_bipush (v := 6) hx hb dX7_copyFrom_58 (by decide) ?_
  refine cp_X7_34 (t := 106) (a0 := (ρ a1 6)) (a := (ρ a0 6)) (sp := 0) (dp := 0) (n := 6) (rest := []) E hml hl.1 hT_6 hS_6 h_7 h_8 (Or.inr rfl) (by decide) (by decide) (by decide) (by decide) (by decide) (by decide) (by decide) (Nat.le_of_ble_eq_true rfl) dX7_copyFrom_60 (fun H_9 locs_9 hT_9 hk_9 hS_9 => ?_)
  exact th_vret E hr hlk hs hT_9 hS_9 ⟨(Eq.trans (fi_q (hk_9 _ (th_ne ha0 h_8 (by decide)))) (Eq.trans (PU.io hU_6 (j := 0) (by decide) (by decide)) (Eq.trans (PU.io hU_5 (j := 0) (by decide) (by decide)) (Eq.trans (PU.io hU_4 (j := 0) (by decide) (by decide)) (Eq.trans (PU.io hU_3 (j := 0) (by decide) (by decide)) (Eq.trans (PU.io hU_2 (j := 0) (by decide) (by decide)) (PU.i hU_1))))))), (Eq.trans (fi_q (hk_9 _ (th_ne ha0 h_8 (by decide)))) (Eq.trans (PU.io hU_6 (j := 1) (by decide) (by decide)) (Eq.trans (PU.io hU_5 (j := 1) (by decide) (by decide)) (Eq.trans (PU.io hU_4 (j := 1) (by decide) (by decide)) (Eq.trans (PU.io hU_3 (j := 1) (by decide) (by decide)) (PU.i hU_2)))))), (Eq.trans (fi_q (hk_9 _ (th_ne ha0 h_8 (by decide)))) (Eq.trans (PU.io hU_6 (j := 2) (by decide) (by decide)) (Eq.trans (PU.io hU_5 (j := 2) (by decide) (by decide)) (Eq.trans (PU.io hU_4 (j := 2) (by decide) (by decide)) (PU.i hU_3))))), (Eq.trans (fi_q (hk_9 _ (th_ne ha0 h_8 (by decide)))) (Eq.trans (PU.io hU_6 (j := 3) (by decide) (by decide)) (Eq.trans (PU.io hU_5 (j := 3) (by decide) (by decide)) (PU.i hU_4)))), (Eq.trans (fi_q (hk_9 _ (th_ne ha0 h_8 (by decide)))) (Eq.trans (PU.io hU_6 (j := 4) (by decide) (by decide)) (PU.i hU_5))), (Eq.trans (fi_q (hk_9 _ (th_ne ha0 h_8 (by decide)))) (PU.i hU_6))⟩ dX7_copyFrom_63
set_option maxHeartbeats 4000000 in
set_option maxRecDepth 100000 in
/-- StreamEnds$Endpoint.copyFrom -/
theorem c_X2_copyFrom (l : Launch) (D : va_G) (cI cS : ClassId) (τ : Nat → Option Nat) (ρ : Nat → Nat → Nat) (hW : WF τ ρ) (H : Heap) (hT : TH D cI cS τ ρ H) (a0 : Nat) (a1 : Nat) (ha0 : τ a0 = some 2) (ha1 : τ a1 = some 2) (hf_1 : fi D 2 7 H a1 = 0) (hn_2 : a1 ≠ a0) (hf_3 : fi D 2 8 H a1 = 0) (hf_4 : fi D 2 9 H a1 = 0) (hf_5 : fi D 5 0 H (ρ a1 4) = 0) (hn_6 : ρ a1 4 ≠ ρ a0 4) (hf_7 : fi D 5 1 H (ρ a1 4) = 0) (hf_8 : fi D 5 2 H (ρ a1 4) = 1) (hf_9 : fi D 5 3 H (ρ a1 4) = 0) (hf_10 : fi D 5 4 H (ρ a1 4) = 0) (hf_11 : fi D 5 5 H (ρ a1 4) = 0) (hf_12 : fl D 5 6 H (ρ a1 4) = 0) (hf_13 : fi D 3 0 H (ρ a1 5) = 0) (hn_14 : ρ a1 5 ≠ ρ a0 5) (hf_15 : fi D 3 1 H (ρ a1 5) = 1) (hf_16 : fi D 3 2 H (ρ a1 5) = 13) (hf_17 : fi D 3 3 H (ρ a1 5) = (-4)) (hf_18 : fi D 3 4 H (ρ a1 5) = 0) (hf_19 : fl D 3 5 H (ρ a1 5) = 0) (hf_20 : fi D 7 0 H (ρ a1 6) = 6) (hn_21 : ρ a1 6 ≠ ρ a0 6) (hf_22 : fi D 7 1 H (ρ a1 6) = 0) (hf_23 : fi D 7 2 H (ρ a1 6) = 0) (hf_24 : fi D 7 3 H (ρ a1 6) = (-4)) (hf_25 : fi D 7 4 H (ρ a1 6) = 0) (hf_26 : fi D 7 5 H (ρ a1 6) = 0) (hn_27 : ρ (ρ a0 4) 7 ≠ ρ (ρ a0 5) 6) : MV l D cI cS τ ρ yX2_copyFrom cX2_copyFrom 2 none 2 61 H [.ref a0, .ref a1] (fun (u : Heap) => fi D 2 7 u a0 = 0 ∧ fi D 2 8 u a0 = 0 ∧ fi D 2 9 u a0 = 0 ∧ fl D 5 6 u (ρ a0 4) = 0 ∧ fi D 5 5 u (ρ a0 4) = 0 ∧ fi D 5 4 u (ρ a0 4) = 0 ∧ fi D 5 3 u (ρ a0 4) = 0 ∧ fi D 5 2 u (ρ a0 4) = 1 ∧ fi D 5 1 u (ρ a0 4) = 0 ∧ fi D 5 0 u (ρ a0 4) = 0 ∧ fl D 3 5 u (ρ a0 5) = 0 ∧ fi D 3 4 u (ρ a0 5) = 0 ∧ fi D 3 3 u (ρ a0 5) = (-4) ∧ fi D 3 2 u (ρ a0 5) = 13 ∧ fi D 3 1 u (ρ a0 5) = 1 ∧ fi D 3 0 u (ρ a0 5) = 0 ∧ fi D 7 5 u (ρ a0 6) = 0 ∧ fi D 7 4 u (ρ a0 6) = 0 ∧ fi D 7 3 u (ρ a0 6) = (-4) ∧ fi D 7 2 u (ρ a0 6) = 0 ∧ fi D 7 1 u (ρ a0 6) = 0 ∧ fi D 7 0 u (ρ a0 6) = 6) (fun q => q = a0 ∨ q = ρ a0 4 ∨ q = ρ (ρ a0 4) 7 ∨ q = ρ a0 5 ∨ q = ρ (ρ a0 5) 6 ∨ q = ρ a0 6 ∨ q = ρ (ρ a0 6) 6) := by
  refine MV.of (by decide) (Nat.le_of_ble_eq_true rfl) ?_
  intro p e s m args below meth c E hml hr hlk hs ls hl
  have hx := E.1
  have hb := E.2.1
  have hown := E.2.2.1
  have hts := E.2.2.2.1
  have hS : SS (fun q => q = a0 ∨ q = ρ a0 4 ∨ q = ρ (ρ a0 4) 7 ∨ q = ρ a0 5 ∨ q = ρ (ρ a0 5) 6 ∨ q = ρ a0 6 ∨ q = ρ (ρ a0 6) 6) H H [] := SS.rf
  have hl : lv_has ls 2 [(0, .ref a0), (1, .ref a1)] := hl
  refine lv_aload_n hx hb dX2_copyFrom_0 rfl (lv_at hl 0 rfl) ?_
  refine lv_aload_n hx hb dX2_copyFrom_1 rfl (lv_at hl 1 rfl) ?_
  refine gf_X2_63 E hT ha1 dX2_copyFrom_2 ?_
  refine th_topi (y := 0) hf_1 ?_
  refine pf_X2_63 E hT hS ha0 (Or.inl rfl) dX2_copyFrom_5 (fun H_1 locs_1 hT_1 hU_1 hS_1 => ?_)
  refine lv_aload_n hx hb dX2_copyFrom_8 rfl (lv_at hl 0 rfl) ?_
  refine lv_aload_n hx hb dX2_copyFrom_9 rfl (lv_at hl 1 rfl) ?_
  refine gf_X2_66 E hT_1 ha1 dX2_copyFrom_10 ?_
  refine th_topi (y := 0) (Eq.trans (fi_q (hU_1.2.2 _ hn_2)) hf_3) ?_
  refine pf_X2_66 E hT_1 hS_1 ha0 (Or.inl rfl) dX2_copyFrom_13 (fun H_2 locs_2 hT_2 hU_2 hS_2 => ?_)
  refine lv_aload_n hx hb dX2_copyFrom_16 rfl (lv_at hl 0 rfl) ?_
  refine lv_aload_n hx hb dX2_copyFrom_17 rfl (lv_at hl 1 rfl) ?_
  refine gf_X2_69 E hT_2 ha1 dX2_copyFrom_18 ?_
  refine th_topi (y := 0) (Eq.trans (fi_q (hU_2.2.2 _ hn_2)) (Eq.trans (fi_q (hU_1.2.2 _ hn_2)) hf_4)) ?_
  refine pf_X2_69 E hT_2 hS_2 ha0 (Or.inl rfl) dX2_copyFrom_21 (fun H_3 locs_3 hT_3 hU_3 hS_3 => ?_)
  refine lv_aload_n hx hb dX2_copyFrom_24 rfl (lv_at hl 0 rfl) ?_
  refine gf_X2_12 E hT_3 hW ha0 dX2_copyFrom_25 (fun h_4 => ?_)
  refine lv_aload_n hx hb dX2_copyFrom_28 rfl (lv_at hl 1 rfl) ?_
  refine gf_X2_12 E hT_3 hW ha1 dX2_copyFrom_29 (fun h_5 => ?_)
  refine th_Vv (As := [.ref (ρ a1 4)]) (rest := []) E hml hl.1 (c_X5_copyFrom l D cI cS τ ρ hW H_3 hT_3 (ρ a0 4) (ρ a1 4) h_4 h_5 (Eq.trans (fi_q (hU_3.2.2 _ (th_ne h_5 ha0 (by decide)))) (Eq.trans (fi_q (hU_2.2.2 _ (th_ne h_5 ha0 (by decide)))) (Eq.trans (fi_q (hU_1.2.2 _ (th_ne h_5 ha0 (by decide)))) hf_5))) hn_6 (Eq.trans (fi_q (hU_3.2.2 _ (th_ne h_5 ha0 (by decide)))) (Eq.trans (fi_q (hU_2.2.2 _ (th_ne h_5 ha0 (by decide)))) (Eq.trans (fi_q (hU_1.2.2 _ (th_ne h_5 ha0 (by decide)))) hf_7))) (Eq.trans (fi_q (hU_3.2.2 _ (th_ne h_5 ha0 (by decide)))) (Eq.trans (fi_q (hU_2.2.2 _ (th_ne h_5 ha0 (by decide)))) (Eq.trans (fi_q (hU_1.2.2 _ (th_ne h_5 ha0 (by decide)))) hf_8))) (Eq.trans (fi_q (hU_3.2.2 _ (th_ne h_5 ha0 (by decide)))) (Eq.trans (fi_q (hU_2.2.2 _ (th_ne h_5 ha0 (by decide)))) (Eq.trans (fi_q (hU_1.2.2 _ (th_ne h_5 ha0 (by decide)))) hf_9))) (Eq.trans (fi_q (hU_3.2.2 _ (th_ne h_5 ha0 (by decide)))) (Eq.trans (fi_q (hU_2.2.2 _ (th_ne h_5 ha0 (by decide)))) (Eq.trans (fi_q (hU_1.2.2 _ (th_ne h_5 ha0 (by decide)))) hf_10))) (Eq.trans (fi_q (hU_3.2.2 _ (th_ne h_5 ha0 (by decide)))) (Eq.trans (fi_q (hU_2.2.2 _ (th_ne h_5 ha0 (by decide)))) (Eq.trans (fi_q (hU_1.2.2 _ (th_ne h_5 ha0 (by decide)))) hf_11))) (Eq.trans (fl_q (hU_3.2.2 _ (th_ne h_5 ha0 (by decide)))) (Eq.trans (fl_q (hU_2.2.2 _ (th_ne h_5 ha0 (by decide)))) (Eq.trans (fl_q (hU_1.2.2 _ (th_ne h_5 ha0 (by decide)))) hf_12)))) lk_X2_72 yd_X5_copyFrom hT_3 h_4 rfl (by decide) hS_3 (fun q => (fun h => h.elim (fun h => (Or.inr (Or.inl h))) (fun h => (Or.inr (Or.inr (Or.inl h)))))) ⟨by decide, by decide⟩ (Nat.le_of_ble_eq_true rfl) ⟨by decide, by decide⟩ rfl dX2_copyFrom_32 (fun H_6 locs_6 p_6 hT_6 hk_6 hS_6 => ?_)
  have p_6 : fi D 5 0 H_6 (ρ a0 4) = 0 ∧ fi D 5 1 H_6 (ρ a0 4) = 0 ∧ fi D 5 2 H_6 (ρ a0 4) = 1 ∧ fi D 5 3 H_6 (ρ a0 4) = 0 ∧ fi D 5 4 H_6 (ρ a0 4) = 0 ∧ fi D 5 5 H_6 (ρ a0 4) = 0 ∧ fl D 5 6 H_6 (ρ a0 4) = 0 := p_6
  obtain ⟨p_6_0, p_6_1, p_6_2, p_6_3, p_6_4, p_6_5, p_6_6⟩ := p_6
  refine lv_aload_n hx hb dX2_copyFrom_35 rfl (lv_at hl 0 rfl) ?_
  refine gf_X2_21 E hT_6 hW ha0 dX2_copyFrom_36 (fun h_7 => ?_)
  refine lv_aload_n hx hb dX2_copyFrom_39 rfl (lv_at hl 1 rfl) ?_
  refine gf_X2_21 E hT_6 hW ha1 dX2_copyFrom_40 (fun h_8 => ?_)
  refine th_Vv (As := [.ref (ρ a1 5)]) (rest := []) E hml hl.1 (c_X3_copyFrom l D cI cS τ ρ hW H_6 hT_6 (ρ a0 5) (ρ a1 5) h_7 h_8 (Eq.trans (fi_q (hk_6 _ (fun h => h.elim (th_ne h_8 h_4 (by decide)) (th_ne h_8 (hW _ 5 7 h_4 (by decide) (by decide) (by decide)) (by decide))))) (Eq.trans (fi_q (hU_3.2.2 _ (th_ne h_8 ha0 (by decide)))) (Eq.trans (fi_q (hU_2.2.2 _ (th_ne h_8 ha0 (by decide)))) (Eq.trans (fi_q (hU_1.2.2 _ (th_ne h_8 ha0 (by decide)))) hf_13)))) hn_14 (Eq.trans (fi_q (hk_6 _ (fun h => h.elim (th_ne h_8 h_4 (by decide)) (th_ne h_8 (hW _ 5 7 h_4 (by decide) (by decide) (by decide)) (by decide))))) (Eq.trans (fi_q (hU_3.2.2 _ (th_ne h_8 ha0 (by decide)))) (Eq.trans (fi_q (hU_2.2.2 _ (th_ne h_8 ha0 (by decide)))) (Eq.trans (fi_q (hU_1.2.2 _ (th_ne h_8 ha0 (by decide)))) hf_15)))) (Eq.trans (fi_q (hk_6 _ (fun h => h.elim (th_ne h_8 h_4 (by decide)) (th_ne h_8 (hW _ 5 7 h_4 (by decide) (by decide) (by decide)) (by decide))))) (Eq.trans (fi_q (hU_3.2.2 _ (th_ne h_8 ha0 (by decide)))) (Eq.trans (fi_q (hU_2.2.2 _ (th_ne h_8 ha0 (by decide)))) (Eq.trans (fi_q (hU_1.2.2 _ (th_ne h_8 ha0 (by decide)))) hf_16)))) (Eq.trans (fi_q (hk_6 _ (fun h => h.elim (th_ne h_8 h_4 (by decide)) (th_ne h_8 (hW _ 5 7 h_4 (by decide) (by decide) (by decide)) (by decide))))) (Eq.trans (fi_q (hU_3.2.2 _ (th_ne h_8 ha0 (by decide)))) (Eq.trans (fi_q (hU_2.2.2 _ (th_ne h_8 ha0 (by decide)))) (Eq.trans (fi_q (hU_1.2.2 _ (th_ne h_8 ha0 (by decide)))) hf_17)))) (Eq.trans (fi_q (hk_6 _ (fun h => h.elim (th_ne h_8 h_4 (by decide)) (th_ne h_8 (hW _ 5 7 h_4 (by decide) (by decide) (by decide)) (by decide))))) (Eq.trans (fi_q (hU_3.2.2 _ (th_ne h_8 ha0 (by decide)))) (Eq.trans (fi_q (hU_2.2.2 _ (th_ne h_8 ha0 (by decide)))) (Eq.trans (fi_q (hU_1.2.2 _ (th_ne h_8 ha0 (by decide)))) hf_18)))) (Eq.trans (fl_q (hk_6 _ (fun h => h.elim (th_ne h_8 h_4 (by decide)) (th_ne h_8 (hW _ 5 7 h_4 (by decide) (by decide) (by decide)) (by decide))))) (Eq.trans (fl_q (hU_3.2.2 _ (th_ne h_8 ha0 (by decide)))) (Eq.trans (fl_q (hU_2.2.2 _ (th_ne h_8 ha0 (by decide)))) (Eq.trans (fl_q (hU_1.2.2 _ (th_ne h_8 ha0 (by decide)))) hf_19))))) lk_X2_76 yd_X3_copyFrom hT_6 h_7 rfl (by decide) hS_6 (fun q => (fun h => h.elim (fun h => (Or.inr (Or.inr (Or.inr (Or.inl h))))) (fun h => (Or.inr (Or.inr (Or.inr (Or.inr (Or.inl h)))))))) ⟨by decide, by decide⟩ (Nat.le_of_ble_eq_true rfl) ⟨by decide, by decide⟩ rfl dX2_copyFrom_43 (fun H_9 locs_9 p_9 hT_9 hk_9 hS_9 => ?_)
  have p_9 : fi D 3 0 H_9 (ρ a0 5) = 0 ∧ fi D 3 1 H_9 (ρ a0 5) = 1 ∧ fi D 3 2 H_9 (ρ a0 5) = 13 ∧ fi D 3 3 H_9 (ρ a0 5) = (-4) ∧ fi D 3 4 H_9 (ρ a0 5) = 0 ∧ fl D 3 5 H_9 (ρ a0 5) = 0 := p_9
  obtain ⟨p_9_0, p_9_1, p_9_2, p_9_3, p_9_4, p_9_5⟩ := p_9
  refine lv_aload_n hx hb dX2_copyFrom_46 rfl (lv_at hl 0 rfl) ?_
  refine gf_X2_28 E hT_9 hW ha0 dX2_copyFrom_47 (fun h_10 => ?_)
  refine lv_aload_n hx hb dX2_copyFrom_50 rfl (lv_at hl 1 rfl) ?_
  refine gf_X2_28 E hT_9 hW ha1 dX2_copyFrom_51 (fun h_11 => ?_)
  refine th_Vv (As := [.ref (ρ a1 6)]) (rest := []) E hml hl.1 (c_X7_copyFrom l D cI cS τ ρ hW H_9 hT_9 (ρ a0 6) (ρ a1 6) h_10 h_11 (Eq.trans (fi_q (hk_9 _ (fun h => h.elim (th_ne h_11 h_7 (by decide)) (th_ne h_11 (hW _ 3 6 h_7 (by decide) (by decide) (by decide)) (by decide))))) (Eq.trans (fi_q (hk_6 _ (fun h => h.elim (th_ne h_11 h_4 (by decide)) (th_ne h_11 (hW _ 5 7 h_4 (by decide) (by decide) (by decide)) (by decide))))) (Eq.trans (fi_q (hU_3.2.2 _ (th_ne h_11 ha0 (by decide)))) (Eq.trans (fi_q (hU_2.2.2 _ (th_ne h_11 ha0 (by decide)))) (Eq.trans (fi_q (hU_1.2.2 _ (th_ne h_11 ha0 (by decide)))) hf_20))))) hn_21 (Eq.trans (fi_q (hk_9 _ (fun h => h.elim (th_ne h_11 h_7 (by decide)) (th_ne h_11 (hW _ 3 6 h_7 (by decide) (by decide) (by decide)) (by decide))))) (Eq.trans (fi_q (hk_6 _ (fun h => h.elim (th_ne h_11 h_4 (by decide)) (th_ne h_11 (hW _ 5 7 h_4 (by decide) (by decide) (by decide)) (by decide))))) (Eq.trans (fi_q (hU_3.2.2 _ (th_ne h_11 ha0 (by decide)))) (Eq.trans (fi_q (hU_2.2.2 _ (th_ne h_11 ha0 (by decide)))) (Eq.trans (fi_q (hU_1.2.2 _ (th_ne h_11 ha0 (by decide)))) hf_22))))) (Eq.trans (fi_q (hk_9 _ (fun h => h.elim (th_ne h_11 h_7 (by decide)) (th_ne h_11 (hW _ 3 6 h_7 (by decide) (by decide) (by decide)) (by decide))))) (Eq.trans (fi_q (hk_6 _ (fun h => h.elim (th_ne h_11 h_4 (by decide)) (th_ne h_11 (hW _ 5 7 h_4 (by decide) (by decide) (by decide)) (by decide))))) (Eq.trans (fi_q (hU_3.2.2 _ (th_ne h_11 ha0 (by decide)))) (Eq.trans (fi_q (hU_2.2.2 _ (th_ne h_11 ha0 (by decide)))) (Eq.trans (fi_q (hU_1.2.2 _ (th_ne h_11 ha0 (by decide)))) hf_23))))) (Eq.trans (fi_q (hk_9 _ (fun h => h.elim (th_ne h_11 h_7 (by decide)) (th_ne h_11 (hW _ 3 6 h_7 (by decide) (by decide) (by decide)) (by decide))))) (Eq.trans (fi_q (hk_6 _ (fun h => h.elim (th_ne h_11 h_4 (by decide)) (th_ne h_11 (hW _ 5 7 h_4 (by decide) (by decide) (by decide)) (by decide))))) (Eq.trans (fi_q (hU_3.2.2 _ (th_ne h_11 ha0 (by decide)))) (Eq.trans (fi_q (hU_2.2.2 _ (th_ne h_11 ha0 (by decide)))) (Eq.trans (fi_q (hU_1.2.2 _ (th_ne h_11 ha0 (by decide)))) hf_24))))) (Eq.trans (fi_q (hk_9 _ (fun h => h.elim (th_ne h_11 h_7 (by decide)) (th_ne h_11 (hW _ 3 6 h_7 (by decide) (by decide) (by decide)) (by decide))))) (Eq.trans (fi_q (hk_6 _ (fun h => h.elim (th_ne h_11 h_4 (by decide)) (th_ne h_11 (hW _ 5 7 h_4 (by decide) (by decide) (by decide)) (by decide))))) (Eq.trans (fi_q (hU_3.2.2 _ (th_ne h_11 ha0 (by decide)))) (Eq.trans (fi_q (hU_2.2.2 _ (th_ne h_11 ha0 (by decide)))) (Eq.trans (fi_q (hU_1.2.2 _ (th_ne h_11 ha0 (by decide)))) hf_25))))) (Eq.trans (fi_q (hk_9 _ (fun h => h.elim (th_ne h_11 h_7 (by decide)) (th_ne h_11 (hW _ 3 6 h_7 (by decide) (by decide) (by decide)) (by decide))))) (Eq.trans (fi_q (hk_6 _ (fun h => h.elim (th_ne h_11 h_4 (by decide)) (th_ne h_11 (hW _ 5 7 h_4 (by decide) (by decide) (by decide)) (by decide))))) (Eq.trans (fi_q (hU_3.2.2 _ (th_ne h_11 ha0 (by decide)))) (Eq.trans (fi_q (hU_2.2.2 _ (th_ne h_11 ha0 (by decide)))) (Eq.trans (fi_q (hU_1.2.2 _ (th_ne h_11 ha0 (by decide)))) hf_26)))))) lk_X2_79 yd_X7_copyFrom hT_9 h_10 rfl (by decide) hS_9 (fun q => (fun h => h.elim (fun h => (Or.inr (Or.inr (Or.inr (Or.inr (Or.inr (Or.inl h))))))) (fun h => (Or.inr (Or.inr (Or.inr (Or.inr (Or.inr (Or.inr h))))))))) ⟨by decide, by decide⟩ (Nat.le_of_ble_eq_true rfl) ⟨by decide, by decide⟩ rfl dX2_copyFrom_54 (fun H_12 locs_12 p_12 hT_12 hk_12 hS_12 => ?_)
  have p_12 : fi D 7 0 H_12 (ρ a0 6) = 6 ∧ fi D 7 1 H_12 (ρ a0 6) = 0 ∧ fi D 7 2 H_12 (ρ a0 6) = 0 ∧ fi D 7 3 H_12 (ρ a0 6) = (-4) ∧ fi D 7 4 H_12 (ρ a0 6) = 0 ∧ fi D 7 5 H_12 (ρ a0 6) = 0 := p_12
  obtain ⟨p_12_0, p_12_1, p_12_2, p_12_3, p_12_4, p_12_5⟩ := p_12
  exact th_vret E hr hlk hs hT_12 hS_12 ⟨(Eq.trans (fi_q (hk_12 _ (fun h => h.elim (th_ne ha0 h_10 (by decide)) (th_ne ha0 (hW _ 7 6 h_10 (by decide) (by decide) (by decide)) (by decide))))) (Eq.trans (fi_q (hk_9 _ (fun h => h.elim (th_ne ha0 h_7 (by decide)) (th_ne ha0 (hW _ 3 6 h_7 (by decide) (by decide) (by decide)) (by decide))))) (Eq.trans (fi_q (hk_6 _ (fun h => h.elim (th_ne ha0 h_4 (by decide)) (th_ne ha0 (hW _ 5 7 h_4 (by decide) (by decide) (by decide)) (by decide))))) (Eq.trans (PU.io hU_3 (j := 7) (by decide) (by decide)) (Eq.trans (PU.io hU_2 (j := 7) (by decide) (by decide)) (PU.i hU_1)))))), (Eq.trans (fi_q (hk_12 _ (fun h => h.elim (th_ne ha0 h_10 (by decide)) (th_ne ha0 (hW _ 7 6 h_10 (by decide) (by decide) (by decide)) (by decide))))) (Eq.trans (fi_q (hk_9 _ (fun h => h.elim (th_ne ha0 h_7 (by decide)) (th_ne ha0 (hW _ 3 6 h_7 (by decide) (by decide) (by decide)) (by decide))))) (Eq.trans (fi_q (hk_6 _ (fun h => h.elim (th_ne ha0 h_4 (by decide)) (th_ne ha0 (hW _ 5 7 h_4 (by decide) (by decide) (by decide)) (by decide))))) (Eq.trans (PU.io hU_3 (j := 8) (by decide) (by decide)) (PU.i hU_2))))), (Eq.trans (fi_q (hk_12 _ (fun h => h.elim (th_ne ha0 h_10 (by decide)) (th_ne ha0 (hW _ 7 6 h_10 (by decide) (by decide) (by decide)) (by decide))))) (Eq.trans (fi_q (hk_9 _ (fun h => h.elim (th_ne ha0 h_7 (by decide)) (th_ne ha0 (hW _ 3 6 h_7 (by decide) (by decide) (by decide)) (by decide))))) (Eq.trans (fi_q (hk_6 _ (fun h => h.elim (th_ne ha0 h_4 (by decide)) (th_ne ha0 (hW _ 5 7 h_4 (by decide) (by decide) (by decide)) (by decide))))) (PU.i hU_3)))), (Eq.trans (fl_q (hk_12 _ (fun h => h.elim (th_ne h_4 h_10 (by decide)) (th_ne h_4 (hW _ 7 6 h_10 (by decide) (by decide) (by decide)) (by decide))))) (Eq.trans (fl_q (hk_9 _ (fun h => h.elim (th_ne h_4 h_7 (by decide)) (th_ne h_4 (hW _ 3 6 h_7 (by decide) (by decide) (by decide)) (by decide))))) p_6_6)), (Eq.trans (fi_q (hk_12 _ (fun h => h.elim (th_ne h_4 h_10 (by decide)) (th_ne h_4 (hW _ 7 6 h_10 (by decide) (by decide) (by decide)) (by decide))))) (Eq.trans (fi_q (hk_9 _ (fun h => h.elim (th_ne h_4 h_7 (by decide)) (th_ne h_4 (hW _ 3 6 h_7 (by decide) (by decide) (by decide)) (by decide))))) p_6_5)), (Eq.trans (fi_q (hk_12 _ (fun h => h.elim (th_ne h_4 h_10 (by decide)) (th_ne h_4 (hW _ 7 6 h_10 (by decide) (by decide) (by decide)) (by decide))))) (Eq.trans (fi_q (hk_9 _ (fun h => h.elim (th_ne h_4 h_7 (by decide)) (th_ne h_4 (hW _ 3 6 h_7 (by decide) (by decide) (by decide)) (by decide))))) p_6_4)), (Eq.trans (fi_q (hk_12 _ (fun h => h.elim (th_ne h_4 h_10 (by decide)) (th_ne h_4 (hW _ 7 6 h_10 (by decide) (by decide) (by decide)) (by decide))))) (Eq.trans (fi_q (hk_9 _ (fun h => h.elim (th_ne h_4 h_7 (by decide)) (th_ne h_4 (hW _ 3 6 h_7 (by decide) (by decide) (by decide)) (by decide))))) p_6_3)), (Eq.trans (fi_q (hk_12 _ (fun h => h.elim (th_ne h_4 h_10 (by decide)) (th_ne h_4 (hW _ 7 6 h_10 (by decide) (by decide) (by decide)) (by decide))))) (Eq.trans (fi_q (hk_9 _ (fun h => h.elim (th_ne h_4 h_7 (by decide)) (th_ne h_4 (hW _ 3 6 h_7 (by decide) (by decide) (by decide)) (by decide))))) p_6_2)), (Eq.trans (fi_q (hk_12 _ (fun h => h.elim (th_ne h_4 h_10 (by decide)) (th_ne h_4 (hW _ 7 6 h_10 (by decide) (by decide) (by decide)) (by decide))))) (Eq.trans (fi_q (hk_9 _ (fun h => h.elim (th_ne h_4 h_7 (by decide)) (th_ne h_4 (hW _ 3 6 h_7 (by decide) (by decide) (by decide)) (by decide))))) p_6_1)), (Eq.trans (fi_q (hk_12 _ (fun h => h.elim (th_ne h_4 h_10 (by decide)) (th_ne h_4 (hW _ 7 6 h_10 (by decide) (by decide) (by decide)) (by decide))))) (Eq.trans (fi_q (hk_9 _ (fun h => h.elim (th_ne h_4 h_7 (by decide)) (th_ne h_4 (hW _ 3 6 h_7 (by decide) (by decide) (by decide)) (by decide))))) p_6_0)), (Eq.trans (fl_q (hk_12 _ (fun h => h.elim (th_ne h_7 h_10 (by decide)) (th_ne h_7 (hW _ 7 6 h_10 (by decide) (by decide) (by decide)) (by decide))))) p_9_5), (Eq.trans (fi_q (hk_12 _ (fun h => h.elim (th_ne h_7 h_10 (by decide)) (th_ne h_7 (hW _ 7 6 h_10 (by decide) (by decide) (by decide)) (by decide))))) p_9_4), (Eq.trans (fi_q (hk_12 _ (fun h => h.elim (th_ne h_7 h_10 (by decide)) (th_ne h_7 (hW _ 7 6 h_10 (by decide) (by decide) (by decide)) (by decide))))) p_9_3), (Eq.trans (fi_q (hk_12 _ (fun h => h.elim (th_ne h_7 h_10 (by decide)) (th_ne h_7 (hW _ 7 6 h_10 (by decide) (by decide) (by decide)) (by decide))))) p_9_2), (Eq.trans (fi_q (hk_12 _ (fun h => h.elim (th_ne h_7 h_10 (by decide)) (th_ne h_7 (hW _ 7 6 h_10 (by decide) (by decide) (by decide)) (by decide))))) p_9_1), (Eq.trans (fi_q (hk_12 _ (fun h => h.elim (th_ne h_7 h_10 (by decide)) (th_ne h_7 (hW _ 7 6 h_10 (by decide) (by decide) (by decide)) (by decide))))) p_9_0), p_12_5, p_12_4, p_12_3, p_12_2, p_12_1, p_12_0⟩ dX2_copyFrom_57
set_option maxHeartbeats 4000000 in
set_option maxRecDepth 100000 in
/-- StreamEnds$Network.copyFrom -/
theorem c_X4_copyFrom (l : Launch) (D : va_G) (cI cS : ClassId) (τ : Nat → Option Nat) (ρ : Nat → Nat → Nat) (hW : WF τ ρ) (H : Heap) (hT : TH D cI cS τ ρ H) (a0 : Nat) (a1 : Nat) (ha0 : τ a0 = some 4) (ha1 : τ a1 = some 4) (hf_1 : fi D 1 0 H (ρ a1 0) = 4) (hn_2 : ρ a1 0 ≠ ρ a0 0) (hf_3 : fi D 1 1 H (ρ a1 0) = 12) (hf_4 : fi D 1 2 H (ρ a1 0) = 250) (hf_5 : fi D 1 3 H (ρ a1 0) = 100) (hf_6 : fi D 1 4 H (ρ a1 0) = 5) (hf_7 : fi D 10 2 H (ρ a1 1) = 0) (hn_8 : ρ a1 1 ≠ ρ a0 1) (hf_9 : fi D 10 3 H (ρ a1 1) = 0) (hf_10 : fi D 10 4 H (ρ a1 1) = 0) (hf_11 : fi D 10 5 H (ρ a1 1) = 0) (hf_12 : fi D 0 0 H (ρ a1 2) = 0) (hf_13 : fi D 2 7 H (ρ a1 3) = 0) (hn_14 : ρ a1 3 ≠ ρ a0 3) (hf_15 : fi D 2 8 H (ρ a1 3) = 0) (hf_16 : fi D 2 9 H (ρ a1 3) = 0) (hn_17 : ρ (ρ a1 3) 4 ≠ ρ a0 2) (hn_18 : ρ (ρ a1 3) 4 ≠ ρ a0 1) (hn_19 : ρ (ρ a1 3) 4 ≠ ρ a0 0) (hf_20 : fi D 5 0 H (ρ (ρ a1 3) 4) = 0) (hn_21 : ρ (ρ a1 3) 4 ≠ ρ (ρ a0 3) 4) (hf_22 : fi D 5 1 H (ρ (ρ a1 3) 4) = 0) (hf_23 : fi D 5 2 H (ρ (ρ a1 3) 4) = 1) (hf_24 : fi D 5 3 H (ρ (ρ a1 3) 4) = 0) (hf_25 : fi D 5 4 H (ρ (ρ a1 3) 4) = 0) (hf_26 : fi D 5 5 H (ρ (ρ a1 3) 4) = 0) (hf_27 : fl D 5 6 H (ρ (ρ a1 3) 4) = 0) (hn_28 : ρ (ρ a1 3) 5 ≠ ρ a0 2) (hn_29 : ρ (ρ a1 3) 5 ≠ ρ a0 1) (hn_30 : ρ (ρ a1 3) 5 ≠ ρ a0 0) (hf_31 : fi D 3 0 H (ρ (ρ a1 3) 5) = 0) (hn_32 : ρ (ρ a1 3) 5 ≠ ρ (ρ a0 3) 5) (hf_33 : fi D 3 1 H (ρ (ρ a1 3) 5) = 1) (hf_34 : fi D 3 2 H (ρ (ρ a1 3) 5) = 13) (hf_35 : fi D 3 3 H (ρ (ρ a1 3) 5) = (-4)) (hf_36 : fi D 3 4 H (ρ (ρ a1 3) 5) = 0) (hf_37 : fl D 3 5 H (ρ (ρ a1 3) 5) = 0) (hn_38 : ρ (ρ a1 3) 6 ≠ ρ a0 2) (hn_39 : ρ (ρ a1 3) 6 ≠ ρ a0 1) (hn_40 : ρ (ρ a1 3) 6 ≠ ρ a0 0) (hf_41 : fi D 7 0 H (ρ (ρ a1 3) 6) = 6) (hn_42 : ρ (ρ a1 3) 6 ≠ ρ (ρ a0 3) 6) (hf_43 : fi D 7 1 H (ρ (ρ a1 3) 6) = 0) (hf_44 : fi D 7 2 H (ρ (ρ a1 3) 6) = 0) (hf_45 : fi D 7 3 H (ρ (ρ a1 3) 6) = (-4)) (hf_46 : fi D 7 4 H (ρ (ρ a1 3) 6) = 0) (hf_47 : fi D 7 5 H (ρ (ρ a1 3) 6) = 0) (hn_48 : ρ (ρ (ρ a0 3) 4) 7 ≠ ρ (ρ (ρ a0 3) 5) 6) (hn_49 : ρ a1 4 ≠ ρ a0 3) (hf_50 : fi D 2 7 H (ρ a1 4) = 0) (hn_51 : ρ a1 4 ≠ ρ a0 4) (hf_52 : fi D 2 8 H (ρ a1 4) = 0) (hf_53 : fi D 2 9 H (ρ a1 4) = 0) (hn_54 : ρ (ρ a1 4) 4 ≠ ρ a0 3) (hn_55 : ρ (ρ a1 4) 4 ≠ ρ (ρ a0 3) 4) (hn_56 : ρ (ρ a1 4) 4 ≠ ρ (ρ (ρ a0 3) 4) 7) (hn_57 : ρ (ρ a1 4) 4 ≠ ρ (ρ a0 3) 5) (hn_58 : ρ (ρ a1 4) 4 ≠ ρ (ρ (ρ a0 3) 5) 6) (hn_59 : ρ (ρ a1 4) 4 ≠ ρ (ρ a0 3) 6) (hn_60 : ρ (ρ a1 4) 4 ≠ ρ (ρ (ρ a0 3) 6) 6) (hn_61 : ρ (ρ a1 4) 4 ≠ ρ a0 2) (hn_62 : ρ (ρ a1 4) 4 ≠ ρ a0 1) (hn_63 : ρ (ρ a1 4) 4 ≠ ρ a0 0) (hf_64 : fi D 5 0 H (ρ (ρ a1 4) 4) = 0) (hn_65 : ρ (ρ a1 4) 4 ≠ ρ (ρ a0 4) 4) (hf_66 : fi D 5 1 H (ρ (ρ a1 4) 4) = 0) (hf_67 : fi D 5 2 H (ρ (ρ a1 4) 4) = 1) (hf_68 : fi D 5 3 H (ρ (ρ a1 4) 4) = 0) (hf_69 : fi D 5 4 H (ρ (ρ a1 4) 4) = 0) (hf_70 : fi D 5 5 H (ρ (ρ a1 4) 4) = 0) (hf_71 : fl D 5 6 H (ρ (ρ a1 4) 4) = 0) (hn_72 : ρ (ρ a1 4) 5 ≠ ρ a0 3) (hn_73 : ρ (ρ a1 4) 5 ≠ ρ (ρ a0 3) 4) (hn_74 : ρ (ρ a1 4) 5 ≠ ρ (ρ (ρ a0 3) 4) 7) (hn_75 : ρ (ρ a1 4) 5 ≠ ρ (ρ a0 3) 5) (hn_76 : ρ (ρ a1 4) 5 ≠ ρ (ρ (ρ a0 3) 5) 6) (hn_77 : ρ (ρ a1 4) 5 ≠ ρ (ρ a0 3) 6) (hn_78 : ρ (ρ a1 4) 5 ≠ ρ (ρ (ρ a0 3) 6) 6) (hn_79 : ρ (ρ a1 4) 5 ≠ ρ a0 2) (hn_80 : ρ (ρ a1 4) 5 ≠ ρ a0 1) (hn_81 : ρ (ρ a1 4) 5 ≠ ρ a0 0) (hf_82 : fi D 3 0 H (ρ (ρ a1 4) 5) = 0) (hn_83 : ρ (ρ a1 4) 5 ≠ ρ (ρ a0 4) 5) (hf_84 : fi D 3 1 H (ρ (ρ a1 4) 5) = 1) (hf_85 : fi D 3 2 H (ρ (ρ a1 4) 5) = 13) (hf_86 : fi D 3 3 H (ρ (ρ a1 4) 5) = (-4)) (hf_87 : fi D 3 4 H (ρ (ρ a1 4) 5) = 0) (hf_88 : fl D 3 5 H (ρ (ρ a1 4) 5) = 0) (hn_89 : ρ (ρ a1 4) 6 ≠ ρ a0 3) (hn_90 : ρ (ρ a1 4) 6 ≠ ρ (ρ a0 3) 4) (hn_91 : ρ (ρ a1 4) 6 ≠ ρ (ρ (ρ a0 3) 4) 7) (hn_92 : ρ (ρ a1 4) 6 ≠ ρ (ρ a0 3) 5) (hn_93 : ρ (ρ a1 4) 6 ≠ ρ (ρ (ρ a0 3) 5) 6) (hn_94 : ρ (ρ a1 4) 6 ≠ ρ (ρ a0 3) 6) (hn_95 : ρ (ρ a1 4) 6 ≠ ρ (ρ (ρ a0 3) 6) 6) (hn_96 : ρ (ρ a1 4) 6 ≠ ρ a0 2) (hn_97 : ρ (ρ a1 4) 6 ≠ ρ a0 1) (hn_98 : ρ (ρ a1 4) 6 ≠ ρ a0 0) (hf_99 : fi D 7 0 H (ρ (ρ a1 4) 6) = 6) (hn_100 : ρ (ρ a1 4) 6 ≠ ρ (ρ a0 4) 6) (hf_101 : fi D 7 1 H (ρ (ρ a1 4) 6) = 0) (hf_102 : fi D 7 2 H (ρ (ρ a1 4) 6) = 0) (hf_103 : fi D 7 3 H (ρ (ρ a1 4) 6) = (-4)) (hf_104 : fi D 7 4 H (ρ (ρ a1 4) 6) = 0) (hf_105 : fi D 7 5 H (ρ (ρ a1 4) 6) = 0) (hn_106 : ρ (ρ (ρ a0 4) 4) 7 ≠ ρ (ρ (ρ a0 4) 5) 6) (hf_107 : fi D 4 7 H a1 = (-4)) (hn_108 : a1 ≠ a0) (hf_109 : fi D 4 8 H a1 = (-4)) (hf_110 : fi D 4 9 H a1 = 0) (hn_111 : ρ (ρ a0 3) 6 ≠ ρ (ρ a0 4) 6) (hn_112 : ρ (ρ a0 3) 5 ≠ ρ (ρ a0 4) 5) (hn_113 : ρ (ρ a0 3) 4 ≠ ρ (ρ a0 4) 4) (hn_114 : ρ a0 3 ≠ ρ a0 4) (hn_115 : ρ (ρ (ρ a0 3) 4) 7 ≠ ρ (ρ (ρ a0 4) 4) 7) (hn_116 : ρ (ρ (ρ a0 3) 4) 7 ≠ ρ (ρ (ρ a0 4) 5) 6) (hn_117 : ρ (ρ (ρ a0 3) 5) 6 ≠ ρ (ρ (ρ a0 4) 4) 7) (hn_118 : ρ (ρ (ρ a0 3) 5) 6 ≠ ρ (ρ (ρ a0 4) 5) 6) (hn_119 : ρ (ρ (ρ a0 3) 6) 6 ≠ ρ (ρ (ρ a0 4) 6) 6) : MV l D cI cS τ ρ yX4_copyFrom cX4_copyFrom 2 none 3 82 H [.ref a0, .ref a1] (fun (u : Heap) => fi D 1 4 u (ρ a0 0) = 5 ∧ fi D 1 3 u (ρ a0 0) = 100 ∧ fi D 1 2 u (ρ a0 0) = 250 ∧ fi D 1 1 u (ρ a0 0) = 12 ∧ fi D 1 0 u (ρ a0 0) = 4 ∧ fi D 10 5 u (ρ a0 1) = 0 ∧ fi D 10 4 u (ρ a0 1) = 0 ∧ fi D 10 3 u (ρ a0 1) = 0 ∧ fi D 10 2 u (ρ a0 1) = 0 ∧ fi D 0 0 u (ρ a0 2) = 0 ∧ fi D 7 0 u (ρ (ρ a0 3) 6) = 6 ∧ fi D 7 1 u (ρ (ρ a0 3) 6) = 0 ∧ fi D 7 2 u (ρ (ρ a0 3) 6) = 0 ∧ fi D 7 3 u (ρ (ρ a0 3) 6) = (-4) ∧ fi D 7 4 u (ρ (ρ a0 3) 6) = 0 ∧ fi D 7 5 u (ρ (ρ a0 3) 6) = 0 ∧ fi D 3 0 u (ρ (ρ a0 3) 5) = 0 ∧ fi D 3 1 u (ρ (ρ a0 3) 5) = 1 ∧ fi D 3 2 u (ρ (ρ a0 3) 5) = 13 ∧ fi D 3 3 u (ρ (ρ a0 3) 5) = (-4) ∧ fi D 3 4 u (ρ (ρ a0 3) 5) = 0 ∧ fl D 3 5 u (ρ (ρ a0 3) 5) = 0 ∧ fi D 5 0 u (ρ (ρ a0 3) 4) = 0 ∧ fi D 5 1 u (ρ (ρ a0 3) 4) = 0 ∧ fi D 5 2 u (ρ (ρ a0 3) 4) = 1 ∧ fi D 5 3 u (ρ (ρ a0 3) 4) = 0 ∧ fi D 5 4 u (ρ (ρ a0 3) 4) = 0 ∧ fi D 5 5 u (ρ (ρ a0 3) 4) = 0 ∧ fl D 5 6 u (ρ (ρ a0 3) 4) = 0 ∧ fi D 2 9 u (ρ a0 3) = 0 ∧ fi D 2 8 u (ρ a0 3) = 0 ∧ fi D 2 7 u (ρ a0 3) = 0 ∧ fi D 7 0 u (ρ (ρ a0 4) 6) = 6 ∧ fi D 7 1 u (ρ (ρ a0 4) 6) = 0 ∧ fi D 7 2 u (ρ (ρ a0 4) 6) = 0 ∧ fi D 7 3 u (ρ (ρ a0 4) 6) = (-4) ∧ fi D 7 4 u (ρ (ρ a0 4) 6) = 0 ∧ fi D 7 5 u (ρ (ρ a0 4) 6) = 0 ∧ fi D 3 0 u (ρ (ρ a0 4) 5) = 0 ∧ fi D 3 1 u (ρ (ρ a0 4) 5) = 1 ∧ fi D 3 2 u (ρ (ρ a0 4) 5) = 13 ∧ fi D 3 3 u (ρ (ρ a0 4) 5) = (-4) ∧ fi D 3 4 u (ρ (ρ a0 4) 5) = 0 ∧ fl D 3 5 u (ρ (ρ a0 4) 5) = 0 ∧ fi D 5 0 u (ρ (ρ a0 4) 4) = 0 ∧ fi D 5 1 u (ρ (ρ a0 4) 4) = 0 ∧ fi D 5 2 u (ρ (ρ a0 4) 4) = 1 ∧ fi D 5 3 u (ρ (ρ a0 4) 4) = 0 ∧ fi D 5 4 u (ρ (ρ a0 4) 4) = 0 ∧ fi D 5 5 u (ρ (ρ a0 4) 4) = 0 ∧ fl D 5 6 u (ρ (ρ a0 4) 4) = 0 ∧ fi D 2 9 u (ρ a0 4) = 0 ∧ fi D 2 8 u (ρ a0 4) = 0 ∧ fi D 2 7 u (ρ a0 4) = 0 ∧ fi D 4 7 u a0 = (-4) ∧ fi D 4 8 u a0 = (-4) ∧ fi D 4 9 u a0 = 0) (fun q => q = ρ a0 0 ∨ q = ρ a0 1 ∨ q = ρ a0 2 ∨ q = ρ a0 3 ∨ q = ρ (ρ a0 3) 4 ∨ q = ρ (ρ (ρ a0 3) 4) 7 ∨ q = ρ (ρ a0 3) 5 ∨ q = ρ (ρ (ρ a0 3) 5) 6 ∨ q = ρ (ρ a0 3) 6 ∨ q = ρ (ρ (ρ a0 3) 6) 6 ∨ q = ρ a0 4 ∨ q = ρ (ρ a0 4) 4 ∨ q = ρ (ρ (ρ a0 4) 4) 7 ∨ q = ρ (ρ a0 4) 5 ∨ q = ρ (ρ (ρ a0 4) 5) 6 ∨ q = ρ (ρ a0 4) 6 ∨ q = ρ (ρ (ρ a0 4) 6) 6 ∨ q = a0) := by
  refine MV.of (by decide) (Nat.le_of_ble_eq_true rfl) ?_
  intro p e s m args below meth c E hml hr hlk hs ls hl
  have hx := E.1
  have hb := E.2.1
  have hown := E.2.2.1
  have hts := E.2.2.2.1
  have hS : SS (fun q => q = ρ a0 0 ∨ q = ρ a0 1 ∨ q = ρ a0 2 ∨ q = ρ a0 3 ∨ q = ρ (ρ a0 3) 4 ∨ q = ρ (ρ (ρ a0 3) 4) 7 ∨ q = ρ (ρ a0 3) 5 ∨ q = ρ (ρ (ρ a0 3) 5) 6 ∨ q = ρ (ρ a0 3) 6 ∨ q = ρ (ρ (ρ a0 3) 6) 6 ∨ q = ρ a0 4 ∨ q = ρ (ρ a0 4) 4 ∨ q = ρ (ρ (ρ a0 4) 4) 7 ∨ q = ρ (ρ a0 4) 5 ∨ q = ρ (ρ (ρ a0 4) 5) 6 ∨ q = ρ (ρ a0 4) 6 ∨ q = ρ (ρ (ρ a0 4) 6) 6 ∨ q = a0) H H [] := SS.rf
  have hl : lv_has ls 2 [(0, .ref a0), (1, .ref a1)] := hl
  refine lv_aload_n hx hb dX4_copyFrom_0 rfl (lv_at hl 0 rfl) ?_
  refine gf_X4_12 E hT hW ha0 dX4_copyFrom_1 (fun h_1 => ?_)
  refine lv_aload_n hx hb dX4_copyFrom_4 rfl (lv_at hl 1 rfl) ?_
  refine gf_X4_12 E hT hW ha1 dX4_copyFrom_5 (fun h_2 => ?_)
  refine th_Vv (As := [.ref (ρ a1 0)]) (rest := []) E hml hl.1 (c_X1_copyFrom_v2 l D cI cS τ ρ hW H hT (ρ a0 0) (ρ a1 0) h_1 h_2 hf_1 hn_2 hf_3 hf_4 hf_5 hf_6) lk_X4_56 yd_X1_copyFrom hT h_1 rfl (by decide) hS (fun q h => (Or.inl h)) ⟨by decide, by decide⟩ (Nat.le_of_ble_eq_true rfl) ⟨by decide, by decide⟩ rfl dX4_copyFrom_8 (fun H_3 locs_3 p_3 hT_3 hk_3 hS_3 => ?_)
  have p_3 : fi D 1 0 H_3 (ρ a0 0) = 4 ∧ fi D 1 1 H_3 (ρ a0 0) = 12 ∧ fi D 1 2 H_3 (ρ a0 0) = 250 ∧ fi D 1 3 H_3 (ρ a0 0) = 100 ∧ fi D 1 4 H_3 (ρ a0 0) = 5 := p_3
  obtain ⟨p_3_0, p_3_1, p_3_2, p_3_3, p_3_4⟩ := p_3
  refine lv_aload_n hx hb dX4_copyFrom_11 rfl (lv_at hl 0 rfl) ?_
  refine gf_X4_21 E hT_3 hW ha0 dX4_copyFrom_12 (fun h_4 => ?_)
  refine lv_aload_n hx hb dX4_copyFrom_15 rfl (lv_at hl 1 rfl) ?_
  refine gf_X4_21 E hT_3 hW ha1 dX4_copyFrom_16 (fun h_5 => ?_)
  refine th_Vv (As := [.ref (ρ a1 1)]) (rest := []) E hml hl.1 (c_X10_copyFrom l D cI cS τ ρ hW H_3 hT_3 (ρ a0 1) (ρ a1 1) h_4 h_5 (Eq.trans (fi_q (hk_3 _ (th_ne h_5 h_1 (by decide)))) hf_7) hn_8 (Eq.trans (fi_q (hk_3 _ (th_ne h_5 h_1 (by decide)))) hf_9) (Eq.trans (fi_q (hk_3 _ (th_ne h_5 h_1 (by decide)))) hf_10) (Eq.trans (fi_q (hk_3 _ (th_ne h_5 h_1 (by decide)))) hf_11)) lk_X4_79 yd_X10_copyFrom hT_3 h_4 rfl (by decide) hS_3 (fun q h => (Or.inr (Or.inl h))) ⟨by decide, by decide⟩ (Nat.le_of_ble_eq_true rfl) ⟨by decide, by decide⟩ rfl dX4_copyFrom_19 (fun H_6 locs_6 p_6 hT_6 hk_6 hS_6 => ?_)
  have p_6 : fi D 10 2 H_6 (ρ a0 1) = 0 ∧ fi D 10 3 H_6 (ρ a0 1) = 0 ∧ fi D 10 4 H_6 (ρ a0 1) = 0 ∧ fi D 10 5 H_6 (ρ a0 1) = 0 := p_6
  obtain ⟨p_6_0, p_6_1, p_6_2, p_6_3⟩ := p_6
  refine lv_aload_n hx hb dX4_copyFrom_22 rfl (lv_at hl 0 rfl) ?_
  refine gf_X4_28 E hT_6 hW ha0 dX4_copyFrom_23 (fun h_7 => ?_)
  refine lv_aload_n hx hb dX4_copyFrom_26 rfl (lv_at hl 1 rfl) ?_
  refine gf_X4_28 E hT_6 hW ha1 dX4_copyFrom_27 (fun h_8 => ?_)
  refine gf_X4_63 E hT_6 h_8 dX4_copyFrom_30 ?_
  refine th_topi (y := 0) (Eq.trans (fi_q (hk_6 _ (th_ne h_8 h_4 (by decide)))) (Eq.trans (fi_q (hk_3 _ (th_ne h_8 h_1 (by decide)))) hf_12)) ?_
  refine pf_X4_63 E hT_6 hS_6 h_7 (Or.inr (Or.inr (Or.inl rfl))) dX4_copyFrom_33 (fun H_9 locs_9 hT_9 hU_9 hS_9 => ?_)
  refine lv_aload_n hx hb dX4_copyFrom_36 rfl (lv_at hl 0 rfl) ?_
  refine gf_X4_37 E hT_9 hW ha0 dX4_copyFrom_37 (fun h_10 => ?_)
  refine lv_aload_n hx hb dX4_copyFrom_40 rfl (lv_at hl 1 rfl) ?_
  refine gf_X4_37 E hT_9 hW ha1 dX4_copyFrom_41 (fun h_11 => ?_)
  refine th_Vv (As := [.ref (ρ a1 3)]) (rest := []) E hml hl.1 (c_X2_copyFrom l D cI cS τ ρ hW H_9 hT_9 (ρ a0 3) (ρ a1 3) h_10 h_11 (Eq.trans (fi_q (hU_9.2.2 _ (th_ne h_11 h_7 (by decide)))) (Eq.trans (fi_q (hk_6 _ (th_ne h_11 h_4 (by decide)))) (Eq.trans (fi_q (hk_3 _ (th_ne h_11 h_1 (by decide)))) hf_13))) hn_14 (Eq.trans (fi_q (hU_9.2.2 _ (th_ne h_11 h_7 (by decide)))) (Eq.trans (fi_q (hk_6 _ (th_ne h_11 h_4 (by decide)))) (Eq.trans (fi_q (hk_3 _ (th_ne h_11 h_1 (by decide)))) hf_15))) (Eq.trans (fi_q (hU_9.2.2 _ (th_ne h_11 h_7 (by decide)))) (Eq.trans (fi_q (hk_6 _ (th_ne h_11 h_4 (by decide)))) (Eq.trans (fi_q (hk_3 _ (th_ne h_11 h_1 (by decide)))) hf_16))) (Eq.trans (fi_q (hU_9.2.2 _ hn_17)) (Eq.trans (fi_q (hk_6 _ hn_18)) (Eq.trans (fi_q (hk_3 _ hn_19)) hf_20))) hn_21 (Eq.trans (fi_q (hU_9.2.2 _ hn_17)) (Eq.trans (fi_q (hk_6 _ hn_18)) (Eq.trans (fi_q (hk_3 _ hn_19)) hf_22))) (Eq.trans (fi_q (hU_9.2.2 _ hn_17)) (Eq.trans (fi_q (hk_6 _ hn_18)) (Eq.trans (fi_q (hk_3 _ hn_19)) hf_23))) (Eq.trans (fi_q (hU_9.2.2 _ hn_17)) (Eq.trans (fi_q (hk_6 _ hn_18)) (Eq.trans (fi_q (hk_3 _ hn_19)) hf_24))) (Eq.trans (fi_q (hU_9.2.2 _ hn_17)) (Eq.trans (fi_q (hk_6 _ hn_18)) (Eq.trans (fi_q (hk_3 _ hn_19)) hf_25))) (Eq.trans (fi_q (hU_9.2.2 _ hn_17)) (Eq.trans (fi_q (hk_6 _ hn_18)) (Eq.trans (fi_q (hk_3 _ hn_19)) hf_26))) (Eq.trans (fl_q (hU_9.2.2 _ hn_17)) (Eq.trans (fl_q (hk_6 _ hn_18)) (Eq.trans (fl_q (hk_3 _ hn_19)) hf_27))) (Eq.trans (fi_q (hU_9.2.2 _ hn_28)) (Eq.trans (fi_q (hk_6 _ hn_29)) (Eq.trans (fi_q (hk_3 _ hn_30)) hf_31))) hn_32 (Eq.trans (fi_q (hU_9.2.2 _ hn_28)) (Eq.trans (fi_q (hk_6 _ hn_29)) (Eq.trans (fi_q (hk_3 _ hn_30)) hf_33))) (Eq.trans (fi_q (hU_9.2.2 _ hn_28)) (Eq.trans (fi_q (hk_6 _ hn_29)) (Eq.trans (fi_q (hk_3 _ hn_30)) hf_34))) (Eq.trans (fi_q (hU_9.2.2 _ hn_28)) (Eq.trans (fi_q (hk_6 _ hn_29)) (Eq.trans (fi_q (hk_3 _ hn_30)) hf_35))) (Eq.trans (fi_q (hU_9.2.2 _ hn_28)) (Eq.trans (fi_q (hk_6 _ hn_29)) (Eq.trans (fi_q (hk_3 _ hn_30)) hf_36))) (Eq.trans (fl_q (hU_9.2.2 _ hn_28)) (Eq.trans (fl_q (hk_6 _ hn_29)) (Eq.trans (fl_q (hk_3 _ hn_30)) hf_37))) (Eq.trans (fi_q (hU_9.2.2 _ hn_38)) (Eq.trans (fi_q (hk_6 _ hn_39)) (Eq.trans (fi_q (hk_3 _ hn_40)) hf_41))) hn_42 (Eq.trans (fi_q (hU_9.2.2 _ hn_38)) (Eq.trans (fi_q (hk_6 _ hn_39)) (Eq.trans (fi_q (hk_3 _ hn_40)) hf_43))) (Eq.trans (fi_q (hU_9.2.2 _ hn_38)) (Eq.trans (fi_q (hk_6 _ hn_39)) (Eq.trans (fi_q (hk_3 _ hn_40)) hf_44))) (Eq.trans (fi_q (hU_9.2.2 _ hn_38)) (Eq.trans (fi_q (hk_6 _ hn_39)) (Eq.trans (fi_q (hk_3 _ hn_40)) hf_45))) (Eq.trans (fi_q (hU_9.2.2 _ hn_38)) (Eq.trans (fi_q (hk_6 _ hn_39)) (Eq.trans (fi_q (hk_3 _ hn_40)) hf_46))) (Eq.trans (fi_q (hU_9.2.2 _ hn_38)) (Eq.trans (fi_q (hk_6 _ hn_39)) (Eq.trans (fi_q (hk_3 _ hn_40)) hf_47))) hn_48) lk_X4_82 yd_X2_copyFrom hT_9 h_10 rfl (by decide) hS_9 (fun q => (fun h => h.elim (fun h => (Or.inr (Or.inr (Or.inr (Or.inl h))))) (fun h => h.elim (fun h => (Or.inr (Or.inr (Or.inr (Or.inr (Or.inl h)))))) (fun h => h.elim (fun h => (Or.inr (Or.inr (Or.inr (Or.inr (Or.inr (Or.inl h))))))) (fun h => h.elim (fun h => (Or.inr (Or.inr (Or.inr (Or.inr (Or.inr (Or.inr (Or.inl h)))))))) (fun h => h.elim (fun h => (Or.inr (Or.inr (Or.inr (Or.inr (Or.inr (Or.inr (Or.inr (Or.inl h))))))))) (fun h => h.elim (fun h => (Or.inr (Or.inr (Or.inr (Or.inr (Or.inr (Or.inr (Or.inr (Or.inr (Or.inl h)))))))))) (fun h => (Or.inr (Or.inr (Or.inr (Or.inr (Or.inr (Or.inr (Or.inr (Or.inr (Or.inr (Or.inl h)))))))))))))))))) ⟨by decide, by decide⟩ (Nat.le_of_ble_eq_true rfl) ⟨by decide, by decide⟩ rfl dX4_copyFrom_44 (fun H_12 locs_12 p_12 hT_12 hk_12 hS_12 => ?_)
  have p_12 : fi D 2 7 H_12 (ρ a0 3) = 0 ∧ fi D 2 8 H_12 (ρ a0 3) = 0 ∧ fi D 2 9 H_12 (ρ a0 3) = 0 ∧ fl D 5 6 H_12 (ρ (ρ a0 3) 4) = 0 ∧ fi D 5 5 H_12 (ρ (ρ a0 3) 4) = 0 ∧ fi D 5 4 H_12 (ρ (ρ a0 3) 4) = 0 ∧ fi D 5 3 H_12 (ρ (ρ a0 3) 4) = 0 ∧ fi D 5 2 H_12 (ρ (ρ a0 3) 4) = 1 ∧ fi D 5 1 H_12 (ρ (ρ a0 3) 4) = 0 ∧ fi D 5 0 H_12 (ρ (ρ a0 3) 4) = 0 ∧ fl D 3 5 H_12 (ρ (ρ a0 3) 5) = 0 ∧ fi D 3 4 H_12 (ρ (ρ a0 3) 5) = 0 ∧ fi D 3 3 H_12 (ρ (ρ a0 3) 5) = (-4) ∧ fi D 3 2 H_12 (ρ (ρ a0 3) 5) = 13 ∧ fi D 3 1 H_12 (ρ (ρ a0 3) 5) = 1 ∧ fi D 3 0 H_12 (ρ (ρ a0 3) 5) = 0 ∧ fi D 7 5 H_12 (ρ (ρ a0 3) 6) = 0 ∧ fi D 7 4 H_12 (ρ (ρ a0 3) 6) = 0 ∧ fi D 7 3 H_12 (ρ (ρ a0 3) 6) = (-4) ∧ fi D 7 2 H_12 (ρ (ρ a0 3) 6) = 0 ∧ fi D 7 1 H_12 (ρ (ρ a0 3) 6) = 0 ∧ fi D 7 0 H_12 (ρ (ρ a0 3) 6) = 6 := p_12
  obtain ⟨p_12_0, p_12_1, p_12_2, p_12_3, p_12_4, p_12_5, p_12_6, p_12_7, p_12_8, p_12_9, p_12_10, p_12_11, p_12_12, p_12_13, p_12_14, p_12_15, p_12_16, p_12_17, p_12_18, p_12_19, p_12_20, p_12_21⟩ := p_12
  refine lv_aload_n hx hb dX4_copyFrom_47 rfl (lv_at hl 0 rfl) ?_
  refine gf_X4_41 E hT_12 hW ha0 dX4_copyFrom_48 (fun h_13 => ?_)
  refine lv_aload_n hx hb dX4_copyFrom_51 rfl (lv_at hl 1 rfl) ?_
  refine gf_X4_41 E hT_12 hW ha1 dX4_copyFrom_52 (fun h_14 => ?_)
  refine th_Vv (As := [.ref (ρ a1 4)]) (rest := []) E hml hl.1 (c_X2_copyFrom l D cI cS τ ρ hW H_12 hT_12 (ρ a0 4) (ρ a1 4) h_13 h_14 (Eq.trans (fi_q (hk_12 _ (fun h => h.elim hn_49 (fun h => h.elim (th_ne h_14 (hW _ 2 4 h_10 (by decide) (by decide) (by decide)) (by decide)) (fun h => h.elim (th_ne h_14 (hW _ 5 7 (hW _ 2 4 h_10 (by decide) (by decide) (by decide)) (by decide) (by decide) (by decide)) (by decide)) (fun h => h.elim (th_ne h_14 (hW _ 2 5 h_10 (by decide) (by decide) (by decide)) (by decide)) (fun h => h.elim (th_ne h_14 (hW _ 3 6 (hW _ 2 5 h_10 (by decide) (by decide) (by decide)) (by decide) (by decide) (by decide)) (by decide)) (fun h => h.elim (th_ne h_14 (hW _ 2 6 h_10 (by decide) (by decide) (by decide)) (by decide)) (th_ne h_14 (hW _ 7 6 (hW _ 2 6 h_10 (by decide) (by decide) (by decide)) (by decide) (by decide) (by decide)) (by decide)))))))))) (Eq.trans (fi_q (hU_9.2.2 _ (th_ne h_14 h_7 (by decide)))) (Eq.trans (fi_q (hk_6 _ (th_ne h_14 h_4 (by decide)))) (Eq.trans (fi_q (hk_3 _ (th_ne h_14 h_1 (by decide)))) hf_50)))) hn_51 (Eq.trans (fi_q (hk_12 _ (fun h => h.elim hn_49 (fun h => h.elim (th_ne h_14 (hW _ 2 4 h_10 (by decide) (by decide) (by decide)) (by decide)) (fun h => h.elim (th_ne h_14 (hW _ 5 7 (hW _ 2 4 h_10 (by decide) (by decide) (by decide)) (by decide) (by decide) (by decide)) (by decide)) (fun h => h.elim (th_ne h_14 (hW _ 2 5 h_10 (by decide) (by decide) (by decide)) (by decide)) (fun h => h.elim (th_ne h_14 (hW _ 3 6 (hW _ 2 5 h_10 (by decide) (by decide) (by decide)) (by decide) (by decide) (by decide)) (by decide)) (fun h => h.elim (th_ne h_14 (hW _ 2 6 h_10 (by decide) (by decide) (by decide)) (by decide)) (th_ne h_14 (hW _ 7 6 (hW _ 2 6 h_10 (by decide) (by decide) (by decide)) (by decide) (by decide) (by decide)) (by decide)))))))))) (Eq.trans (fi_q (hU_9.2.2 _ (th_ne h_14 h_7 (by decide)))) (Eq.trans (fi_q (hk_6 _ (th_ne h_14 h_4 (by decide)))) (Eq.trans (fi_q (hk_3 _ (th_ne h_14 h_1 (by decide)))) hf_52)))) (Eq.trans (fi_q (hk_12 _ (fun h => h.elim hn_49 (fun h => h.elim (th_ne h_14 (hW _ 2 4 h_10 (by decide) (by decide) (by decide)) (by decide)) (fun h => h.elim (th_ne h_14 (hW _ 5 7 (hW _ 2 4 h_10 (by decide) (by decide) (by decide)) (by decide) (by decide) (by decide)) (by decide)) (fun h => h.elim (th_ne h_14 (hW _ 2 5 h_10 (by decide) (by decide) (by decide)) (by decide)) (fun h => h.elim (th_ne h_14 (hW _ 3 6 (hW _ 2 5 h_10 (by decide) (by decide) (by decide)) (by decide) (by decide) (by decide)) (by decide)) (fun h => h.elim (th_ne h_14 (hW _ 2 6 h_10 (by decide) (by decide) (by decide)) (by decide)) (th_ne h_14 (hW _ 7 6 (hW _ 2 6 h_10 (by decide) (by decide) (by decide)) (by decide) (by decide) (by decide)) (by decide)))))))))) (Eq.trans (fi_q (hU_9.2.2 _ (th_ne h_14 h_7 (by decide)))) (Eq.trans (fi_q (hk_6 _ (th_ne h_14 h_4 (by decide)))) (Eq.trans (fi_q (hk_3 _ (th_ne h_14 h_1 (by decide)))) hf_53)))) (Eq.trans (fi_q (hk_12 _ (fun h => h.elim hn_54 (fun h => h.elim hn_55 (fun h => h.elim hn_56 (fun h => h.elim hn_57 (fun h => h.elim hn_58 (fun h => h.elim hn_59 hn_60)))))))) (Eq.trans (fi_q (hU_9.2.2 _ hn_61)) (Eq.trans (fi_q (hk_6 _ hn_62)) (Eq.trans (fi_q (hk_3 _ hn_63)) hf_64)))) hn_65 (Eq.trans (fi_q (hk_12 _ (fun h => h.elim hn_54 (fun h => h.elim hn_55 (fun h => h.elim hn_56 (fun h => h.elim hn_57 (fun h => h.elim hn_58 (fun h => h.elim hn_59 hn_60)))))))) (Eq.trans (fi_q (hU_9.2.2 _ hn_61)) (Eq.trans (fi_q (hk_6 _ hn_62)) (Eq.trans (fi_q (hk_3 _ hn_63)) hf_66)))) (Eq.trans (fi_q (hk_12 _ (fun h => h.elim hn_54 (fun h => h.elim hn_55 (fun h => h.elim hn_56 (fun h => h.elim hn_57 (fun h => h.elim hn_58 (fun h => h.elim hn_59 hn_60)))))))) (Eq.trans (fi_q (hU_9.2.2 _ hn_61)) (Eq.trans (fi_q (hk_6 _ hn_62)) (Eq.trans (fi_q (hk_3 _ hn_63)) hf_67)))) (Eq.trans (fi_q (hk_12 _ (fun h => h.elim hn_54 (fun h => h.elim hn_55 (fun h => h.elim hn_56 (fun h => h.elim hn_57 (fun h => h.elim hn_58 (fun h => h.elim hn_59 hn_60)))))))) (Eq.trans (fi_q (hU_9.2.2 _ hn_61)) (Eq.trans (fi_q (hk_6 _ hn_62)) (Eq.trans (fi_q (hk_3 _ hn_63)) hf_68)))) (Eq.trans (fi_q (hk_12 _ (fun h => h.elim hn_54 (fun h => h.elim hn_55 (fun h => h.elim hn_56 (fun h => h.elim hn_57 (fun h => h.elim hn_58 (fun h => h.elim hn_59 hn_60)))))))) (Eq.trans (fi_q (hU_9.2.2 _ hn_61)) (Eq.trans (fi_q (hk_6 _ hn_62)) (Eq.trans (fi_q (hk_3 _ hn_63)) hf_69)))) (Eq.trans (fi_q (hk_12 _ (fun h => h.elim hn_54 (fun h => h.elim hn_55 (fun h => h.elim hn_56 (fun h => h.elim hn_57 (fun h => h.elim hn_58 (fun h => h.elim hn_59 hn_60)))))))) (Eq.trans (fi_q (hU_9.2.2 _ hn_61)) (Eq.trans (fi_q (hk_6 _ hn_62)) (Eq.trans (fi_q (hk_3 _ hn_63)) hf_70)))) (Eq.trans (fl_q (hk_12 _ (fun h => h.elim hn_54 (fun h => h.elim hn_55 (fun h => h.elim hn_56 (fun h => h.elim hn_57 (fun h => h.elim hn_58 (fun h => h.elim hn_59 hn_60)))))))) (Eq.trans (fl_q (hU_9.2.2 _ hn_61)) (Eq.trans (fl_q (hk_6 _ hn_62)) (Eq.trans (fl_q (hk_3 _ hn_63)) hf_71)))) (Eq.trans (fi_q (hk_12 _ (fun h => h.elim hn_72 (fun h => h.elim hn_73 (fun h => h.elim hn_74 (fun h => h.elim hn_75 (fun h => h.elim hn_76 (fun h => h.elim hn_77 hn_78)))))))) (Eq.trans (fi_q (hU_9.2.2 _ hn_79)) (Eq.trans (fi_q (hk_6 _ hn_80)) (Eq.trans (fi_q (hk_3 _ hn_81)) hf_82)))) hn_83 (Eq.trans (fi_q (hk_12 _ (fun h => h.elim hn_72 (fun h => h.elim hn_73 (fun h => h.elim hn_74 (fun h => h.elim hn_75 (fun h => h.elim hn_76 (fun h => h.elim hn_77 hn_78)))))))) (Eq.trans (fi_q (hU_9.2.2 _ hn_79)) (Eq.trans (fi_q (hk_6 _ hn_80)) (Eq.trans (fi_q (hk_3 _ hn_81)) hf_84)))) (Eq.trans (fi_q (hk_12 _ (fun h => h.elim hn_72 (fun h => h.elim hn_73 (fun h => h.elim hn_74 (fun h => h.elim hn_75 (fun h => h.elim hn_76 (fun h => h.elim hn_77 hn_78)))))))) (Eq.trans (fi_q (hU_9.2.2 _ hn_79)) (Eq.trans (fi_q (hk_6 _ hn_80)) (Eq.trans (fi_q (hk_3 _ hn_81)) hf_85)))) (Eq.trans (fi_q (hk_12 _ (fun h => h.elim hn_72 (fun h => h.elim hn_73 (fun h => h.elim hn_74 (fun h => h.elim hn_75 (fun h => h.elim hn_76 (fun h => h.elim hn_77 hn_78)))))))) (Eq.trans (fi_q (hU_9.2.2 _ hn_79)) (Eq.trans (fi_q (hk_6 _ hn_80)) (Eq.trans (fi_q (hk_3 _ hn_81)) hf_86)))) (Eq.trans (fi_q (hk_12 _ (fun h => h.elim hn_72 (fun h => h.elim hn_73 (fun h => h.elim hn_74 (fun h => h.elim hn_75 (fun h => h.elim hn_76 (fun h => h.elim hn_77 hn_78)))))))) (Eq.trans (fi_q (hU_9.2.2 _ hn_79)) (Eq.trans (fi_q (hk_6 _ hn_80)) (Eq.trans (fi_q (hk_3 _ hn_81)) hf_87)))) (Eq.trans (fl_q (hk_12 _ (fun h => h.elim hn_72 (fun h => h.elim hn_73 (fun h => h.elim hn_74 (fun h => h.elim hn_75 (fun h => h.elim hn_76 (fun h => h.elim hn_77 hn_78)))))))) (Eq.trans (fl_q (hU_9.2.2 _ hn_79)) (Eq.trans (fl_q (hk_6 _ hn_80)) (Eq.trans (fl_q (hk_3 _ hn_81)) hf_88)))) (Eq.trans (fi_q (hk_12 _ (fun h => h.elim hn_89 (fun h => h.elim hn_90 (fun h => h.elim hn_91 (fun h => h.elim hn_92 (fun h => h.elim hn_93 (fun h => h.elim hn_94 hn_95)))))))) (Eq.trans (fi_q (hU_9.2.2 _ hn_96)) (Eq.trans (fi_q (hk_6 _ hn_97)) (Eq.trans (fi_q (hk_3 _ hn_98)) hf_99)))) hn_100 (Eq.trans (fi_q (hk_12 _ (fun h => h.elim hn_89 (fun h => h.elim hn_90 (fun h => h.elim hn_91 (fun h => h.elim hn_92 (fun h => h.elim hn_93 (fun h => h.elim hn_94 hn_95)))))))) (Eq.trans (fi_q (hU_9.2.2 _ hn_96)) (Eq.trans (fi_q (hk_6 _ hn_97)) (Eq.trans (fi_q (hk_3 _ hn_98)) hf_101)))) (Eq.trans (fi_q (hk_12 _ (fun h => h.elim hn_89 (fun h => h.elim hn_90 (fun h => h.elim hn_91 (fun h => h.elim hn_92 (fun h => h.elim hn_93 (fun h => h.elim hn_94 hn_95)))))))) (Eq.trans (fi_q (hU_9.2.2 _ hn_96)) (Eq.trans (fi_q (hk_6 _ hn_97)) (Eq.trans (fi_q (hk_3 _ hn_98)) hf_102)))) (Eq.trans (fi_q (hk_12 _ (fun h => h.elim hn_89 (fun h => h.elim hn_90 (fun h => h.elim hn_91 (fun h => h.elim hn_92 (fun h => h.elim hn_93 (fun h => h.elim hn_94 hn_95)))))))) (Eq.trans (fi_q (hU_9.2.2 _ hn_96)) (Eq.trans (fi_q (hk_6 _ hn_97)) (Eq.trans (fi_q (hk_3 _ hn_98)) hf_103)))) (Eq.trans (fi_q (hk_12 _ (fun h => h.elim hn_89 (fun h => h.elim hn_90 (fun h => h.elim hn_91 (fun h => h.elim hn_92 (fun h => h.elim hn_93 (fun h => h.elim hn_94 hn_95)))))))) (Eq.trans (fi_q (hU_9.2.2 _ hn_96)) (Eq.trans (fi_q (hk_6 _ hn_97)) (Eq.trans (fi_q (hk_3 _ hn_98)) hf_104)))) (Eq.trans (fi_q (hk_12 _ (fun h => h.elim hn_89 (fun h => h.elim hn_90 (fun h => h.elim hn_91 (fun h => h.elim hn_92 (fun h => h.elim hn_93 (fun h => h.elim hn_94 hn_95)))))))) (Eq.trans (fi_q (hU_9.2.2 _ hn_96)) (Eq.trans (fi_q (hk_6 _ hn_97)) (Eq.trans (fi_q (hk_3 _ hn_98)) hf_105)))) hn_106) lk_X4_82 yd_X2_copyFrom hT_12 h_13 rfl (by decide) hS_12 (fun q => (fun h => h.elim (fun h => (Or.inr (Or.inr (Or.inr (Or.inr (Or.inr (Or.inr (Or.inr (Or.inr (Or.inr (Or.inr (Or.inl h)))))))))))) (fun h => h.elim (fun h => (Or.inr (Or.inr (Or.inr (Or.inr (Or.inr (Or.inr (Or.inr (Or.inr (Or.inr (Or.inr (Or.inr (Or.inl h))))))))))))) (fun h => h.elim (fun h => (Or.inr (Or.inr (Or.inr (Or.inr (Or.inr (Or.inr (Or.inr (Or.inr (Or.inr (Or.inr (Or.inr (Or.inr (Or.inl h)))))))))))))) (fun h => h.elim (fun h => (Or.inr (Or.inr (Or.inr (Or.inr (Or.inr (Or.inr (Or.inr (Or.inr (Or.inr (Or.inr (Or.inr (Or.inr (Or.inr (Or.inl h))))))))))))))) (fun h => h.elim (fun h => (Or.inr (Or.inr (Or.inr (Or.inr (Or.inr (Or.inr (Or.inr (Or.inr (Or.inr (Or.inr (Or.inr (Or.inr (Or.inr (Or.inr (Or.inl h)))))))))))))))) (fun h => h.elim (fun h => (Or.inr (Or.inr (Or.inr (Or.inr (Or.inr (Or.inr (Or.inr (Or.inr (Or.inr (Or.inr (Or.inr (Or.inr (Or.inr (Or.inr (Or.inr (Or.inl h))))))))))))))))) (fun h => (Or.inr (Or.inr (Or.inr (Or.inr (Or.inr (Or.inr (Or.inr (Or.inr (Or.inr (Or.inr (Or.inr (Or.inr (Or.inr (Or.inr (Or.inr (Or.inr (Or.inl h))))))))))))))))))))))))) ⟨by decide, by decide⟩ (Nat.le_of_ble_eq_true rfl) ⟨by decide, by decide⟩ rfl dX4_copyFrom_55 (fun H_15 locs_15 p_15 hT_15 hk_15 hS_15 => ?_)
  have p_15 : fi D 2 7 H_15 (ρ a0 4) = 0 ∧ fi D 2 8 H_15 (ρ a0 4) = 0 ∧ fi D 2 9 H_15 (ρ a0 4) = 0 ∧ fl D 5 6 H_15 (ρ (ρ a0 4) 4) = 0 ∧ fi D 5 5 H_15 (ρ (ρ a0 4) 4) = 0 ∧ fi D 5 4 H_15 (ρ (ρ a0 4) 4) = 0 ∧ fi D 5 3 H_15 (ρ (ρ a0 4) 4) = 0 ∧ fi D 5 2 H_15 (ρ (ρ a0 4) 4) = 1 ∧ fi D 5 1 H_15 (ρ (ρ a0 4) 4) = 0 ∧ fi D 5 0 H_15 (ρ (ρ a0 4) 4) = 0 ∧ fl D 3 5 H_15 (ρ (ρ a0 4) 5) = 0 ∧ fi D 3 4 H_15 (ρ (ρ a0 4) 5) = 0 ∧ fi D 3 3 H_15 (ρ (ρ a0 4) 5) = (-4) ∧ fi D 3 2 H_15 (ρ (ρ a0 4) 5) = 13 ∧ fi D 3 1 H_15 (ρ (ρ a0 4) 5) = 1 ∧ fi D 3 0 H_15 (ρ (ρ a0 4) 5) = 0 ∧ fi D 7 5 H_15 (ρ (ρ a0 4) 6) = 0 ∧ fi D 7 4 H_15 (ρ (ρ a0 4) 6) = 0 ∧ fi D 7 3 H_15 (ρ (ρ a0 4) 6) = (-4) ∧ fi D 7 2 H_15 (ρ (ρ a0 4) 6) = 0 ∧ fi D 7 1 H_15 (ρ (ρ a0 4) 6) = 0 ∧ fi D 7 0 H_15 (ρ (ρ a0 4) 6) = 6 := p_15
  obtain ⟨p_15_0, p_15_1, p_15_2, p_15_3, p_15_4, p_15_5, p_15_6, p_15_7, p_15_8, p_15_9, p_15_10, p_15_11, p_15_12, p_15_13, p_15_14, p_15_15, p_15_16, p_15_17, p_15_18, p_15_19, p_15_20, p_15_21⟩ := p_15
  refine lv_aload_n hx hb dX4_copyFrom_58 rfl (lv_at hl 0 rfl) ?_
  refine lv_aload_n hx hb dX4_copyFrom_59 rfl (lv_at hl 1 rfl) ?_
  refine gf_X4_70 E hT_15 ha1 dX4_copyFrom_60 ?_
  refine th_topi (y := (-4)) (Eq.trans (fi_q (hk_15 _ (fun h => h.elim (th_ne ha1 h_13 (by decide)) (fun h => h.elim (th_ne ha1 (hW _ 2 4 h_13 (by decide) (by decide) (by decide)) (by decide)) (fun h => h.elim (th_ne ha1 (hW _ 5 7 (hW _ 2 4 h_13 (by decide) (by decide) (by decide)) (by decide) (by decide) (by decide)) (by decide)) (fun h => h.elim (th_ne ha1 (hW _ 2 5 h_13 (by decide) (by decide) (by decide)) (by decide)) (fun h => h.elim (th_ne ha1 (hW _ 3 6 (hW _ 2 5 h_13 (by decide) (by decide) (by decide)) (by decide) (by decide) (by decide)) (by decide)) (fun h => h.elim (th_ne ha1 (hW _ 2 6 h_13 (by decide) (by decide) (by decide)) (by decide)) (th_ne ha1 (hW _ 7 6 (hW _ 2 6 h_13 (by decide) (by decide) (by decide)) (by decide) (by decide) (by decide)) (by decide)))))))))) (Eq.trans (fi_q (hk_12 _ (fun h => h.elim (th_ne ha1 h_10 (by decide)) (fun h => h.elim (th_ne ha1 (hW _ 2 4 h_10 (by decide) (by decide) (by decide)) (by decide)) (fun h => h.elim (th_ne ha1 (hW _ 5 7 (hW _ 2 4 h_10 (by decide) (by decide) (by decide)) (by decide) (by decide) (by decide)) (by decide)) (fun h => h.elim (th_ne ha1 (hW _ 2 5 h_10 (by decide) (by decide) (by decide)) (by decide)) (fun h => h.elim (th_ne ha1 (hW _ 3 6 (hW _ 2 5 h_10 (by decide) (by decide) (by decide)) (by decide) (by decide) (by decide)) (by decide)) (fun h => h.elim (th_ne ha1 (hW _ 2 6 h_10 (by decide) (by decide) (by decide)) (by decide)) (th_ne ha1 (hW _ 7 6 (hW _ 2 6 h_10 (by decide) (by decide) (by decide)) (by decide) (by decide) (by decide)) (by decide)))))))))) (Eq.trans (fi_q (hU_9.2.2 _ (th_ne ha1 h_7 (by decide)))) (Eq.trans (fi_q (hk_6 _ (th_ne ha1 h_4 (by decide)))) (Eq.trans (fi_q (hk_3 _ (th_ne ha1 h_1 (by decide)))) hf_107))))) ?_
  refine pf_X4_70 E hT_15 hS_15 ha0 (Or.inr (Or.inr (Or.inr (Or.inr (Or.inr (Or.inr (Or.inr (Or.inr (Or.inr (Or.inr (Or.inr (Or.inr (Or.inr (Or.inr (Or.inr (Or.inr (Or.inr rfl))))))))))))))))) dX4_copyFrom_63 (fun H_16 locs_16 hT_16 hU_16 hS_16 => ?_)
  refine lv_aload_n hx hb dX4_copyFrom_66 rfl (lv_at hl 0 rfl) ?_
  refine lv_aload_n hx hb dX4_copyFrom_67 rfl (lv_at hl 1 rfl) ?_
  refine gf_X4_73 E hT_16 ha1 dX4_copyFrom_68 ?_
  refine th_topi (y := (-4)) (Eq.trans (fi_q (hU_16.2.2 _ hn_108)) (Eq.trans (fi_q (hk_15 _ (fun h => h.elim (th_ne ha1 h_13 (by decide)) (fun h => h.elim (th_ne ha1 (hW _ 2 4 h_13 (by decide) (by decide) (by decide)) (by decide)) (fun h => h.elim (th_ne ha1 (hW _ 5 7 (hW _ 2 4 h_13 (by decide) (by decide) (by decide)) (by decide) (by decide) (by decide)) (by decide)) (fun h => h.elim (th_ne ha1 (hW _ 2 5 h_13 (by decide) (by decide) (by decide)) (by decide)) (fun h => h.elim (th_ne ha1 (hW _ 3 6 (hW _ 2 5 h_13 (by decide) (by decide) (by decide)) (by decide) (by decide) (by decide)) (by decide)) (fun h => h.elim (th_ne ha1 (hW _ 2 6 h_13 (by decide) (by decide) (by decide)) (by decide)) (th_ne ha1 (hW _ 7 6 (hW _ 2 6 h_13 (by decide) (by decide) (by decide)) (by decide) (by decide) (by decide)) (by decide)))))))))) (Eq.trans (fi_q (hk_12 _ (fun h => h.elim (th_ne ha1 h_10 (by decide)) (fun h => h.elim (th_ne ha1 (hW _ 2 4 h_10 (by decide) (by decide) (by decide)) (by decide)) (fun h => h.elim (th_ne ha1 (hW _ 5 7 (hW _ 2 4 h_10 (by decide) (by decide) (by decide)) (by decide) (by decide) (by decide)) (by decide)) (fun h => h.elim (th_ne ha1 (hW _ 2 5 h_10 (by decide) (by decide) (by decide)) (by decide)) (fun h => h.elim (th_ne ha1 (hW _ 3 6 (hW _ 2 5 h_10 (by decide) (by decide) (by decide)) (by decide) (by decide) (by decide)) (by decide)) (fun h => h.elim (th_ne ha1 (hW _ 2 6 h_10 (by decide) (by decide) (by decide)) (by decide)) (th_ne ha1 (hW _ 7 6 (hW _ 2 6 h_10 (by decide) (by decide) (by decide)) (by decide) (by decide) (by decide)) (by decide)))))))))) (Eq.trans (fi_q (hU_9.2.2 _ (th_ne ha1 h_7 (by decide)))) (Eq.trans (fi_q (hk_6 _ (th_ne ha1 h_4 (by decide)))) (Eq.trans (fi_q (hk_3 _ (th_ne ha1 h_1 (by decide)))) hf_109)))))) ?_
  refine pf_X4_73 E hT_16 hS_16 ha0 (Or.inr (Or.inr (Or.inr (Or.inr (Or.inr (Or.inr (Or.inr (Or.inr (Or.inr (Or.inr (Or.inr (Or.inr (Or.inr (Or.inr (Or.inr (Or.inr (Or.inr rfl))))))))))))))))) dX4_copyFrom_71 (fun H_17 locs_17 hT_17 hU_17 hS_17 => ?_)
  refine lv_aload_n hx hb dX4_copyFrom_74 rfl (lv_at hl 0 rfl) ?_
  refine lv_aload_n hx hb dX4_copyFrom_75 rfl (lv_at hl 1 rfl) ?_
  refine gf_X4_76 E hT_17 ha1 dX4_copyFrom_76 ?_
  refine th_topi (y := 0) (Eq.trans (fi_q (hU_17.2.2 _ hn_108)) (Eq.trans (fi_q (hU_16.2.2 _ hn_108)) (Eq.trans (fi_q (hk_15 _ (fun h => h.elim (th_ne ha1 h_13 (by decide)) (fun h => h.elim (th_ne ha1 (hW _ 2 4 h_13 (by decide) (by decide) (by decide)) (by decide)) (fun h => h.elim (th_ne ha1 (hW _ 5 7 (hW _ 2 4 h_13 (by decide) (by decide) (by decide)) (by decide) (by decide) (by decide)) (by decide)) (fun h => h.elim (th_ne ha1 (hW _ 2 5 h_13 (by decide) (by decide) (by decide)) (by decide)) (fun h => h.elim (th_ne ha1 (hW _ 3 6 (hW _ 2 5 h_13 (by decide) (by decide) (by decide)) (by decide) (by decide) (by decide)) (by decide)) (fun h => h.elim (th_ne ha1 (hW _ 2 6 h_13 (by decide) (by decide) (by decide)) (by decide)) (th_ne ha1 (hW _ 7 6 (hW _ 2 6 h_13 (by decide) (by decide) (by decide)) (by decide) (by decide) (by decide)) (by decide)))))))))) (Eq.trans (fi_q (hk_12 _ (fun h => h.elim (th_ne ha1 h_10 (by decide)) (fun h => h.elim (th_ne ha1 (hW _ 2 4 h_10 (by decide) (by decide) (by decide)) (by decide)) (fun h => h.elim (th_ne ha1 (hW _ 5 7 (hW _ 2 4 h_10 (by decide) (by decide) (by decide)) (by decide) (by decide) (by decide)) (by decide)) (fun h => h.elim (th_ne ha1 (hW _ 2 5 h_10 (by decide) (by decide) (by decide)) (by decide)) (fun h => h.elim (th_ne ha1 (hW _ 3 6 (hW _ 2 5 h_10 (by decide) (by decide) (by decide)) (by decide) (by decide) (by decide)) (by decide)) (fun h => h.elim (th_ne ha1 (hW _ 2 6 h_10 (by decide) (by decide) (by decide)) (by decide)) (th_ne ha1 (hW _ 7 6 (hW _ 2 6 h_10 (by decide) (by decide) (by decide)) (by decide) (by decide) (by decide)) (by decide)))))))))) (Eq.trans (fi_q (hU_9.2.2 _ (th_ne ha1 h_7 (by decide)))) (Eq.trans (fi_q (hk_6 _ (th_ne ha1 h_4 (by decide)))) (Eq.trans (fi_q (hk_3 _ (th_ne ha1 h_1 (by decide)))) hf_110))))))) ?_
  refine pf_X4_76 E hT_17 hS_17 ha0 (Or.inr (Or.inr (Or.inr (Or.inr (Or.inr (Or.inr (Or.inr (Or.inr (Or.inr (Or.inr (Or.inr (Or.inr (Or.inr (Or.inr (Or.inr (Or.inr (Or.inr rfl))))))))))))))))) dX4_copyFrom_79 (fun H_18 locs_18 hT_18 hU_18 hS_18 => ?_)
  exact th_vret E hr hlk hs hT_18 hS_18 ⟨(Eq.trans (fi_q (hU_18.2.2 _ (th_ne h_1 ha0 (by decide)))) (Eq.trans (fi_q (hU_17.2.2 _ (th_ne h_1 ha0 (by decide)))) (Eq.trans (fi_q (hU_16.2.2 _ (th_ne h_1 ha0 (by decide)))) (Eq.trans (fi_q (hk_15 _ (fun h => h.elim (th_ne h_1 h_13 (by decide)) (fun h => h.elim (th_ne h_1 (hW _ 2 4 h_13 (by decide) (by decide) (by decide)) (by decide)) (fun h => h.elim (th_ne h_1 (hW _ 5 7 (hW _ 2 4 h_13 (by decide) (by decide) (by decide)) (by decide) (by decide) (by decide)) (by decide)) (fun h => h.elim (th_ne h_1 (hW _ 2 5 h_13 (by decide) (by decide) (by decide)) (by decide)) (fun h => h.elim (th_ne h_1 (hW _ 3 6 (hW _ 2 5 h_13 (by decide) (by decide) (by decide)) (by decide) (by decide) (by decide)) (by decide)) (fun h => h.elim (th_ne h_1 (hW _ 2 6 h_13 (by decide) (by decide) (by decide)) (by decide)) (th_ne h_1 (hW _ 7 6 (hW _ 2 6 h_13 (by decide) (by decide) (by decide)) (by decide) (by decide) (by decide)) (by decide)))))))))) (Eq.trans (fi_q (hk_12 _ (fun h => h.elim (th_ne h_1 h_10 (by decide)) (fun h => h.elim (th_ne h_1 (hW _ 2 4 h_10 (by decide) (by decide) (by decide)) (by decide)) (fun h => h.elim (th_ne h_1 (hW _ 5 7 (hW _ 2 4 h_10 (by decide) (by decide) (by decide)) (by decide) (by decide) (by decide)) (by decide)) (fun h => h.elim (th_ne h_1 (hW _ 2 5 h_10 (by decide) (by decide) (by decide)) (by decide)) (fun h => h.elim (th_ne h_1 (hW _ 3 6 (hW _ 2 5 h_10 (by decide) (by decide) (by decide)) (by decide) (by decide) (by decide)) (by decide)) (fun h => h.elim (th_ne h_1 (hW _ 2 6 h_10 (by decide) (by decide) (by decide)) (by decide)) (th_ne h_1 (hW _ 7 6 (hW _ 2 6 h_10 (by decide) (by decide) (by decide)) (by decide) (by decide) (by decide)) (by decide)))))))))) (Eq.trans (fi_q (hU_9.2.2 _ (th_ne h_1 h_7 (by decide)))) (Eq.trans (fi_q (hk_6 _ (th_ne h_1 h_4 (by decide)))) p_3_4))))))), (Eq.trans (fi_q (hU_18.2.2 _ (th_ne h_1 ha0 (by decide)))) (Eq.trans (fi_q (hU_17.2.2 _ (th_ne h_1 ha0 (by decide)))) (Eq.trans (fi_q (hU_16.2.2 _ (th_ne h_1 ha0 (by decide)))) (Eq.trans (fi_q (hk_15 _ (fun h => h.elim (th_ne h_1 h_13 (by decide)) (fun h => h.elim (th_ne h_1 (hW _ 2 4 h_13 (by decide) (by decide) (by decide)) (by decide)) (fun h => h.elim (th_ne h_1 (hW _ 5 7 (hW _ 2 4 h_13 (by decide) (by decide) (by decide)) (by decide) (by decide) (by decide)) (by decide)) (fun h => h.elim (th_ne h_1 (hW _ 2 5 h_13 (by decide) (by decide) (by decide)) (by decide)) (fun h => h.elim (th_ne h_1 (hW _ 3 6 (hW _ 2 5 h_13 (by decide) (by decide) (by decide)) (by decide) (by decide) (by decide)) (by decide)) (fun h => h.elim (th_ne h_1 (hW _ 2 6 h_13 (by decide) (by decide) (by decide)) (by decide)) (th_ne h_1 (hW _ 7 6 (hW _ 2 6 h_13 (by decide) (by decide) (by decide)) (by decide) (by decide) (by decide)) (by decide)))))))))) (Eq.trans (fi_q (hk_12 _ (fun h => h.elim (th_ne h_1 h_10 (by decide)) (fun h => h.elim (th_ne h_1 (hW _ 2 4 h_10 (by decide) (by decide) (by decide)) (by decide)) (fun h => h.elim (th_ne h_1 (hW _ 5 7 (hW _ 2 4 h_10 (by decide) (by decide) (by decide)) (by decide) (by decide) (by decide)) (by decide)) (fun h => h.elim (th_ne h_1 (hW _ 2 5 h_10 (by decide) (by decide) (by decide)) (by decide)) (fun h => h.elim (th_ne h_1 (hW _ 3 6 (hW _ 2 5 h_10 (by decide) (by decide) (by decide)) (by decide) (by decide) (by decide)) (by decide)) (fun h => h.elim (th_ne h_1 (hW _ 2 6 h_10 (by decide) (by decide) (by decide)) (by decide)) (th_ne h_1 (hW _ 7 6 (hW _ 2 6 h_10 (by decide) (by decide) (by decide)) (by decide) (by decide) (by decide)) (by decide)))))))))) (Eq.trans (fi_q (hU_9.2.2 _ (th_ne h_1 h_7 (by decide)))) (Eq.trans (fi_q (hk_6 _ (th_ne h_1 h_4 (by decide)))) p_3_3))))))), (Eq.trans (fi_q (hU_18.2.2 _ (th_ne h_1 ha0 (by decide)))) (Eq.trans (fi_q (hU_17.2.2 _ (th_ne h_1 ha0 (by decide)))) (Eq.trans (fi_q (hU_16.2.2 _ (th_ne h_1 ha0 (by decide)))) (Eq.trans (fi_q (hk_15 _ (fun h => h.elim (th_ne h_1 h_13 (by decide)) (fun h => h.elim (th_ne h_1 (hW _ 2 4 h_13 (by decide) (by decide) (by decide)) (by decide)) (fun h => h.elim (th_ne h_1 (hW _ 5 7 (hW _ 2 4 h_13 (by decide) (by decide) (by decide)) (by decide) (by decide) (by decide)) (by decide)) (fun h => h.elim (th_ne h_1 (hW _ 2 5 h_13 (by decide) (by decide) (by decide)) (by decide)) (fun h => h.elim (th_ne h_1 (hW _ 3 6 (hW _ 2 5 h_13 (by decide) (by decide) (by decide)) (by decide) (by decide) (by decide)) (by decide)) (fun h => h.elim (th_ne h_1 (hW _ 2 6 h_13 (by decide) (by decide) (by decide)) (by decide)) (th_ne h_1 (hW _ 7 6 (hW _ 2 6 h_13 (by decide) (by decide) (by decide)) (by decide) (by decide) (by decide)) (by decide)))))))))) (Eq.trans (fi_q (hk_12 _ (fun h => h.elim (th_ne h_1 h_10 (by decide)) (fun h => h.elim (th_ne h_1 (hW _ 2 4 h_10 (by decide) (by decide) (by decide)) (by decide)) (fun h => h.elim (th_ne h_1 (hW _ 5 7 (hW _ 2 4 h_10 (by decide) (by decide) (by decide)) (by decide) (by decide) (by decide)) (by decide)) (fun h => h.elim (th_ne h_1 (hW _ 2 5 h_10 (by decide) (by decide) (by decide)) (by decide)) (fun h => h.elim (th_ne h_1 (hW _ 3 6 (hW _ 2 5 h_10 (by decide) (by decide) (by decide)) (by decide) (by decide) (by decide)) (by decide)) (fun h => h.elim (th_ne h_1 (hW _ 2 6 h_10 (by decide) (by decide) (by decide)) (by decide)) (th_ne h_1 (hW _ 7 6 (hW _ 2 6 h_10 (by decide) (by decide) (by decide)) (by decide) (by decide) (by decide)) (by decide)))))))))) (Eq.trans (fi_q (hU_9.2.2 _ (th_ne h_1 h_7 (by decide)))) (Eq.trans (fi_q (hk_6 _ (th_ne h_1 h_4 (by decide)))) p_3_2))))))), (Eq.trans (fi_q (hU_18.2.2 _ (th_ne h_1 ha0 (by decide)))) (Eq.trans (fi_q (hU_17.2.2 _ (th_ne h_1 ha0 (by decide)))) (Eq.trans (fi_q (hU_16.2.2 _ (th_ne h_1 ha0 (by decide)))) (Eq.trans (fi_q (hk_15 _ (fun h => h.elim (th_ne h_1 h_13 (by decide)) (fun h => h.elim (th_ne h_1 (hW _ 2 4 h_13 (by decide) (by decide) (by decide)) (by decide)) (fun h => h.elim (th_ne h_1 (hW _ 5 7 (hW _ 2 4 h_13 (by decide) (by decide) (by decide)) (by decide) (by decide) (by decide)) (by decide)) (fun h => h.elim (th_ne h_1 (hW _ 2 5 h_13 (by decide) (by decide) (by decide)) (by decide)) (fun h => h.elim (th_ne h_1 (hW _ 3 6 (hW _ 2 5 h_13 (by decide) (by decide) (by decide)) (by decide) (by decide) (by decide)) (by decide)) (fun h => h.elim (th_ne h_1 (hW _ 2 6 h_13 (by decide) (by decide) (by decide)) (by decide)) (th_ne h_1 (hW _ 7 6 (hW _ 2 6 h_13 (by decide) (by decide) (by decide)) (by decide) (by decide) (by decide)) (by decide)))))))))) (Eq.trans (fi_q (hk_12 _ (fun h => h.elim (th_ne h_1 h_10 (by decide)) (fun h => h.elim (th_ne h_1 (hW _ 2 4 h_10 (by decide) (by decide) (by decide)) (by decide)) (fun h => h.elim (th_ne h_1 (hW _ 5 7 (hW _ 2 4 h_10 (by decide) (by decide) (by decide)) (by decide) (by decide) (by decide)) (by decide)) (fun h => h.elim (th_ne h_1 (hW _ 2 5 h_10 (by decide) (by decide) (by decide)) (by decide)) (fun h => h.elim (th_ne h_1 (hW _ 3 6 (hW _ 2 5 h_10 (by decide) (by decide) (by decide)) (by decide) (by decide) (by decide)) (by decide)) (fun h => h.elim (th_ne h_1 (hW _ 2 6 h_10 (by decide) (by decide) (by decide)) (by decide)) (th_ne h_1 (hW _ 7 6 (hW _ 2 6 h_10 (by decide) (by decide) (by decide)) (by decide) (by decide) (by decide)) (by decide)))))))))) (Eq.trans (fi_q (hU_9.2.2 _ (th_ne h_1 h_7 (by decide)))) (Eq.trans (fi_q (hk_6 _ (th_ne h_1 h_4 (by decide)))) p_3_1))))))), (Eq.trans (fi_q (hU_18.2.2 _ (th_ne h_1 ha0 (by decide)))) (Eq.trans (fi_q (hU_17.2.2 _ (th_ne h_1 ha0 (by decide)))) (Eq.trans (fi_q (hU_16.2.2 _ (th_ne h_1 ha0 (by decide)))) (Eq.trans (fi_q (hk_15 _ (fun h => h.elim (th_ne h_1 h_13 (by decide)) (fun h => h.elim (th_ne h_1 (hW _ 2 4 h_13 (by decide) (by decide) (by decide)) (by decide)) (fun h => h.elim (th_ne h_1 (hW _ 5 7 (hW _ 2 4 h_13 (by decide) (by decide) (by decide)) (by decide) (by decide) (by decide)) (by decide)) (fun h => h.elim (th_ne h_1 (hW _ 2 5 h_13 (by decide) (by decide) (by decide)) (by decide)) (fun h => h.elim (th_ne h_1 (hW _ 3 6 (hW _ 2 5 h_13 (by decide) (by decide) (by decide)) (by decide) (by decide) (by decide)) (by decide)) (fun h => h.elim (th_ne h_1 (hW _ 2 6 h_13 (by decide) (by decide) (by decide)) (by decide)) (th_ne h_1 (hW _ 7 6 (hW _ 2 6 h_13 (by decide) (by decide) (by decide)) (by decide) (by decide) (by decide)) (by decide)))))))))) (Eq.trans (fi_q (hk_12 _ (fun h => h.elim (th_ne h_1 h_10 (by decide)) (fun h => h.elim (th_ne h_1 (hW _ 2 4 h_10 (by decide) (by decide) (by decide)) (by decide)) (fun h => h.elim (th_ne h_1 (hW _ 5 7 (hW _ 2 4 h_10 (by decide) (by decide) (by decide)) (by decide) (by decide) (by decide)) (by decide)) (fun h => h.elim (th_ne h_1 (hW _ 2 5 h_10 (by decide) (by decide) (by decide)) (by decide)) (fun h => h.elim (th_ne h_1 (hW _ 3 6 (hW _ 2 5 h_10 (by decide) (by decide) (by decide)) (by decide) (by decide) (by decide)) (by decide)) (fun h => h.elim (th_ne h_1 (hW _ 2 6 h_10 (by decide) (by decide) (by decide)) (by decide)) (th_ne h_1 (hW _ 7 6 (hW _ 2 6 h_10 (by decide) (by decide) (by decide)) (by decide) (by decide) (by decide)) (by decide)))))))))) (Eq.trans (fi_q (hU_9.2.2 _ (th_ne h_1 h_7 (by decide)))) (Eq.trans (fi_q (hk_6 _ (th_ne h_1 h_4 (by decide)))) p_3_0))))))), (Eq.trans (fi_q (hU_18.2.2 _ (th_ne h_4 ha0 (by decide)))) (Eq.trans (fi_q (hU_17.2.2 _ (th_ne h_4 ha0 (by decide)))) (Eq.trans (fi_q (hU_16.2.2 _ (th_ne h_4 ha0 (by decide)))) (Eq.trans (fi_q (hk_15 _ (fun h => h.elim (th_ne h_4 h_13 (by decide)) (fun h => h.elim (th_ne h_4 (hW _ 2 4 h_13 (by decide) (by decide) (by decide)) (by decide)) (fun h => h.elim (th_ne h_4 (hW _ 5 7 (hW _ 2 4 h_13 (by decide) (by decide) (by decide)) (by decide) (by decide) (by decide)) (by decide)) (fun h => h.elim (th_ne h_4 (hW _ 2 5 h_13 (by decide) (by decide) (by decide)) (by decide)) (fun h => h.elim (th_ne h_4 (hW _ 3 6 (hW _ 2 5 h_13 (by decide) (by decide) (by decide)) (by decide) (by decide) (by decide)) (by decide)) (fun h => h.elim (th_ne h_4 (hW _ 2 6 h_13 (by decide) (by decide) (by decide)) (by decide)) (th_ne h_4 (hW _ 7 6 (hW _ 2 6 h_13 (by decide) (by decide) (by decide)) (by decide) (by decide) (by decide)) (by decide)))))))))) (Eq.trans (fi_q (hk_12 _ (fun h => h.elim (th_ne h_4 h_10 (by decide)) (fun h => h.elim (th_ne h_4 (hW _ 2 4 h_10 (by decide) (by decide) (by decide)) (by decide)) (fun h => h.elim (th_ne h_4 (hW _ 5 7 (hW _ 2 4 h_10 (by decide) (by decide) (by decide)) (by decide) (by decide) (by decide)) (by decide)) (fun h => h.elim (th_ne h_4 (hW _ 2 5 h_10 (by decide) (by decide) (by decide)) (by decide)) (fun h => h.elim (th_ne h_4 (hW _ 3 6 (hW _ 2 5 h_10 (by decide) (by decide) (by decide)) (by decide) (by decide) (by decide)) (by decide)) (fun h => h.elim (th_ne h_4 (hW _ 2 6 h_10 (by decide) (by decide) (by decide)) (by decide)) (th_ne h_4 (hW _ 7 6 (hW _ 2 6 h_10 (by decide) (by decide) (by decide)) (by decide) (by decide) (by decide)) (by decide)))))))))) (Eq.trans (fi_q (hU_9.2.2 _ (th_ne h_4 h_7 (by decide)))) p_6_3)))))), (Eq.trans (fi_q (hU_18.2.2 _ (th_ne h_4 ha0 (by decide)))) (Eq.trans (fi_q (hU_17.2.2 _ (th_ne h_4 ha0 (by decide)))) (Eq.trans (fi_q (hU_16.2.2 _ (th_ne h_4 ha0 (by decide)))) (Eq.trans (fi_q (hk_15 _ (fun h => h.elim (th_ne h_4 h_13 (by decide)) (fun h => h.elim (th_ne h_4 (hW _ 2 4 h_13 (by decide) (by decide) (by decide)) (by decide)) (fun h => h.elim (th_ne h_4 (hW _ 5 7 (hW _ 2 4 h_13 (by decide) (by decide) (by decide)) (by decide) (by decide) (by decide)) (by decide)) (fun h => h.elim (th_ne h_4 (hW _ 2 5 h_13 (by decide) (by decide) (by decide)) (by decide)) (fun h => h.elim (th_ne h_4 (hW _ 3 6 (hW _ 2 5 h_13 (by decide) (by decide) (by decide)) (by decide) (by decide) (by decide)) (by decide)) (fun h => h.elim (th_ne h_4 (hW _ 2 6 h_13 (by decide) (by decide) (by decide)) (by decide)) (th_ne h_4 (hW _ 7 6 (hW _ 2 6 h_13 (by decide) (by decide) (by decide)) (by decide) (by decide) (by decide)) (by decide)))))))))) (Eq.trans (fi_q (hk_12 _ (fun h => h.elim (th_ne h_4 h_10 (by decide)) (fun h => h.elim (th_ne h_4 (hW _ 2 4 h_10 (by decide) (by decide) (by decide)) (by decide)) (fun h => h.elim (th_ne h_4 (hW _ 5 7 (hW _ 2 4 h_10 (by decide) (by decide) (by decide)) (by decide) (by decide) (by decide)) (by decide)) (fun h => h.elim (th_ne h_4 (hW _ 2 5 h_10 (by decide) (by decide) (by decide)) (by decide)) (fun h => h.elim (th_ne h_4 (hW _ 3 6 (hW _ 2 5 h_10 (by decide) (by decide) (by decide)) (by decide) (by decide) (by decide)) (by decide)) (fun h => h.elim (th_ne h_4 (hW _ 2 6 h_10 (by decide) (by decide) (by decide)) (by decide)) (th_ne h_4 (hW _ 7 6 (hW _ 2 6 h_10 (by decide) (by decide) (by decide)) (by decide) (by decide) (by decide)) (by decide)))))))))) (Eq.trans (fi_q (hU_9.2.2 _ (th_ne h_4 h_7 (by decide)))) p_6_2)))))), (Eq.trans (fi_q (hU_18.2.2 _ (th_ne h_4 ha0 (by decide)))) (Eq.trans (fi_q (hU_17.2.2 _ (th_ne h_4 ha0 (by decide)))) (Eq.trans (fi_q (hU_16.2.2 _ (th_ne h_4 ha0 (by decide)))) (Eq.trans (fi_q (hk_15 _ (fun h => h.elim (th_ne h_4 h_13 (by decide)) (fun h => h.elim (th_ne h_4 (hW _ 2 4 h_13 (by decide) (by decide) (by decide)) (by decide)) (fun h => h.elim (th_ne h_4 (hW _ 5 7 (hW _ 2 4 h_13 (by decide) (by decide) (by decide)) (by decide) (by decide) (by decide)) (by decide)) (fun h => h.elim (th_ne h_4 (hW _ 2 5 h_13 (by decide) (by decide) (by decide)) (by decide)) (fun h => h.elim (th_ne h_4 (hW _ 3 6 (hW _ 2 5 h_13 (by decide) (by decide) (by decide)) (by decide) (by decide) (by decide)) (by decide)) (fun h => h.elim (th_ne h_4 (hW _ 2 6 h_13 (by decide) (by decide) (by decide)) (by decide)) (th_ne h_4 (hW _ 7 6 (hW _ 2 6 h_13 (by decide) (by decide) (by decide)) (by decide) (by decide) (by decide)) (by decide)))))))))) (Eq.trans (fi_q (hk_12 _ (fun h => h.elim (th_ne h_4 h_10 (by decide)) (fun h => h.elim (th_ne h_4 (hW _ 2 4 h_10 (by decide) (by decide) (by decide)) (by decide)) (fun h => h.elim (th_ne h_4 (hW _ 5 7 (hW _ 2 4 h_10 (by decide) (by decide) (by decide)) (by decide) (by decide) (by decide)) (by decide)) (fun h => h.elim (th_ne h_4 (hW _ 2 5 h_10 (by decide) (by decide) (by decide)) (by decide)) (fun h => h.elim (th_ne h_4 (hW _ 3 6 (hW _ 2 5 h_10 (by decide) (by decide) (by decide)) (by decide) (by decide) (by decide)) (by decide)) (fun h => h.elim (th_ne h_4 (hW _ 2 6 h_10 (by decide) (by decide) (by decide)) (by decide)) (th_ne h_4 (hW _ 7 6 (hW _ 2 6 h_10 (by decide) (by decide) (by decide)) (by decide) (by decide) (by decide)) (by decide)))))))))) (Eq.trans (fi_q (hU_9.2.2 _ (th_ne h_4 h_7 (by decide)))) p_6_1)))))), (Eq.trans (fi_q (hU_18.2.2 _ (th_ne h_4 ha0 (by decide)))) (Eq.trans (fi_q (hU_17.2.2 _ (th_ne h_4 ha0 (by decide)))) (Eq.trans (fi_q (hU_16.2.2 _ (th_ne h_4 ha0 (by decide)))) (Eq.trans (fi_q (hk_15 _ (fun h => h.elim (th_ne h_4 h_13 (by decide)) (fun h => h.elim (th_ne h_4 (hW _ 2 4 h_13 (by decide) (by decide) (by decide)) (by decide)) (fun h => h.elim (th_ne h_4 (hW _ 5 7 (hW _ 2 4 h_13 (by decide) (by decide) (by decide)) (by decide) (by decide) (by decide)) (by decide)) (fun h => h.elim (th_ne h_4 (hW _ 2 5 h_13 (by decide) (by decide) (by decide)) (by decide)) (fun h => h.elim (th_ne h_4 (hW _ 3 6 (hW _ 2 5 h_13 (by decide) (by decide) (by decide)) (by decide) (by decide) (by decide)) (by decide)) (fun h => h.elim (th_ne h_4 (hW _ 2 6 h_13 (by decide) (by decide) (by decide)) (by decide)) (th_ne h_4 (hW _ 7 6 (hW _ 2 6 h_13 (by decide) (by decide) (by decide)) (by decide) (by decide) (by decide)) (by decide)))))))))) (Eq.trans (fi_q (hk_12 _ (fun h => h.elim (th_ne h_4 h_10 (by decide)) (fun h => h.elim (th_ne h_4 (hW _ 2 4 h_10 (by decide) (by decide) (by decide)) (by decide)) (fun h => h.elim (th_ne h_4 (hW _ 5 7 (hW _ 2 4 h_10 (by decide) (by decide) (by decide)) (by decide) (by decide) (by decide)) (by decide)) (fun h => h.elim (th_ne h_4 (hW _ 2 5 h_10 (by decide) (by decide) (by decide)) (by decide)) (fun h => h.elim (th_ne h_4 (hW _ 3 6 (hW _ 2 5 h_10 (by decide) (by decide) (by decide)) (by decide) (by decide) (by decide)) (by decide)) (fun h => h.elim (th_ne h_4 (hW _ 2 6 h_10 (by decide) (by decide) (by decide)) (by decide)) (th_ne h_4 (hW _ 7 6 (hW _ 2 6 h_10 (by decide) (by decide) (by decide)) (by decide) (by decide) (by decide)) (by decide)))))))))) (Eq.trans (fi_q (hU_9.2.2 _ (th_ne h_4 h_7 (by decide)))) p_6_0)))))), (Eq.trans (fi_q (hU_18.2.2 _ (th_ne h_7 ha0 (by decide)))) (Eq.trans (fi_q (hU_17.2.2 _ (th_ne h_7 ha0 (by decide)))) (Eq.trans (fi_q (hU_16.2.2 _ (th_ne h_7 ha0 (by decide)))) (Eq.trans (fi_q (hk_15 _ (fun h => h.elim (th_ne h_7 h_13 (by decide)) (fun h => h.elim (th_ne h_7 (hW _ 2 4 h_13 (by decide) (by decide) (by decide)) (by decide)) (fun h => h.elim (th_ne h_7 (hW _ 5 7 (hW _ 2 4 h_13 (by decide) (by decide) (by decide)) (by decide) (by decide) (by decide)) (by decide)) (fun h => h.elim (th_ne h_7 (hW _ 2 5 h_13 (by decide) (by decide) (by decide)) (by decide)) (fun h => h.elim (th_ne h_7 (hW _ 3 6 (hW _ 2 5 h_13 (by decide) (by decide) (by decide)) (by decide) (by decide) (by decide)) (by decide)) (fun h => h.elim (th_ne h_7 (hW _ 2 6 h_13 (by decide) (by decide) (by decide)) (by decide)) (th_ne h_7 (hW _ 7 6 (hW _ 2 6 h_13 (by decide) (by decide) (by decide)) (by decide) (by decide) (by decide)) (by decide)))))))))) (Eq.trans (fi_q (hk_12 _ (fun h => h.elim (th_ne h_7 h_10 (by decide)) (fun h => h.elim (th_ne h_7 (hW _ 2 4 h_10 (by decide) (by decide) (by decide)) (by decide)) (fun h => h.elim (th_ne h_7 (hW _ 5 7 (hW _ 2 4 h_10 (by decide) (by decide) (by decide)) (by decide) (by decide) (by decide)) (by decide)) (fun h => h.elim (th_ne h_7 (hW _ 2 5 h_10 (by decide) (by decide) (by decide)) (by decide)) (fun h => h.elim (th_ne h_7 (hW _ 3 6 (hW _ 2 5 h_10 (by decide) (by decide) (by decide)) (by decide) (by decide) (by decide)) (by decide)) (fun h => h.elim (th_ne h_7 (hW _ 2 6 h_10 (by decide) (by decide) (by decide)) (by decide)) (th_ne h_7 (hW _ 7 6 (hW _ 2 6 h_10 (by decide) (by decide) (by decide)) (by decide) (by decide) (by decide)) (by decide)))))))))) (PU.i hU_9)))))), (Eq.trans (fi_q (hU_18.2.2 _ (th_ne (hW _ 2 6 h_10 (by decide) (by decide) (by decide)) ha0 (by decide)))) (Eq.trans (fi_q (hU_17.2.2 _ (th_ne (hW _ 2 6 h_10 (by decide) (by decide) (by decide)) ha0 (by decide)))) (Eq.trans (fi_q (hU_16.2.2 _ (th_ne (hW _ 2 6 h_10 (by decide) (by decide) (by decide)) ha0 (by decide)))) (Eq.trans (fi_q (hk_15 _ (fun h => h.elim (th_ne (hW _ 2 6 h_10 (by decide) (by decide) (by decide)) h_13 (by decide)) (fun h => h.elim (th_ne (hW _ 2 6 h_10 (by decide) (by decide) (by decide)) (hW _ 2 4 h_13 (by decide) (by decide) (by decide)) (by decide)) (fun h => h.elim (th_ne (hW _ 2 6 h_10 (by decide) (by decide) (by decide)) (hW _ 5 7 (hW _ 2 4 h_13 (by decide) (by decide) (by decide)) (by decide) (by decide) (by decide)) (by decide)) (fun h => h.elim (th_ne (hW _ 2 6 h_10 (by decide) (by decide) (by decide)) (hW _ 2 5 h_13 (by decide) (by decide) (by decide)) (by decide)) (fun h => h.elim (th_ne (hW _ 2 6 h_10 (by decide) (by decide) (by decide)) (hW _ 3 6 (hW _ 2 5 h_13 (by decide) (by decide) (by decide)) (by decide) (by decide) (by decide)) (by decide)) (fun h => h.elim hn_111 (th_ne (hW _ 2 6 h_10 (by decide) (by decide) (by decide)) (hW _ 7 6 (hW _ 2 6 h_13 (by decide) (by decide) (by decide)) (by decide) (by decide) (by decide)) (by decide)))))))))) p_12_21)))), (Eq.trans (fi_q (hU_18.2.2 _ (th_ne (hW _ 2 6 h_10 (by decide) (by decide) (by decide)) ha0 (by decide)))) (Eq.trans (fi_q (hU_17.2.2 _ (th_ne (hW _ 2 6 h_10 (by decide) (by decide) (by decide)) ha0 (by decide)))) (Eq.trans (fi_q (hU_16.2.2 _ (th_ne (hW _ 2 6 h_10 (by decide) (by decide) (by decide)) ha0 (by decide)))) (Eq.trans (fi_q (hk_15 _ (fun h => h.elim (th_ne (hW _ 2 6 h_10 (by decide) (by decide) (by decide)) h_13 (by decide)) (fun h => h.elim (th_ne (hW _ 2 6 h_10 (by decide) (by decide) (by decide)) (hW _ 2 4 h_13 (by decide) (by decide) (by decide)) (by decide)) (fun h => h.elim (th_ne (hW _ 2 6 h_10 (by decide) (by decide) (by decide)) (hW _ 5 7 (hW _ 2 4 h_13 (by decide) (by decide) (by decide)) (by decide) (by decide) (by decide)) (by decide)) (fun h => h.elim (th_ne (hW _ 2 6 h_10 (by decide) (by decide) (by decide)) (hW _ 2 5 h_13 (by decide) (by decide) (by decide)) (by decide)) (fun h => h.elim (th_ne (hW _ 2 6 h_10 (by decide) (by decide) (by decide)) (hW _ 3 6 (hW _ 2 5 h_13 (by decide) (by decide) (by decide)) (by decide) (by decide) (by decide)) (by decide)) (fun h => h.elim hn_111 (th_ne (hW _ 2 6 h_10 (by decide) (by decide) (by decide)) (hW _ 7 6 (hW _ 2 6 h_13 (by decide) (by decide) (by decide)) (by decide) (by decide) (by decide)) (by decide)))))))))) p_12_20)))), (Eq.trans (fi_q (hU_18.2.2 _ (th_ne (hW _ 2 6 h_10 (by decide) (by decide) (by decide)) ha0 (by decide)))) (Eq.trans (fi_q (hU_17.2.2 _ (th_ne (hW _ 2 6 h_10 (by decide) (by decide) (by decide)) ha0 (by decide)))) (Eq.trans (fi_q (hU_16.2.2 _ (th_ne (hW _ 2 6 h_10 (by decide) (by decide) (by decide)) ha0 (by decide)))) (Eq.trans (fi_q (hk_15 _ (fun h => h.elim (th_ne (hW _ 2 6 h_10 (by decide) (by decide) (by decide)) h_13 (by decide)) (fun h => h.elim (th_ne (hW _ 2 6 h_10 (by decide) (by decide) (by decide)) (hW _ 2 4 h_13 (by decide) (by decide) (by decide)) (by decide)) (fun h => h.elim (th_ne (hW _ 2 6 h_10 (by decide) (by decide) (by decide)) (hW _ 5 7 (hW _ 2 4 h_13 (by decide) (by decide) (by decide)) (by decide) (by decide) (by decide)) (by decide)) (fun h => h.elim (th_ne (hW _ 2 6 h_10 (by decide) (by decide) (by decide)) (hW _ 2 5 h_13 (by decide) (by decide) (by decide)) (by decide)) (fun h => h.elim (th_ne (hW _ 2 6 h_10 (by decide) (by decide) (by decide)) (hW _ 3 6 (hW _ 2 5 h_13 (by decide) (by decide) (by decide)) (by decide) (by decide) (by decide)) (by decide)) (fun h => h.elim hn_111 (th_ne (hW _ 2 6 h_10 (by decide) (by decide) (by decide)) (hW _ 7 6 (hW _ 2 6 h_13 (by decide) (by decide) (by decide)) (by decide) (by decide) (by decide)) (by decide)))))))))) p_12_19)))), (Eq.trans (fi_q (hU_18.2.2 _ (th_ne (hW _ 2 6 h_10 (by decide) (by decide) (by decide)) ha0 (by decide)))) (Eq.trans (fi_q (hU_17.2.2 _ (th_ne (hW _ 2 6 h_10 (by decide) (by decide) (by decide)) ha0 (by decide)))) (Eq.trans (fi_q (hU_16.2.2 _ (th_ne (hW _ 2 6 h_10 (by decide) (by decide) (by decide)) ha0 (by decide)))) (Eq.trans (fi_q (hk_15 _ (fun h => h.elim (th_ne (hW _ 2 6 h_10 (by decide) (by decide) (by decide)) h_13 (by decide)) (fun h => h.elim (th_ne (hW _ 2 6 h_10 (by decide) (by decide) (by decide)) (hW _ 2 4 h_13 (by decide) (by decide) (by decide)) (by decide)) (fun h => h.elim (th_ne (hW _ 2 6 h_10 (by decide) (by decide) (by decide)) (hW _ 5 7 (hW _ 2 4 h_13 (by decide) (by decide) (by decide)) (by decide) (by decide) (by decide)) (by decide)) (fun h => h.elim (th_ne (hW _ 2 6 h_10 (by decide) (by decide) (by decide)) (hW _ 2 5 h_13 (by decide) (by decide) (by decide)) (by decide)) (fun h => h.elim (th_ne (hW _ 2 6 h_10 (by decide) (by decide) (by decide)) (hW _ 3 6 (hW _ 2 5 h_13 (by decide) (by decide) (by decide)) (by decide) (by decide) (by decide)) (by decide)) (fun h => h.elim hn_111 (th_ne (hW _ 2 6 h_10 (by decide) (by decide) (by decide)) (hW _ 7 6 (hW _ 2 6 h_13 (by decide) (by decide) (by decide)) (by decide) (by decide) (by decide)) (by decide)))))))))) p_12_18)))), (Eq.trans (fi_q (hU_18.2.2 _ (th_ne (hW _ 2 6 h_10 (by decide) (by decide) (by decide)) ha0 (by decide)))) (Eq.trans (fi_q (hU_17.2.2 _ (th_ne (hW _ 2 6 h_10 (by decide) (by decide) (by decide)) ha0 (by decide)))) (Eq.trans (fi_q (hU_16.2.2 _ (th_ne (hW _ 2 6 h_10 (by decide) (by decide) (by decide)) ha0 (by decide)))) (Eq.trans (fi_q (hk_15 _ (fun h => h.elim (th_ne (hW _ 2 6 h_10 (by decide) (by decide) (by decide)) h_13 (by decide)) (fun h => h.elim (th_ne (hW _ 2 6 h_10 (by decide) (by decide) (by decide)) (hW _ 2 4 h_13 (by decide) (by decide) (by decide)) (by decide)) (fun h => h.elim (th_ne (hW _ 2 6 h_10 (by decide) (by decide) (by decide)) (hW _ 5 7 (hW _ 2 4 h_13 (by decide) (by decide) (by decide)) (by decide) (by decide) (by decide)) (by decide)) (fun h => h.elim (th_ne (hW _ 2 6 h_10 (by decide) (by decide) (by decide)) (hW _ 2 5 h_13 (by decide) (by decide) (by decide)) (by decide)) (fun h => h.elim (th_ne (hW _ 2 6 h_10 (by decide) (by decide) (by decide)) (hW _ 3 6 (hW _ 2 5 h_13 (by decide) (by decide) (by decide)) (by decide) (by decide) (by decide)) (by decide)) (fun h => h.elim hn_111 (th_ne (hW _ 2 6 h_10 (by decide) (by decide) (by decide)) (hW _ 7 6 (hW _ 2 6 h_13 (by decide) (by decide) (by decide)) (by decide) (by decide) (by decide)) (by decide)))))))))) p_12_17)))), (Eq.trans (fi_q (hU_18.2.2 _ (th_ne (hW _ 2 6 h_10 (by decide) (by decide) (by decide)) ha0 (by decide)))) (Eq.trans (fi_q (hU_17.2.2 _ (th_ne (hW _ 2 6 h_10 (by decide) (by decide) (by decide)) ha0 (by decide)))) (Eq.trans (fi_q (hU_16.2.2 _ (th_ne (hW _ 2 6 h_10 (by decide) (by decide) (by decide)) ha0 (by decide)))) (Eq.trans (fi_q (hk_15 _ (fun h => h.elim (th_ne (hW _ 2 6 h_10 (by decide) (by decide) (by decide)) h_13 (by decide)) (fun h => h.elim (th_ne (hW _ 2 6 h_10 (by decide) (by decide) (by decide)) (hW _ 2 4 h_13 (by decide) (by decide) (by decide)) (by decide)) (fun h => h.elim (th_ne (hW _ 2 6 h_10 (by decide) (by decide) (by decide)) (hW _ 5 7 (hW _ 2 4 h_13 (by decide) (by decide) (by decide)) (by decide) (by decide) (by decide)) (by decide)) (fun h => h.elim (th_ne (hW _ 2 6 h_10 (by decide) (by decide) (by decide)) (hW _ 2 5 h_13 (by decide) (by decide) (by decide)) (by decide)) (fun h => h.elim (th_ne (hW _ 2 6 h_10 (by decide) (by decide) (by decide)) (hW _ 3 6 (hW _ 2 5 h_13 (by decide) (by decide) (by decide)) (by decide) (by decide) (by decide)) (by decide)) (fun h => h.elim hn_111 (th_ne (hW _ 2 6 h_10 (by decide) (by decide) (by decide)) (hW _ 7 6 (hW _ 2 6 h_13 (by decide) (by decide) (by decide)) (by decide) (by decide) (by decide)) (by decide)))))))))) p_12_16)))), (Eq.trans (fi_q (hU_18.2.2 _ (th_ne (hW _ 2 5 h_10 (by decide) (by decide) (by decide)) ha0 (by decide)))) (Eq.trans (fi_q (hU_17.2.2 _ (th_ne (hW _ 2 5 h_10 (by decide) (by decide) (by decide)) ha0 (by decide)))) (Eq.trans (fi_q (hU_16.2.2 _ (th_ne (hW _ 2 5 h_10 (by decide) (by decide) (by decide)) ha0 (by decide)))) (Eq.trans (fi_q (hk_15 _ (fun h => h.elim (th_ne (hW _ 2 5 h_10 (by decide) (by decide) (by decide)) h_13 (by decide)) (fun h => h.elim (th_ne (hW _ 2 5 h_10 (by decide) (by decide) (by decide)) (hW _ 2 4 h_13 (by decide) (by decide) (by decide)) (by decide)) (fun h => h.elim (th_ne (hW _ 2 5 h_10 (by decide) (by decide) (by decide)) (hW _ 5 7 (hW _ 2 4 h_13 (by decide) (by decide) (by decide)) (by decide) (by decide) (by decide)) (by decide)) (fun h => h.elim hn_112 (fun h => h.elim (th_ne (hW _ 2 5 h_10 (by decide) (by decide) (by decide)) (hW _ 3 6 (hW _ 2 5 h_13 (by decide) (by decide) (by decide)) (by decide) (by decide) (by decide)) (by decide)) (fun h => h.elim (th_ne (hW _ 2 5 h_10 (by decide) (by decide) (by decide)) (hW _ 2 6 h_13 (by decide) (by decide) (by decide)) (by decide)) (th_ne (hW _ 2 5 h_10 (by decide) (by decide) (by decide)) (hW _ 7 6 (hW _ 2 6 h_13 (by decide) (by decide) (by decide)) (by decide) (by decide) (by decide)) (by decide)))))))))) p_12_15)))), (Eq.trans (fi_q (hU_18.2.2 _ (th_ne (hW _ 2 5 h_10 (by decide) (by decide) (by decide)) ha0 (by decide)))) (Eq.trans (fi_q (hU_17.2.2 _ (th_ne (hW _ 2 5 h_10 (by decide) (by decide) (by decide)) ha0 (by decide)))) (Eq.trans (fi_q (hU_16.2.2 _ (th_ne (hW _ 2 5 h_10 (by decide) (by decide) (by decide)) ha0 (by decide)))) (Eq.trans (fi_q (hk_15 _ (fun h => h.elim (th_ne (hW _ 2 5 h_10 (by decide) (by decide) (by decide)) h_13 (by decide)) (fun h => h.elim (th_ne (hW _ 2 5 h_10 (by decide) (by decide) (by decide)) (hW _ 2 4 h_13 (by decide) (by decide) (by decide)) (by decide)) (fun h => h.elim (th_ne (hW _ 2 5 h_10 (by decide) (by decide) (by decide)) (hW _ 5 7 (hW _ 2 4 h_13 (by decide) (by decide) (by decide)) (by decide) (by decide) (by decide)) (by decide)) (fun h => h.elim hn_112 (fun h => h.elim (th_ne (hW _ 2 5 h_10 (by decide) (by decide) (by decide)) (hW _ 3 6 (hW _ 2 5 h_13 (by decide) (by decide) (by decide)) (by decide) (by decide) (by decide)) (by decide)) (fun h => h.elim (th_ne (hW _ 2 5 h_10 (by decide) (by decide) (by decide)) (hW _ 2 6 h_13 (by decide) (by decide) (by decide)) (by decide)) (th_ne (hW _ 2 5 h_10 (by decide) (by decide) (by decide)) (hW _ 7 6 (hW _ 2 6 h_13 (by decide) (by decide) (by decide)) (by decide) (by decide) (by decide)) (by decide)))))))))) p_12_14)))), (Eq.trans (fi_q (hU_18.2.2 _ (th_ne (hW _ 2 5 h_10 (by decide) (by decide) (by decide)) ha0 (by decide)))) (Eq.trans (fi_q (hU_17.2.2 _ (th_ne (hW _ 2 5 h_10 (by decide) (by decide) (by decide)) ha0 (by decide)))) (Eq.trans (fi_q (hU_16.2.2 _ (th_ne (hW _ 2 5 h_10 (by decide) (by decide) (by decide)) ha0 (by decide)))) (Eq.trans (fi_q (hk_15 _ (fun h => h.elim (th_ne (hW _ 2 5 h_10 (by decide) (by decide) (by decide)) h_13 (by decide)) (fun h => h.elim (th_ne (hW _ 2 5 h_10 (by decide) (by decide) (by decide)) (hW _ 2 4 h_13 (by decide) (by decide) (by decide)) (by decide)) (fun h => h.elim (th_ne (hW _ 2 5 h_10 (by decide) (by decide) (by decide)) (hW _ 5 7 (hW _ 2 4 h_13 (by decide) (by decide) (by decide)) (by decide) (by decide) (by decide)) (by decide)) (fun h => h.elim hn_112 (fun h => h.elim (th_ne (hW _ 2 5 h_10 (by decide) (by decide) (by decide)) (hW _ 3 6 (hW _ 2 5 h_13 (by decide) (by decide) (by decide)) (by decide) (by decide) (by decide)) (by decide)) (fun h => h.elim (th_ne (hW _ 2 5 h_10 (by decide) (by decide) (by decide)) (hW _ 2 6 h_13 (by decide) (by decide) (by decide)) (by decide)) (th_ne (hW _ 2 5 h_10 (by decide) (by decide) (by decide)) (hW _ 7 6 (hW _ 2 6 h_13 (by decide) (by decide) (by decide)) (by decide) (by decide) (by decide)) (by decide)))))))))) p_12_13)))), (Eq.trans (fi_q (hU_18.2.2 _ (th_ne (hW _ 2 5 h_10 (by decide) (by decide) (by decide)) ha0 (by decide)))) (Eq.trans (fi_q (hU_17.2.2 _ (th_ne (hW _ 2 5 h_10 (by decide) (by decide) (by decide)) ha0 (by decide)))) (Eq.trans (fi_q (hU_16.2.2 _ (th_ne (hW _ 2 5 h_10 (by decide) (by decide) (by decide)) ha0 (by decide)))) (Eq.trans (fi_q (hk_15 _ (fun h => h.elim (th_ne (hW _ 2 5 h_10 (by decide) (by decide) (by decide)) h_13 (by decide)) (fun h => h.elim (th_ne (hW _ 2 5 h_10 (by decide) (by decide) (by decide)) (hW _ 2 4 h_13 (by decide) (by decide) (by decide)) (by decide)) (fun h => h.elim (th_ne (hW _ 2 5 h_10 (by decide) (by decide) (by decide)) (hW _ 5 7 (hW _ 2 4 h_13 (by decide) (by decide) (by decide)) (by decide) (by decide) (by decide)) (by decide)) (fun h => h.elim hn_112 (fun h => h.elim (th_ne (hW _ 2 5 h_10 (by decide) (by decide) (by decide)) (hW _ 3 6 (hW _ 2 5 h_13 (by decide) (by decide) (by decide)) (by decide) (by decide) (by decide)) (by decide)) (fun h => h.elim (th_ne (hW _ 2 5 h_10 (by decide) (by decide) (by decide)) (hW _ 2 6 h_13 (by decide) (by decide) (by decide)) (by decide)) (th_ne (hW _ 2 5 h_10 (by decide) (by decide) (by decide)) (hW _ 7 6 (hW _ 2 6 h_13 (by decide) (by decide) (by decide)) (by decide) (by decide) (by decide)) (by decide)))))))))) p_12_12)))), (Eq.trans (fi_q (hU_18.2.2 _ (th_ne (hW _ 2 5 h_10 (by decide) (by decide) (by decide)) ha0 (by decide)))) (Eq.trans (fi_q (hU_17.2.2 _ (th_ne (hW _ 2 5 h_10 (by decide) (by decide) (by decide)) ha0 (by decide)))) (Eq.trans (fi_q (hU_16.2.2 _ (th_ne (hW _ 2 5 h_10 (by decide) (by decide) (by decide)) ha0 (by decide)))) (Eq.trans (fi_q (hk_15 _ (fun h => h.elim (th_ne (hW _ 2 5 h_10 (by decide) (by decide) (by decide)) h_13 (by decide)) (fun h => h.elim (th_ne (hW _ 2 5 h_10 (by decide) (by decide) (by decide)) (hW _ 2 4 h_13 (by decide) (by decide) (by decide)) (by decide)) (fun h => h.elim (th_ne (hW _ 2 5 h_10 (by decide) (by decide) (by decide)) (hW _ 5 7 (hW _ 2 4 h_13 (by decide) (by decide) (by decide)) (by decide) (by decide) (by decide)) (by decide)) (fun h => h.elim hn_112 (fun h => h.elim (th_ne (hW _ 2 5 h_10 (by decide) (by decide) (by decide)) (hW _ 3 6 (hW _ 2 5 h_13 (by decide) (by decide) (by decide)) (by decide) (by decide) (by decide)) (by decide)) (fun h => h.elim (th_ne (hW _ 2 5 h_10 (by decide) (by decide) (by decide)) (hW _ 2 6 h_13 (by decide) (by decide) (by decide)) (by decide)) (th_ne (hW _ 2 5 h_10 (by decide) (by decide) (by decide)) (hW _ 7 6 (hW _ 2 6 h_13 (by decide) (by decide) (by decide)) (by decide) (by decide) (by decide)) (by decide)))))))))) p_12_11)))), (Eq.trans (fl_q (hU_18.2.2 _ (th_ne (hW _ 2 5 h_10 (by decide) (by decide) (by decide)) ha0 (by decide)))) (Eq.trans (fl_q (hU_17.2.2 _ (th_ne (hW _ 2 5 h_10 (by decide) (by decide) (by decide)) ha0 (by decide)))) (Eq.trans (fl_q (hU_16.2.2 _ (th_ne (hW _ 2 5 h_10 (by decide) (by decide) (by decide)) ha0 (by decide)))) (Eq.trans (fl_q (hk_15 _ (fun h => h.elim (th_ne (hW _ 2 5 h_10 (by decide) (by decide) (by decide)) h_13 (by decide)) (fun h => h.elim (th_ne (hW _ 2 5 h_10 (by decide) (by decide) (by decide)) (hW _ 2 4 h_13 (by decide) (by decide) (by decide)) (by decide)) (fun h => h.elim (th_ne (hW _ 2 5 h_10 (by decide) (by decide) (by decide)) (hW _ 5 7 (hW _ 2 4 h_13 (by decide) (by decide) (by decide)) (by decide) (by decide) (by decide)) (by decide)) (fun h => h.elim hn_112 (fun h => h.elim (th_ne (hW _ 2 5 h_10 (by decide) (by decide) (by decide)) (hW _ 3 6 (hW _ 2 5 h_13 (by decide) (by decide) (by decide)) (by decide) (by decide) (by decide)) (by decide)) (fun h => h.elim (th_ne (hW _ 2 5 h_10 (by decide) (by decide) (by decide)) (hW _ 2 6 h_13 (by decide) (by decide) (by decide)) (by decide)) (th_ne (hW _ 2 5 h_10 (by decide) (by decide) (by decide)) (hW _ 7 6 (hW _ 2 6 h_13 (by decide) (by decide) (by decide)) (by decide) (by decide) (by decide)) (by decide)))))))))) p_12_10)))), (Eq.trans (fi_q (hU_18.2.2 _ (th_ne (hW _ 2 4 h_10 (by decide) (by decide) (by decide)) ha0 (by decide)))) (Eq.trans (fi_q (hU_17.2.2 _ (th_ne (hW _ 2 4 h_10 (by decide) (by decide) (by decide)) ha0 (by decide)))) (Eq.trans (fi_q (hU_16.2.2 _ (th_ne (hW _ 2 4 h_10 (by decide) (by decide) (by decide)) ha0 (by decide)))) (Eq.trans (fi_q (hk_15 _ (fun h => h.elim (th_ne (hW _ 2 4 h_10 (by decide) (by decide) (by decide)) h_13 (by decide)) (fun h => h.elim hn_113 (fun h => h.elim (th_ne (hW _ 2 4 h_10 (by decide) (by decide) (by decide)) (hW _ 5 7 (hW _ 2 4 h_13 (by decide) (by decide) (by decide)) (by decide) (by decide) (by decide)) (by decide)) (fun h => h.elim (th_ne (hW _ 2 4 h_10 (by decide) (by decide) (by decide)) (hW _ 2 5 h_13 (by decide) (by decide) (by decide)) (by decide)) (fun h => h.elim (th_ne (hW _ 2 4 h_10 (by decide) (by decide) (by decide)) (hW _ 3 6 (hW _ 2 5 h_13 (by decide) (by decide) (by decide)) (by decide) (by decide) (by decide)) (by decide)) (fun h => h.elim (th_ne (hW _ 2 4 h_10 (by decide) (by decide) (by decide)) (hW _ 2 6 h_13 (by decide) (by decide) (by decide)) (by decide)) (th_ne (hW _ 2 4 h_10 (by decide) (by decide) (by decide)) (hW _ 7 6 (hW _ 2 6 h_13 (by decide) (by decide) (by decide)) (by decide) (by decide) (by decide)) (by decide)))))))))) p_12_9)))), (Eq.trans (fi_q (hU_18.2.2 _ (th_ne (hW _ 2 4 h_10 (by decide) (by decide) (by decide)) ha0 (by decide)))) (Eq.trans (fi_q (hU_17.2.2 _ (th_ne (hW _ 2 4 h_10 (by decide) (by decide) (by decide)) ha0 (by decide)))) (Eq.trans (fi_q (hU_16.2.2 _ (th_ne (hW _ 2 4 h_10 (by decide) (by decide) (by decide)) ha0 (by decide)))) (Eq.trans (fi_q (hk_15 _ (fun h => h.elim (th_ne (hW _ 2 4 h_10 (by decide) (by decide) (by decide)) h_13 (by decide)) (fun h => h.elim hn_113 (fun h => h.elim (th_ne (hW _ 2 4 h_10 (by decide) (by decide) (by decide)) (hW _ 5 7 (hW _ 2 4 h_13 (by decide) (by decide) (by decide)) (by decide) (by decide) (by decide)) (by decide)) (fun h => h.elim (th_ne (hW _ 2 4 h_10 (by decide) (by decide) (by decide)) (hW _ 2 5 h_13 (by decide) (by decide) (by decide)) (by decide)) (fun h => h.elim (th_ne (hW _ 2 4 h_10 (by decide) (by decide) (by decide)) (hW _ 3 6 (hW _ 2 5 h_13 (by decide) (by decide) (by decide)) (by decide) (by decide) (by decide)) (by decide)) (fun h => h.elim (th_ne (hW _ 2 4 h_10 (by decide) (by decide) (by decide)) (hW _ 2 6 h_13 (by decide) (by decide) (by decide)) (by decide)) (th_ne (hW _ 2 4 h_10 (by decide) (by decide) (by decide)) (hW _ 7 6 (hW _ 2 6 h_13 (by decide) (by decide) (by decide)) (by decide) (by decide) (by decide)) (by decide)))))))))) p_12_8)))), (Eq.trans (fi_q (hU_18.2.2 _ (th_ne (hW _ 2 4 h_10 (by decide) (by decide) (by decide)) ha0 (by decide)))) (Eq.trans (fi_q (hU_17.2.2 _ (th_ne (hW _ 2 4 h_10 (by decide) (by decide) (by decide)) ha0 (by decide)))) (Eq.trans (fi_q (hU_16.2.2 _ (th_ne (hW _ 2 4 h_10 (by decide) (by decide) (by decide)) ha0 (by decide)))) (Eq.trans (fi_q (hk_15 _ (fun h => h.elim (th_ne (hW _ 2 4 h_10 (by decide) (by decide) (by decide)) h_13 (by decide)) (fun h => h.elim hn_113 (fun h => h.elim (th_ne (hW _ 2 4 h_10 (by decide) (by decide) (by decide)) (hW _ 5 7 (hW _ 2 4 h_13 (by decide) (by decide) (by decide)) (by decide) (by decide) (by decide)) (by decide)) (fun h => h.elim (th_ne (hW _ 2 4 h_10 (by decide) (by decide) (by decide)) (hW _ 2 5 h_13 (by decide) (by decide) (by decide)) (by decide)) (fun h => h.elim (th_ne (hW _ 2 4 h_10 (by decide) (by decide) (by decide)) (hW _ 3 6 (hW _ 2 5 h_13 (by decide) (by decide) (by decide)) (by decide) (by decide) (by decide)) (by decide)) (fun h => h.elim (th_ne (hW _ 2 4 h_10 (by decide) (by decide) (by decide)) (hW _ 2 6 h_13 (by decide) (by decide) (by decide)) (by decide)) (th_ne (hW _ 2 4 h_10 (by decide) (by decide) (by decide)) (hW _ 7 6 (hW _ 2 6 h_13 (by decide) (by decide) (by decide)) (by decide) (by decide) (by decide)) (by decide)))))))))) p_12_7)))), (Eq.trans (fi_q (hU_18.2.2 _ (th_ne (hW _ 2 4 h_10 (by decide) (by decide) (by decide)) ha0 (by decide)))) (Eq.trans (fi_q (hU_17.2.2 _ (th_ne (hW _ 2 4 h_10 (by decide) (by decide) (by decide)) ha0 (by decide)))) (Eq.trans (fi_q (hU_16.2.2 _ (th_ne (hW _ 2 4 h_10 (by decide) (by decide) (by decide)) ha0 (by decide)))) (Eq.trans (fi_q (hk_15 _ (fun h => h.elim (th_ne (hW _ 2 4 h_10 (by decide) (by decide) (by decide)) h_13 (by decide)) (fun h => h.elim hn_113 (fun h => h.elim (th_ne (hW _ 2 4 h_10 (by decide) (by decide) (by decide)) (hW _ 5 7 (hW _ 2 4 h_13 (by decide) (by decide) (by decide)) (by decide) (by decide) (by decide)) (by decide)) (fun h => h.elim (th_ne (hW _ 2 4 h_10 (by decide) (by decide) (by decide)) (hW _ 2 5 h_13 (by decide) (by decide) (by decide)) (by decide)) (fun h => h.elim (th_ne (hW _ 2 4 h_10 (by decide) (by decide) (by decide)) (hW _ 3 6 (hW _ 2 5 h_13 (by decide) (by decide) (by decide)) (by decide) (by decide) (by decide)) (by decide)) (fun h => h.elim (th_ne (hW _ 2 4 h_10 (by decide) (by decide) (by decide)) (hW _ 2 6 h_13 (by decide) (by decide) (by decide)) (by decide)) (th_ne (hW _ 2 4 h_10 (by decide) (by decide) (by decide)) (hW _ 7 6 (hW _ 2 6 h_13 (by decide) (by decide) (by decide)) (by decide) (by decide) (by decide)) (by decide)))))))))) p_12_6)))), (Eq.trans (fi_q (hU_18.2.2 _ (th_ne (hW _ 2 4 h_10 (by decide) (by decide) (by decide)) ha0 (by decide)))) (Eq.trans (fi_q (hU_17.2.2 _ (th_ne (hW _ 2 4 h_10 (by decide) (by decide) (by decide)) ha0 (by decide)))) (Eq.trans (fi_q (hU_16.2.2 _ (th_ne (hW _ 2 4 h_10 (by decide) (by decide) (by decide)) ha0 (by decide)))) (Eq.trans (fi_q (hk_15 _ (fun h => h.elim (th_ne (hW _ 2 4 h_10 (by decide) (by decide) (by decide)) h_13 (by decide)) (fun h => h.elim hn_113 (fun h => h.elim (th_ne (hW _ 2 4 h_10 (by decide) (by decide) (by decide)) (hW _ 5 7 (hW _ 2 4 h_13 (by decide) (by decide) (by decide)) (by decide) (by decide) (by decide)) (by decide)) (fun h => h.elim (th_ne (hW _ 2 4 h_10 (by decide) (by decide) (by decide)) (hW _ 2 5 h_13 (by decide) (by decide) (by decide)) (by decide)) (fun h => h.elim (th_ne (hW _ 2 4 h_10 (by decide) (by decide) (by decide)) (hW _ 3 6 (hW _ 2 5 h_13 (by decide) (by decide) (by decide)) (by decide) (by decide) (by decide)) (by decide)) (fun h => h.elim (th_ne (hW _ 2 4 h_10 (by decide) (by decide) (by decide)) (hW _ 2 6 h_13 (by decide) (by decide) (by decide)) (by decide)) (th_ne (hW _ 2 4 h_10 (by decide) (by decide) (by decide)) (hW _ 7 6 (hW _ 2 6 h_13 (by decide) (by decide) (by decide)) (by decide) (by decide) (by decide)) (by decide)))))))))) p_12_5)))), (Eq.trans (fi_q (hU_18.2.2 _ (th_ne (hW _ 2 4 h_10 (by decide) (by decide) (by decide)) ha0 (by decide)))) (Eq.trans (fi_q (hU_17.2.2 _ (th_ne (hW _ 2 4 h_10 (by decide) (by decide) (by decide)) ha0 (by decide)))) (Eq.trans (fi_q (hU_16.2.2 _ (th_ne (hW _ 2 4 h_10 (by decide) (by decide) (by decide)) ha0 (by decide)))) (Eq.trans (fi_q (hk_15 _ (fun h => h.elim (th_ne (hW _ 2 4 h_10 (by decide) (by decide) (by decide)) h_13 (by decide)) (fun h => h.elim hn_113 (fun h => h.elim (th_ne (hW _ 2 4 h_10 (by decide) (by decide) (by decide)) (hW _ 5 7 (hW _ 2 4 h_13 (by decide) (by decide) (by decide)) (by decide) (by decide) (by decide)) (by decide)) (fun h => h.elim (th_ne (hW _ 2 4 h_10 (by decide) (by decide) (by decide)) (hW _ 2 5 h_13 (by decide) (by decide) (by decide)) (by decide)) (fun h => h.elim (th_ne (hW _ 2 4 h_10 (by decide) (by decide) (by decide)) (hW _ 3 6 (hW _ 2 5 h_13 (by decide) (by decide) (by decide)) (by decide) (by decide) (by decide)) (by decide)) (fun h => h.elim (th_ne (hW _ 2 4 h_10 (by decide) (by decide) (by decide)) (hW _ 2 6 h_13 (by decide) (by decide) (by decide)) (by decide)) (th_ne (hW _ 2 4 h_10 (by decide) (by decide) (by decide)) (hW _ 7 6 (hW _ 2 6 h_13 (by decide) (by decide) (by decide)) (by decide) (by decide) (by decide)) (by decide)))))))))) p_12_4)))), (Eq.trans (fl_q (hU_18.2.2 _ (th_ne (hW _ 2 4 h_10 (by decide) (by decide) (by decide)) ha0 (by decide)))) (Eq.trans (fl_q (hU_17.2.2 _ (th_ne (hW _ 2 4 h_10 (by decide) (by decide) (by decide)) ha0 (by decide)))) (Eq.trans (fl_q (hU_16.2.2 _ (th_ne (hW _ 2 4 h_10 (by decide) (by decide) (by decide)) ha0 (by decide)))) (Eq.trans (fl_q (hk_15 _ (fun h => h.elim (th_ne (hW _ 2 4 h_10 (by decide) (by decide) (by decide)) h_13 (by decide)) (fun h => h.elim hn_113 (fun h => h.elim (th_ne (hW _ 2 4 h_10 (by decide) (by decide) (by decide)) (hW _ 5 7 (hW _ 2 4 h_13 (by decide) (by decide) (by decide)) (by decide) (by decide) (by decide)) (by decide)) (fun h => h.elim (th_ne (hW _ 2 4 h_10 (by decide) (by decide) (by decide)) (hW _ 2 5 h_13 (by decide) (by decide) (by decide)) (by decide)) (fun h => h.elim (th_ne (hW _ 2 4 h_10 (by decide) (by decide) (by decide)) (hW _ 3 6 (hW _ 2 5 h_13 (by decide) (by decide) (by decide)) (by decide) (by decide) (by decide)) (by decide)) (fun h => h.elim (th_ne (hW _ 2 4 h_10 (by decide) (by decide) (by decide)) (hW _ 2 6 h_13 (by decide) (by decide) (by decide)) (by decide)) (th_ne (hW _ 2 4 h_10 (by decide) (by decide) (by decide)) (hW _ 7 6 (hW _ 2 6 h_13 (by decide) (by decide) (by decide)) (by decide) (by decide) (by decide)) (by decide)))))))))) p_12_3)))), (Eq.trans (fi_q (hU_18.2.2 _ (th_ne h_10 ha0 (by decide)))) (Eq.trans (fi_q (hU_17.2.2 _ (th_ne h_10 ha0 (by decide)))) (Eq.trans (fi_q (hU_16.2.2 _ (th_ne h_10 ha0 (by decide)))) (Eq.trans (fi_q (hk_15 _ (fun h => h.elim hn_114 (fun h => h.elim (th_ne h_10 (hW _ 2 4 h_13 (by decide) (by decide) (by decide)) (by decide)) (fun h => h.elim (th_ne h_10 (hW _ 5 7 (hW _ 2 4 h_13 (by decide) (by decide) (by decide)) (by decide) (by decide) (by decide)) (by decide)) (fun h => h.elim (th_ne h_10 (hW _ 2 5 h_13 (by decide) (by decide) (by decide)) (by decide)) (fun h => h.elim (th_ne h_10 (hW _ 3 6 (hW _ 2 5 h_13 (by decide) (by decide) (by decide)) (by decide) (by decide) (by decide)) (by decide)) (fun h => h.elim (th_ne h_10 (hW _ 2 6 h_13 (by decide) (by decide) (by decide)) (by decide)) (th_ne h_10 (hW _ 7 6 (hW _ 2 6 h_13 (by decide) (by decide) (by decide)) (by decide) (by decide) (by decide)) (by decide)))))))))) p_12_2)))), (Eq.trans (fi_q (hU_18.2.2 _ (th_ne h_10 ha0 (by decide)))) (Eq.trans (fi_q (hU_17.2.2 _ (th_ne h_10 ha0 (by decide)))) (Eq.trans (fi_q (hU_16.2.2 _ (th_ne h_10 ha0 (by decide)))) (Eq.trans (fi_q (hk_15 _ (fun h => h.elim hn_114 (fun h => h.elim (th_ne h_10 (hW _ 2 4 h_13 (by decide) (by decide) (by decide)) (by decide)) (fun h => h.elim (th_ne h_10 (hW _ 5 7 (hW _ 2 4 h_13 (by decide) (by decide) (by decide)) (by decide) (by decide) (by decide)) (by decide)) (fun h => h.elim (th_ne h_10 (hW _ 2 5 h_13 (by decide) (by decide) (by decide)) (by decide)) (fun h => h.elim (th_ne h_10 (hW _ 3 6 (hW _ 2 5 h_13 (by decide) (by decide) (by decide)) (by decide) (by decide) (by decide)) (by decide)) (fun h => h.elim (th_ne h_10 (hW _ 2 6 h_13 (by decide) (by decide) (by decide)) (by decide)) (th_ne h_10 (hW _ 7 6 (hW _ 2 6 h_13 (by decide) (by decide) (by decide)) (by decide) (by decide) (by decide)) (by decide)))))))))) p_12_1)))), (Eq.trans (fi_q (hU_18.2.2 _ (th_ne h_10 ha0 (by decide)))) (Eq.trans (fi_q (hU_17.2.2 _ (th_ne h_10 ha0 (by decide)))) (Eq.trans (fi_q (hU_16.2.2 _ (th_ne h_10 ha0 (by decide)))) (Eq.trans (fi_q (hk_15 _ (fun h => h.elim hn_114 (fun h => h.elim (th_ne h_10 (hW _ 2 4 h_13 (by decide) (by decide) (by decide)) (by decide)) (fun h => h.elim (th_ne h_10 (hW _ 5 7 (hW _ 2 4 h_13 (by decide) (by decide) (by decide)) (by decide) (by decide) (by decide)) (by decide)) (fun h => h.elim (th_ne h_10 (hW _ 2 5 h_13 (by decide) (by decide) (by decide)) (by decide)) (fun h => h.elim (th_ne h_10 (hW _ 3 6 (hW _ 2 5 h_13 (by decide) (by decide) (by decide)) (by decide) (by decide) (by decide)) (by decide)) (fun h => h.elim (th_ne h_10 (hW _ 2 6 h_13 (by decide) (by decide) (by decide)) (by decide)) (th_ne h_10 (hW _ 7 6 (hW _ 2 6 h_13 (by decide) (by decide) (by decide)) (by decide) (by decide) (by decide)) (by decide)))))))))) p_12_0)))), (Eq.trans (fi_q (hU_18.2.2 _ (th_ne (hW _ 2 6 h_13 (by decide) (by decide) (by decide)) ha0 (by decide)))) (Eq.trans (fi_q (hU_17.2.2 _ (th_ne (hW _ 2 6 h_13 (by decide) (by decide) (by decide)) ha0 (by decide)))) (Eq.trans (fi_q (hU_16.2.2 _ (th_ne (hW _ 2 6 h_13 (by decide) (by decide) (by decide)) ha0 (by decide)))) p_15_21))), (Eq.trans (fi_q (hU_18.2.2 _ (th_ne (hW _ 2 6 h_13 (by decide) (by decide) (by decide)) ha0 (by decide)))) (Eq.trans (fi_q (hU_17.2.2 _ (th_ne (hW _ 2 6 h_13 (by decide) (by decide) (by decide)) ha0 (by decide)))) (Eq.trans (fi_q (hU_16.2.2 _ (th_ne (hW _ 2 6 h_13 (by decide) (by decide) (by decide)) ha0 (by decide)))) p_15_20))), (Eq.trans (fi_q (hU_18.2.2 _ (th_ne (hW _ 2 6 h_13 (by decide) (by decide) (by decide)) ha0 (by decide)))) (Eq.trans (fi_q (hU_17.2.2 _ (th_ne (hW _ 2 6 h_13 (by decide) (by decide) (by decide)) ha0 (by decide)))) (Eq.trans (fi_q (hU_16.2.2 _ (th_ne (hW _ 2 6 h_13 (by decide) (by decide) (by decide)) ha0 (by decide)))) p_15_19))), (Eq.trans (fi_q (hU_18.2.2 _ (th_ne (hW _ 2 6 h_13 (by decide) (by decide) (by decide)) ha0 (by decide)))) (Eq.trans (fi_q (hU_17.2.2 _ (th_ne (hW _ 2 6 h_13 (by decide) (by decide) (by decide)) ha0 (by decide)))) (Eq.trans (fi_q (hU_16.2.2 _ (th_ne (hW _ 2 6 h_13 (by decide) (by decide) (by decide)) ha0 (by decide)))) p_15_18))), (Eq.trans (fi_q (hU_18.2.2 _ (th_ne (hW _ 2 6 h_13 (by decide) (by decide) (by decide)) ha0 (by decide)))) (Eq.trans (fi_q (hU_17.2.2 _ (th_ne (hW _ 2 6 h_13 (by decide) (by decide) (by decide)) ha0 (by decide)))) (Eq.trans (fi_q (hU_16.2.2 _ (th_ne (hW _ 2 6 h_13 (by decide) (by decide) (by decide)) ha0 (by decide)))) p_15_17))), (Eq.trans (fi_q (hU_18.2.2 _ (th_ne (hW _ 2 6 h_13 (by decide) (by decide) (by decide)) ha0 (by decide)))) (Eq.trans (fi_q (hU_17.2.2 _ (th_ne (hW _ 2 6 h_13 (by decide) (by decide) (by decide)) ha0 (by decide)))) (Eq.trans (fi_q (hU_16.2.2 _ (th_ne (hW _ 2 6 h_13 (by decide) (by decide) (by decide)) ha0 (by decide)))) p_15_16))), (Eq.trans (fi_q (hU_18.2.2 _ (th_ne (hW _ 2 5 h_13 (by decide) (by decide) (by decide)) ha0 (by decide)))) (Eq.trans (fi_q (hU_17.2.2 _ (th_ne (hW _ 2 5 h_13 (by decide) (by decide) (by decide)) ha0 (by decide)))) (Eq.trans (fi_q (hU_16.2.2 _ (th_ne (hW _ 2 5 h_13 (by decide) (by decide) (by decide)) ha0 (by decide)))) p_15_15))), (Eq.trans (fi_q (hU_18.2.2 _ (th_ne (hW _ 2 5 h_13 (by decide) (by decide) (by decide)) ha0 (by decide)))) (Eq.trans (fi_q (hU_17.2.2 _ (th_ne (hW _ 2 5 h_13 (by decide) (by decide) (by decide)) ha0 (by decide)))) (Eq.trans (fi_q (hU_16.2.2 _ (th_ne (hW _ 2 5 h_13 (by decide) (by decide) (by decide)) ha0 (by decide)))) p_15_14))), (Eq.trans (fi_q (hU_18.2.2 _ (th_ne (hW _ 2 5 h_13 (by decide) (by decide) (by decide)) ha0 (by decide)))) (Eq.trans (fi_q (hU_17.2.2 _ (th_ne (hW _ 2 5 h_13 (by decide) (by decide) (by decide)) ha0 (by decide)))) (Eq.trans (fi_q (hU_16.2.2 _ (th_ne (hW _ 2 5 h_13 (by decide) (by decide) (by decide)) ha0 (by decide)))) p_15_13))), (Eq.trans (fi_q (hU_18.2.2 _ (th_ne (hW _ 2 5 h_13 (by decide) (by decide) (by decide)) ha0 (by decide)))) (Eq.trans (fi_q (hU_17.2.2 _ (th_ne (hW _ 2 5 h_13 (by decide) (by decide) (by decide)) ha0 (by decide)))) (Eq.trans (fi_q (hU_16.2.2 _ (th_ne (hW _ 2 5 h_13 (by decide) (by decide) (by decide)) ha0 (by decide)))) p_15_12))), (Eq.trans (fi_q (hU_18.2.2 _ (th_ne (hW _ 2 5 h_13 (by decide) (by decide) (by decide)) ha0 (by decide)))) (Eq.trans (fi_q (hU_17.2.2 _ (th_ne (hW _ 2 5 h_13 (by decide) (by decide) (by decide)) ha0 (by decide)))) (Eq.trans (fi_q (hU_16.2.2 _ (th_ne (hW _ 2 5 h_13 (by decide) (by decide) (by decide)) ha0 (by decide)))) p_15_11))), (Eq.trans (fl_q (hU_18.2.2 _ (th_ne (hW _ 2 5 h_13 (by decide) (by decide) (by decide)) ha0 (by decide)))) (Eq.trans (fl_q (hU_17.2.2 _ (th_ne (hW _ 2 5 h_13 (by decide) (by decide) (by decide)) ha0 (by decide)))) (Eq.trans (fl_q (hU_16.2.2 _ (th_ne (hW _ 2 5 h_13 (by decide) (by decide) (by decide)) ha0 (by decide)))) p_15_10))), (Eq.trans (fi_q (hU_18.2.2 _ (th_ne (hW _ 2 4 h_13 (by decide) (by decide) (by decide)) ha0 (by decide)))) (Eq.trans (fi_q (hU_17.2.2 _ (th_ne (hW _ 2 4 h_13 (by decide) (by decide) (by decide)) ha0 (by decide)))) (Eq.trans (fi_q (hU_16.2.2 _ (th_ne (hW _ 2 4 h_13 (by decide) (by decide) (by decide)) ha0 (by decide)))) p_15_9))), (Eq.trans (fi_q (hU_18.2.2 _ (th_ne (hW _ 2 4 h_13 (by decide) (by decide) (by decide)) ha0 (by decide)))) (Eq.trans (fi_q (hU_17.2.2 _ (th_ne (hW _ 2 4 h_13 (by decide) (by decide) (by decide)) ha0 (by decide)))) (Eq.trans (fi_q (hU_16.2.2 _ (th_ne (hW _ 2 4 h_13 (by decide) (by decide) (by decide)) ha0 (by decide)))) p_15_8))), (Eq.trans (fi_q (hU_18.2.2 _ (th_ne (hW _ 2 4 h_13 (by decide) (by decide) (by decide)) ha0 (by decide)))) (Eq.trans (fi_q (hU_17.2.2 _ (th_ne (hW _ 2 4 h_13 (by decide) (by decide) (by decide)) ha0 (by decide)))) (Eq.trans (fi_q (hU_16.2.2 _ (th_ne (hW _ 2 4 h_13 (by decide) (by decide) (by decide)) ha0 (by decide)))) p_15_7))), (Eq.trans (fi_q (hU_18.2.2 _ (th_ne (hW _ 2 4 h_13 (by decide) (by decide) (by decide)) ha0 (by decide)))) (Eq.trans (fi_q (hU_17.2.2 _ (th_ne (hW _ 2 4 h_13 (by decide) (by decide) (by decide)) ha0 (by decide)))) (Eq.trans (fi_q (hU_16.2.2 _ (th_ne (hW _ 2 4 h_13 (by decide) (by decide) (by decide)) ha0 (by decide)))) p_15_6))), (Eq.trans (fi_q (hU_18.2.2 _ (th_ne (hW _ 2 4 h_13 (by decide) (by decide) (by decide)) ha0 (by decide)))) (Eq.trans (fi_q (hU_17.2.2 _ (th_ne (hW _ 2 4 h_13 (by decide) (by decide) (by decide)) ha0 (by decide)))) (Eq.trans (fi_q (hU_16.2.2 _ (th_ne (hW _ 2 4 h_13 (by decide) (by decide) (by decide)) ha0 (by decide)))) p_15_5))), (Eq.trans (fi_q (hU_18.2.2 _ (th_ne (hW _ 2 4 h_13 (by decide) (by decide) (by decide)) ha0 (by decide)))) (Eq.trans (fi_q (hU_17.2.2 _ (th_ne (hW _ 2 4 h_13 (by decide) (by decide) (by decide)) ha0 (by decide)))) (Eq.trans (fi_q (hU_16.2.2 _ (th_ne (hW _ 2 4 h_13 (by decide) (by decide) (by decide)) ha0 (by decide)))) p_15_4))), (Eq.trans (fl_q (hU_18.2.2 _ (th_ne (hW _ 2 4 h_13 (by decide) (by decide) (by decide)) ha0 (by decide)))) (Eq.trans (fl_q (hU_17.2.2 _ (th_ne (hW _ 2 4 h_13 (by decide) (by decide) (by decide)) ha0 (by decide)))) (Eq.trans (fl_q (hU_16.2.2 _ (th_ne (hW _ 2 4 h_13 (by decide) (by decide) (by decide)) ha0 (by decide)))) p_15_3))), (Eq.trans (fi_q (hU_18.2.2 _ (th_ne h_13 ha0 (by decide)))) (Eq.trans (fi_q (hU_17.2.2 _ (th_ne h_13 ha0 (by decide)))) (Eq.trans (fi_q (hU_16.2.2 _ (th_ne h_13 ha0 (by decide)))) p_15_2))), (Eq.trans (fi_q (hU_18.2.2 _ (th_ne h_13 ha0 (by decide)))) (Eq.trans (fi_q (hU_17.2.2 _ (th_ne h_13 ha0 (by decide)))) (Eq.trans (fi_q (hU_16.2.2 _ (th_ne h_13 ha0 (by decide)))) p_15_1))), (Eq.trans (fi_q (hU_18.2.2 _ (th_ne h_13 ha0 (by decide)))) (Eq.trans (fi_q (hU_17.2.2 _ (th_ne h_13 ha0 (by decide)))) (Eq.trans (fi_q (hU_16.2.2 _ (th_ne h_13 ha0 (by decide)))) p_15_0))), (Eq.trans (PU.io hU_18 (j := 7) (by decide) (by decide)) (Eq.trans (PU.io hU_17 (j := 7) (by decide) (by decide)) (PU.i hU_16))), (Eq.trans (PU.io hU_18 (j := 8) (by decide) (by decide)) (PU.i hU_17)), (PU.i hU_18)⟩ dX4_copyFrom_82
set_option maxHeartbeats 4000000 in
set_option maxRecDepth 100000 in
/-- StreamEnds$Endpoint.isBusy -/
theorem c_X2_isBusy (l : Launch) (D : va_G) (cI cS : ClassId) (τ : Nat → Option Nat) (ρ : Nat → Nat → Nat) (hW : WF τ ρ) (H : Heap) (hT : TH D cI cS τ ρ H) (a0 : Nat) (ha0 : τ a0 = some 2) (hf_1 : fi D 2 8 H a0 = 0) (hf_2 : fi D 2 7 H a0 = 0) : MI l D cI cS τ ρ yX2_isBusy cX2_isBusy 1 (some .boolean) 0 0 H [.ref a0] (fun (r : Int32) (u : Heap) => H = u ∧ 0 = r) (fun q => False) := by
  refine MI.of (by decide) (Nat.le_of_ble_eq_true rfl) ?_
  intro p e s m args below meth c E hml hr hlk hs ls hl
  have hx := E.1
  have hb := E.2.1
  have hown := E.2.2.1
  have hts := E.2.2.2.1
  have hS : SS (fun q => False) H H [] := SS.rf
  have hl : lv_has ls 1 [(0, .ref a0)] := hl
  refine lv_aload_n hx hb dX2_isBusy_0 rfl (lv_at hl 0 rfl) ?_
  refine gf_X2_66 E hT ha0 dX2_isBusy_1 ?_
  refine th_topi (y := 0) hf_1 ?_
  refine lv_if_ne (tgt := 16) hx hb dX2_isBusy_4 (by decide) (fun c_1 => absurd (by decide) c_1) (fun c_1 => ?_)
  refine lv_aload_n hx hb dX2_isBusy_7 rfl (lv_at hl 0 rfl) ?_
  refine gf_X2_63 E hT ha0 dX2_isBusy_8 ?_
  refine th_topi (y := 0) hf_2 ?_
  refine lv_bipush (v := 10) hx hb dX2_isBusy_11 (by decide) ?_
  refine lv_icmp_ne (tgt := 20) hx hb dX2_isBusy_13 (by decide) (fun c_2 => ?_) (fun c_2 => absurd c_2 (by decide))
  refine lv_iconst (v := 0) hx hb dX2_isBusy_20 (by decide) ?_
  exact th_zret E hr hlk hs (Or.inl rfl) hT hS ⟨rfl, rfl⟩ dX2_isBusy_21
set_option maxHeartbeats 4000000 in
set_option maxRecDepth 100000 in
/-- StreamEnds$Network.isBusy -/
theorem c_X4_isBusy (l : Launch) (D : va_G) (cI cS : ClassId) (τ : Nat → Option Nat) (ρ : Nat → Nat → Nat) (hW : WF τ ρ) (H : Heap) (hT : TH D cI cS τ ρ H) (a0 : Nat) (ha0 : τ a0 = some 4) (hf_1 : fi D 10 2 H (ρ a0 1) = 0) (hf_2 : fi D 2 8 H (ρ a0 3) = 0) (hf_3 : fi D 2 7 H (ρ a0 3) = 0) (hf_4 : fi D 2 8 H (ρ a0 4) = 0) (hf_5 : fi D 2 7 H (ρ a0 4) = 0) : MI l D cI cS τ ρ yX4_isBusy cX4_isBusy 1 (some .boolean) 1 20 H [.ref a0] (fun (r : Int32) (u : Heap) => H = u ∧ 0 = r) (fun q => False) := by
  refine MI.of (by decide) (Nat.le_of_ble_eq_true rfl) ?_
  intro p e s m args below meth c E hml hr hlk hs ls hl
  have hx := E.1
  have hb := E.2.1
  have hown := E.2.2.1
  have hts := E.2.2.2.1
  have hS : SS (fun q => False) H H [] := SS.rf
  have hl : lv_has ls 1 [(0, .ref a0)] := hl
  refine lv_aload_n hx hb dX4_isBusy_0 rfl (lv_at hl 0 rfl) ?_
  refine gf_X4_21 E hT hW ha0 dX4_isBusy_1 (fun h_1 => ?_)
  refine gf_X4_84 E hT h_1 dX4_isBusy_4 ?_
  refine th_topi (y := 0) hf_1 ?_
  refine lv_if_gt (tgt := 30) hx hb dX4_isBusy_7 (by decide) (fun c_2 => absurd c_2 (by decide)) (fun c_2 => ?_)
  refine lv_aload_n hx hb dX4_isBusy_10 rfl (lv_at hl 0 rfl) ?_
  refine gf_X4_37 E hT hW ha0 dX4_isBusy_11 (fun h_3 => ?_)
  refine th_Vi (As := []) (rest := []) E hml hl.1 (c_X2_isBusy l D cI cS τ ρ hW H hT (ρ a0 3) h_3 hf_2 hf_3) lk_X4_87 yd_X2_isBusy hT h_3 rfl (by decide) hS (fun _ h => h.elim) ⟨by decide, by decide⟩ (Nat.le_of_ble_eq_true rfl) ⟨by decide, by decide⟩ rfl dX4_isBusy_14 (fun r_4 H_4 locs_4 p_4 hT_4 hk_4 hS_4 => ?_)
  have p_4 : H = H_4 ∧ 0 = r_4 := p_4
  obtain ⟨rfl, rfl⟩ := p_4
  refine lv_if_ne (tgt := 30) hx hb dX4_isBusy_17 (by decide) (fun c_5 => absurd (by decide) c_5) (fun c_5 => ?_)
  refine lv_aload_n hx hb dX4_isBusy_20 rfl (lv_at hl 0 rfl) ?_
  refine gf_X4_41 E hT_4 hW ha0 dX4_isBusy_21 (fun h_6 => ?_)
  refine th_Vi (As := []) (rest := []) E hml hl.1 (c_X2_isBusy l D cI cS τ ρ hW H hT_4 (ρ a0 4) h_6 hf_4 hf_5) lk_X4_87 yd_X2_isBusy hT_4 h_6 rfl (by decide) hS_4 (fun _ h => h.elim) ⟨by decide, by decide⟩ (Nat.le_of_ble_eq_true rfl) ⟨by decide, by decide⟩ rfl dX4_isBusy_24 (fun r_7 H_7 locs_7 p_7 hT_7 hk_7 hS_7 => ?_)
  have p_7 : H = H_7 ∧ 0 = r_7 := p_7
  obtain ⟨rfl, rfl⟩ := p_7
  refine lv_if_eq (tgt := 34) hx hb dX4_isBusy_27 (by decide) (fun c_8 => ?_) (fun c_8 => absurd (by decide) c_8)
  refine lv_iconst (v := 0) hx hb dX4_isBusy_34 (by decide) ?_
  exact th_zret E hr hlk hs (Or.inl rfl) hT_7 hS_7 ⟨rfl, rfl⟩ dX4_isBusy_35
set_option maxHeartbeats 4000000 in
set_option maxRecDepth 100000 in
/-- StreamEnds.calm -/
theorem c_X11_calm_v2 (l : Launch) (D : va_G) (cI cS : ClassId) (τ : Nat → Option Nat) (ρ : Nat → Nat → Nat) (hW : WF τ ρ) (H : Heap) (hT : TH D cI cS τ ρ H) (a0 : Nat) (ha0 : τ a0 = some 11) (hf_1 : fi D 1 0 H (ρ (ρ a0 2) 0) = 4) (hn_2 : ρ (ρ a0 2) 0 ≠ ρ (ρ a0 3) 0) (hf_3 : fi D 1 1 H (ρ (ρ a0 2) 0) = 12) (hf_4 : fi D 1 2 H (ρ (ρ a0 2) 0) = 250) (hf_5 : fi D 1 3 H (ρ (ρ a0 2) 0) = 100) (hf_6 : fi D 1 4 H (ρ (ρ a0 2) 0) = 5) (hf_7 : fi D 10 2 H (ρ (ρ a0 2) 1) = 0) (hn_8 : ρ (ρ a0 2) 1 ≠ ρ (ρ a0 3) 1) (hf_9 : fi D 10 3 H (ρ (ρ a0 2) 1) = 0) (hf_10 : fi D 10 4 H (ρ (ρ a0 2) 1) = 0) (hf_11 : fi D 10 5 H (ρ (ρ a0 2) 1) = 0) (hf_12 : fi D 0 0 H (ρ (ρ a0 2) 2) = 0) (hf_13 : fi D 2 7 H (ρ (ρ a0 2) 3) = 0) (hn_14 : ρ (ρ a0 2) 3 ≠ ρ (ρ a0 3) 3) (hf_15 : fi D 2 8 H (ρ (ρ a0 2) 3) = 0) (hf_16 : fi D 2 9 H (ρ (ρ a0 2) 3) = 0) (hn_17 : ρ (ρ (ρ a0 2) 3) 4 ≠ ρ (ρ a0 3) 2) (hn_18 : ρ (ρ (ρ a0 2) 3) 4 ≠ ρ (ρ a0 3) 1) (hn_19 : ρ (ρ (ρ a0 2) 3) 4 ≠ ρ (ρ a0 3) 0) (hf_20 : fi D 5 0 H (ρ (ρ (ρ a0 2) 3) 4) = 0) (hn_21 : ρ (ρ (ρ a0 2) 3) 4 ≠ ρ (ρ (ρ a0 3) 3) 4) (hf_22 : fi D 5 1 H (ρ (ρ (ρ a0 2) 3) 4) = 0) (hf_23 : fi D 5 2 H (ρ (ρ (ρ a0 2) 3) 4) = 1) (hf_24 : fi D 5 3 H (ρ (ρ (ρ a0 2) 3) 4) = 0) (hf_25 : fi D 5 4 H (ρ (ρ (ρ a0 2) 3) 4) = 0) (hf_26 : fi D 5 5 H (ρ (ρ (ρ a0 2) 3) 4) = 0) (hf_27 : fl D 5 6 H (ρ (ρ (ρ a0 2) 3) 4) = 0) (hn_28 : ρ (ρ (ρ a0 2) 3) 5 ≠ ρ (ρ a0 3) 2) (hn_29 : ρ (ρ (ρ a0 2) 3) 5 ≠ ρ (ρ a0 3) 1) (hn_30 : ρ (ρ (ρ a0 2) 3) 5 ≠ ρ (ρ a0 3) 0) (hf_31 : fi D 3 0 H (ρ (ρ (ρ a0 2) 3) 5) = 0) (hn_32 : ρ (ρ (ρ a0 2) 3) 5 ≠ ρ (ρ (ρ a0 3) 3) 5) (hf_33 : fi D 3 1 H (ρ (ρ (ρ a0 2) 3) 5) = 1) (hf_34 : fi D 3 2 H (ρ (ρ (ρ a0 2) 3) 5) = 13) (hf_35 : fi D 3 3 H (ρ (ρ (ρ a0 2) 3) 5) = (-4)) (hf_36 : fi D 3 4 H (ρ (ρ (ρ a0 2) 3) 5) = 0) (hf_37 : fl D 3 5 H (ρ (ρ (ρ a0 2) 3) 5) = 0) (hn_38 : ρ (ρ (ρ a0 2) 3) 6 ≠ ρ (ρ a0 3) 2) (hn_39 : ρ (ρ (ρ a0 2) 3) 6 ≠ ρ (ρ a0 3) 1) (hn_40 : ρ (ρ (ρ a0 2) 3) 6 ≠ ρ (ρ a0 3) 0) (hf_41 : fi D 7 0 H (ρ (ρ (ρ a0 2) 3) 6) = 6) (hn_42 : ρ (ρ (ρ a0 2) 3) 6 ≠ ρ (ρ (ρ a0 3) 3) 6) (hf_43 : fi D 7 1 H (ρ (ρ (ρ a0 2) 3) 6) = 0) (hf_44 : fi D 7 2 H (ρ (ρ (ρ a0 2) 3) 6) = 0) (hf_45 : fi D 7 3 H (ρ (ρ (ρ a0 2) 3) 6) = (-4)) (hf_46 : fi D 7 4 H (ρ (ρ (ρ a0 2) 3) 6) = 0) (hf_47 : fi D 7 5 H (ρ (ρ (ρ a0 2) 3) 6) = 0) (hn_48 : ρ (ρ (ρ (ρ a0 3) 3) 4) 7 ≠ ρ (ρ (ρ (ρ a0 3) 3) 5) 6) (hn_49 : ρ (ρ a0 2) 4 ≠ ρ (ρ a0 3) 3) (hf_50 : fi D 2 7 H (ρ (ρ a0 2) 4) = 0) (hn_51 : ρ (ρ a0 2) 4 ≠ ρ (ρ a0 3) 4) (hf_52 : fi D 2 8 H (ρ (ρ a0 2) 4) = 0) (hf_53 : fi D 2 9 H (ρ (ρ a0 2) 4) = 0) (hn_54 : ρ (ρ (ρ a0 2) 4) 4 ≠ ρ (ρ a0 3) 3) (hn_55 : ρ (ρ (ρ a0 2) 4) 4 ≠ ρ (ρ (ρ a0 3) 3) 4) (hn_56 : ρ (ρ (ρ a0 2) 4) 4 ≠ ρ (ρ (ρ (ρ a0 3) 3) 4) 7) (hn_57 : ρ (ρ (ρ a0 2) 4) 4 ≠ ρ (ρ (ρ a0 3) 3) 5) (hn_58 : ρ (ρ (ρ a0 2) 4) 4 ≠ ρ (ρ (ρ (ρ a0 3) 3) 5) 6) (hn_59 : ρ (ρ (ρ a0 2) 4) 4 ≠ ρ (ρ (ρ a0 3) 3) 6) (hn_60 : ρ (ρ (ρ a0 2) 4) 4 ≠ ρ (ρ (ρ (ρ a0 3) 3) 6) 6) (hn_61 : ρ (ρ (ρ a0 2) 4) 4 ≠ ρ (ρ a0 3) 2) (hn_62 : ρ (ρ (ρ a0 2) 4) 4 ≠ ρ (ρ a0 3) 1) (hn_63 : ρ (ρ (ρ a0 2) 4) 4 ≠ ρ (ρ a0 3) 0) (hf_64 : fi D 5 0 H (ρ (ρ (ρ a0 2) 4) 4) = 0) (hn_65 : ρ (ρ (ρ a0 2) 4) 4 ≠ ρ (ρ (ρ a0 3) 4) 4) (hf_66 : fi D 5 1 H (ρ (ρ (ρ a0 2) 4) 4) = 0) (hf_67 : fi D 5 2 H (ρ (ρ (ρ a0 2) 4) 4) = 1) (hf_68 : fi D 5 3 H (ρ (ρ (ρ a0 2) 4) 4) = 0) (hf_69 : fi D 5 4 H (ρ (ρ (ρ a0 2) 4) 4) = 0) (hf_70 : fi D 5 5 H (ρ (ρ (ρ a0 2) 4) 4) = 0) (hf_71 : fl D 5 6 H (ρ (ρ (ρ a0 2) 4) 4) = 0) (hn_72 : ρ (ρ (ρ a0 2) 4) 5 ≠ ρ (ρ a0 3) 3) (hn_73 : ρ (ρ (ρ a0 2) 4) 5 ≠ ρ (ρ (ρ a0 3) 3) 4) (hn_74 : ρ (ρ (ρ a0 2) 4) 5 ≠ ρ (ρ (ρ (ρ a0 3) 3) 4) 7) (hn_75 : ρ (ρ (ρ a0 2) 4) 5 ≠ ρ (ρ (ρ a0 3) 3) 5) (hn_76 : ρ (ρ (ρ a0 2) 4) 5 ≠ ρ (ρ (ρ (ρ a0 3) 3) 5) 6) (hn_77 : ρ (ρ (ρ a0 2) 4) 5 ≠ ρ (ρ (ρ a0 3) 3) 6) (hn_78 : ρ (ρ (ρ a0 2) 4) 5 ≠ ρ (ρ (ρ (ρ a0 3) 3) 6) 6) (hn_79 : ρ (ρ (ρ a0 2) 4) 5 ≠ ρ (ρ a0 3) 2) (hn_80 : ρ (ρ (ρ a0 2) 4) 5 ≠ ρ (ρ a0 3) 1) (hn_81 : ρ (ρ (ρ a0 2) 4) 5 ≠ ρ (ρ a0 3) 0) (hf_82 : fi D 3 0 H (ρ (ρ (ρ a0 2) 4) 5) = 0) (hn_83 : ρ (ρ (ρ a0 2) 4) 5 ≠ ρ (ρ (ρ a0 3) 4) 5) (hf_84 : fi D 3 1 H (ρ (ρ (ρ a0 2) 4) 5) = 1) (hf_85 : fi D 3 2 H (ρ (ρ (ρ a0 2) 4) 5) = 13) (hf_86 : fi D 3 3 H (ρ (ρ (ρ a0 2) 4) 5) = (-4)) (hf_87 : fi D 3 4 H (ρ (ρ (ρ a0 2) 4) 5) = 0) (hf_88 : fl D 3 5 H (ρ (ρ (ρ a0 2) 4) 5) = 0) (hn_89 : ρ (ρ (ρ a0 2) 4) 6 ≠ ρ (ρ a0 3) 3) (hn_90 : ρ (ρ (ρ a0 2) 4) 6 ≠ ρ (ρ (ρ a0 3) 3) 4) (hn_91 : ρ (ρ (ρ a0 2) 4) 6 ≠ ρ (ρ (ρ (ρ a0 3) 3) 4) 7) (hn_92 : ρ (ρ (ρ a0 2) 4) 6 ≠ ρ (ρ (ρ a0 3) 3) 5) (hn_93 : ρ (ρ (ρ a0 2) 4) 6 ≠ ρ (ρ (ρ (ρ a0 3) 3) 5) 6) (hn_94 : ρ (ρ (ρ a0 2) 4) 6 ≠ ρ (ρ (ρ a0 3) 3) 6) (hn_95 : ρ (ρ (ρ a0 2) 4) 6 ≠ ρ (ρ (ρ (ρ a0 3) 3) 6) 6) (hn_96 : ρ (ρ (ρ a0 2) 4) 6 ≠ ρ (ρ a0 3) 2) (hn_97 : ρ (ρ (ρ a0 2) 4) 6 ≠ ρ (ρ a0 3) 1) (hn_98 : ρ (ρ (ρ a0 2) 4) 6 ≠ ρ (ρ a0 3) 0) (hf_99 : fi D 7 0 H (ρ (ρ (ρ a0 2) 4) 6) = 6) (hn_100 : ρ (ρ (ρ a0 2) 4) 6 ≠ ρ (ρ (ρ a0 3) 4) 6) (hf_101 : fi D 7 1 H (ρ (ρ (ρ a0 2) 4) 6) = 0) (hf_102 : fi D 7 2 H (ρ (ρ (ρ a0 2) 4) 6) = 0) (hf_103 : fi D 7 3 H (ρ (ρ (ρ a0 2) 4) 6) = (-4)) (hf_104 : fi D 7 4 H (ρ (ρ (ρ a0 2) 4) 6) = 0) (hf_105 : fi D 7 5 H (ρ (ρ (ρ a0 2) 4) 6) = 0) (hn_106 : ρ (ρ (ρ (ρ a0 3) 4) 4) 7 ≠ ρ (ρ (ρ (ρ a0 3) 4) 5) 6) (hf_107 : fi D 4 7 H (ρ a0 2) = (-4)) (hn_108 : ρ a0 2 ≠ ρ a0 3) (hf_109 : fi D 4 8 H (ρ a0 2) = (-4)) (hf_110 : fi D 4 9 H (ρ a0 2) = 0) (hn_111 : ρ (ρ (ρ a0 3) 3) 6 ≠ ρ (ρ (ρ a0 3) 4) 6) (hn_112 : ρ (ρ (ρ a0 3) 3) 5 ≠ ρ (ρ (ρ a0 3) 4) 5) (hn_113 : ρ (ρ (ρ a0 3) 3) 4 ≠ ρ (ρ (ρ a0 3) 4) 4) (hn_114 : ρ (ρ a0 3) 3 ≠ ρ (ρ a0 3) 4) (hn_115 : ρ (ρ (ρ (ρ a0 3) 3) 4) 7 ≠ ρ (ρ (ρ (ρ a0 3) 4) 4) 7) (hn_116 : ρ (ρ (ρ (ρ a0 3) 3) 4) 7 ≠ ρ (ρ (ρ (ρ a0 3) 4) 5) 6) (hn_117 : ρ (ρ (ρ (ρ a0 3) 3) 5) 6 ≠ ρ (ρ (ρ (ρ a0 3) 4) 4) 7) (hn_118 : ρ (ρ (ρ (ρ a0 3) 3) 5) 6 ≠ ρ (ρ (ρ (ρ a0 3) 4) 5) 6) (hn_119 : ρ (ρ (ρ (ρ a0 3) 3) 6) 6 ≠ ρ (ρ (ρ (ρ a0 3) 4) 6) 6) : MI l D cI cS τ ρ yX11_calm cX11_calm 5 (some .int) 4 103 H [.ref a0, .int 0] (fun (r : Int32) (u : Heap) => 0 = r ∧ fi D 4 9 u (ρ a0 3) = 0 ∧ fi D 4 8 u (ρ a0 3) = (-4) ∧ fi D 4 7 u (ρ a0 3) = (-4) ∧ fi D 2 7 u (ρ (ρ a0 3) 4) = 0 ∧ fi D 2 8 u (ρ (ρ a0 3) 4) = 0 ∧ fi D 2 9 u (ρ (ρ a0 3) 4) = 0 ∧ fl D 5 6 u (ρ (ρ (ρ a0 3) 4) 4) = 0 ∧ fi D 5 5 u (ρ (ρ (ρ a0 3) 4) 4) = 0 ∧ fi D 5 4 u (ρ (ρ (ρ a0 3) 4) 4) = 0 ∧ fi D 5 3 u (ρ (ρ (ρ a0 3) 4) 4) = 0 ∧ fi D 5 2 u (ρ (ρ (ρ a0 3) 4) 4) = 1 ∧ fi D 5 1 u (ρ (ρ (ρ a0 3) 4) 4) = 0 ∧ fi D 5 0 u (ρ (ρ (ρ a0 3) 4) 4) = 0 ∧ fl D 3 5 u (ρ (ρ (ρ a0 3) 4) 5) = 0 ∧ fi D 3 4 u (ρ (ρ (ρ a0 3) 4) 5) = 0 ∧ fi D 3 3 u (ρ (ρ (ρ a0 3) 4) 5) = (-4) ∧ fi D 3 2 u (ρ (ρ (ρ a0 3) 4) 5) = 13 ∧ fi D 3 1 u (ρ (ρ (ρ a0 3) 4) 5) = 1 ∧ fi D 3 0 u (ρ (ρ (ρ a0 3) 4) 5) = 0 ∧ fi D 7 5 u (ρ (ρ (ρ a0 3) 4) 6) = 0 ∧ fi D 7 4 u (ρ (ρ (ρ a0 3) 4) 6) = 0 ∧ fi D 7 3 u (ρ (ρ (ρ a0 3) 4) 6) = (-4) ∧ fi D 7 2 u (ρ (ρ (ρ a0 3) 4) 6) = 0 ∧ fi D 7 1 u (ρ (ρ (ρ a0 3) 4) 6) = 0 ∧ fi D 7 0 u (ρ (ρ (ρ a0 3) 4) 6) = 6 ∧ fi D 2 7 u (ρ (ρ a0 3) 3) = 0 ∧ fi D 2 8 u (ρ (ρ a0 3) 3) = 0 ∧ fi D 2 9 u (ρ (ρ a0 3) 3) = 0 ∧ fl D 5 6 u (ρ (ρ (ρ a0 3) 3) 4) = 0 ∧ fi D 5 5 u (ρ (ρ (ρ a0 3) 3) 4) = 0 ∧ fi D 5 4 u (ρ (ρ (ρ a0 3) 3) 4) = 0 ∧ fi D 5 3 u (ρ (ρ (ρ a0 3) 3) 4) = 0 ∧ fi D 5 2 u (ρ (ρ (ρ a0 3) 3) 4) = 1 ∧ fi D 5 1 u (ρ (ρ (ρ a0 3) 3) 4) = 0 ∧ fi D 5 0 u (ρ (ρ (ρ a0 3) 3) 4) = 0 ∧ fl D 3 5 u (ρ (ρ (ρ a0 3) 3) 5) = 0 ∧ fi D 3 4 u (ρ (ρ (ρ a0 3) 3) 5) = 0 ∧ fi D 3 3 u (ρ (ρ (ρ a0 3) 3) 5) = (-4) ∧ fi D 3 2 u (ρ (ρ (ρ a0 3) 3) 5) = 13 ∧ fi D 3 1 u (ρ (ρ (ρ a0 3) 3) 5) = 1 ∧ fi D 3 0 u (ρ (ρ (ρ a0 3) 3) 5) = 0 ∧ fi D 7 5 u (ρ (ρ (ρ a0 3) 3) 6) = 0 ∧ fi D 7 4 u (ρ (ρ (ρ a0 3) 3) 6) = 0 ∧ fi D 7 3 u (ρ (ρ (ρ a0 3) 3) 6) = (-4) ∧ fi D 7 2 u (ρ (ρ (ρ a0 3) 3) 6) = 0 ∧ fi D 7 1 u (ρ (ρ (ρ a0 3) 3) 6) = 0 ∧ fi D 7 0 u (ρ (ρ (ρ a0 3) 3) 6) = 6 ∧ fi D 0 0 u (ρ (ρ a0 3) 2) = 0 ∧ fi D 10 2 u (ρ (ρ a0 3) 1) = 0 ∧ fi D 10 3 u (ρ (ρ a0 3) 1) = 0 ∧ fi D 10 4 u (ρ (ρ a0 3) 1) = 0 ∧ fi D 10 5 u (ρ (ρ a0 3) 1) = 0 ∧ fi D 1 0 u (ρ (ρ a0 3) 0) = 4 ∧ fi D 1 1 u (ρ (ρ a0 3) 0) = 12 ∧ fi D 1 2 u (ρ (ρ a0 3) 0) = 250 ∧ fi D 1 3 u (ρ (ρ a0 3) 0) = 100 ∧ fi D 1 4 u (ρ (ρ a0 3) 0) = 5) (fun q => q = ρ (ρ a0 3) 0 ∨ q = ρ (ρ a0 3) 1 ∨ q = ρ (ρ a0 3) 2 ∨ q = ρ (ρ a0 3) 3 ∨ q = ρ (ρ (ρ a0 3) 3) 4 ∨ q = ρ (ρ (ρ (ρ a0 3) 3) 4) 7 ∨ q = ρ (ρ (ρ a0 3) 3) 5 ∨ q = ρ (ρ (ρ (ρ a0 3) 3) 5) 6 ∨ q = ρ (ρ (ρ a0 3) 3) 6 ∨ q = ρ (ρ (ρ (ρ a0 3) 3) 6) 6 ∨ q = ρ (ρ a0 3) 4 ∨ q = ρ (ρ (ρ a0 3) 4) 4 ∨ q = ρ (ρ (ρ (ρ a0 3) 4) 4) 7 ∨ q = ρ (ρ (ρ a0 3) 4) 5 ∨ q = ρ (ρ (ρ (ρ a0 3) 4) 5) 6 ∨ q = ρ (ρ (ρ a0 3) 4) 6 ∨ q = ρ (ρ (ρ (ρ a0 3) 4) 6) 6 ∨ q = ρ a0 3) := by
  refine MI.of (by decide) (Nat.le_of_ble_eq_true rfl) ?_
  intro p e s m args below meth c E hml hr hlk hs ls hl
  have hx := E.1
  have hb := E.2.1
  have hown := E.2.2.1
  have hts := E.2.2.2.1
  have hS : SS (fun q => q = ρ (ρ a0 3) 0 ∨ q = ρ (ρ a0 3) 1 ∨ q = ρ (ρ a0 3) 2 ∨ q = ρ (ρ a0 3) 3 ∨ q = ρ (ρ (ρ a0 3) 3) 4 ∨ q = ρ (ρ (ρ (ρ a0 3) 3) 4) 7 ∨ q = ρ (ρ (ρ a0 3) 3) 5 ∨ q = ρ (ρ (ρ (ρ a0 3) 3) 5) 6 ∨ q = ρ (ρ (ρ a0 3) 3) 6 ∨ q = ρ (ρ (ρ (ρ a0 3) 3) 6) 6 ∨ q = ρ (ρ a0 3) 4 ∨ q = ρ (ρ (ρ a0 3) 4) 4 ∨ q = ρ (ρ (ρ (ρ a0 3) 4) 4) 7 ∨ q = ρ (ρ (ρ a0 3) 4) 5 ∨ q = ρ (ρ (ρ (ρ a0 3) 4) 5) 6 ∨ q = ρ (ρ (ρ a0 3) 4) 6 ∨ q = ρ (ρ (ρ (ρ a0 3) 4) 6) 6 ∨ q = ρ a0 3) H H [] := SS.rf
  have hl : lv_has ls 5 [(0, .ref a0), (1, .int 0)] := hl
  refine lv_iload_n hx hb dX11_calm_0 rfl (lv_at hl 1 rfl) ?_
  refine lv_if_lt (tgt := 9) hx hb dX11_calm_1 (by decide) (fun c_1 => absurd c_1 (by decide)) (fun c_1 => ?_)
  refine lv_iload_n hx hb dX11_calm_4 rfl (lv_at hl 1 rfl) ?_
  refine lv_iconst (v := 5) hx hb dX11_calm_5 (by decide) ?_
  refine lv_icmp_le (tgt := 11) hx hb dX11_calm_6 (by decide) (fun c_2 => ?_) (fun c_2 => absurd (by decide) c_2)
  refine lv_aload_n hx hb dX11_calm_11 rfl (lv_at hl 0 rfl) ?_
  refine gf_X11_30 E hT hW ha0 dX11_calm_12 (fun h_3 => ?_)
  refine lv_aload_n hx hb dX11_calm_15 rfl (lv_at hl 0 rfl) ?_
  refine gf_X11_26 E hT hW ha0 dX11_calm_16 (fun h_4 => ?_)
  refine th_Vv (As := [.ref (ρ a0 2)]) (rest := []) E hml hl.1 (c_X4_copyFrom l D cI cS τ ρ hW H hT (ρ a0 3) (ρ a0 2) h_3 h_4 hf_1 hn_2 hf_3 hf_4 hf_5 hf_6 hf_7 hn_8 hf_9 hf_10 hf_11 hf_12 hf_13 hn_14 hf_15 hf_16 hn_17 hn_18 hn_19 hf_20 hn_21 hf_22 hf_23 hf_24 hf_25 hf_26 hf_27 hn_28 hn_29 hn_30 hf_31 hn_32 hf_33 hf_34 hf_35 hf_36 hf_37 hn_38 hn_39 hn_40 hf_41 hn_42 hf_43 hf_44 hf_45 hf_46 hf_47 hn_48 hn_49 hf_50 hn_51 hf_52 hf_53 hn_54 hn_55 hn_56 hn_57 hn_58 hn_59 hn_60 hn_61 hn_62 hn_63 hf_64 hn_65 hf_66 hf_67 hf_68 hf_69 hf_70 hf_71 hn_72 hn_73 hn_74 hn_75 hn_76 hn_77 hn_78 hn_79 hn_80 hn_81 hf_82 hn_83 hf_84 hf_85 hf_86 hf_87 hf_88 hn_89 hn_90 hn_91 hn_92 hn_93 hn_94 hn_95 hn_96 hn_97 hn_98 hf_99 hn_100 hf_101 hf_102 hf_103 hf_104 hf_105 hn_106 hf_107 hn_108 hf_109 hf_110 hn_111 hn_112 hn_113 hn_114 hn_115 hn_116 hn_117 hn_118 hn_119) lk_X11_189 yd_X4_copyFrom hT h_3 rfl (by decide) hS (fun q => (fun h => h.elim (fun h => (Or.inl h)) (fun h => h.elim (fun h => (Or.inr (Or.inl h))) (fun h => h.elim (fun h => (Or.inr (Or.inr (Or.inl h)))) (fun h => h.elim (fun h => (Or.inr (Or.inr (Or.inr (Or.inl h))))) (fun h => h.elim (fun h => (Or.inr (Or.inr (Or.inr (Or.inr (Or.inl h)))))) (fun h => h.elim (fun h => (Or.inr (Or.inr (Or.inr (Or.inr (Or.inr (Or.inl h))))))) (fun h => h.elim (fun h => (Or.inr (Or.inr (Or.inr (Or.inr (Or.inr (Or.inr (Or.inl h)))))))) (fun h => h.elim (fun h => (Or.inr (Or.inr (Or.inr (Or.inr (Or.inr (Or.inr (Or.inr (Or.inl h))))))))) (fun h => h.elim (fun h => (Or.inr (Or.inr (Or.inr (Or.inr (Or.inr (Or.inr (Or.inr (Or.inr (Or.inl h)))))))))) (fun h => h.elim (fun h => (Or.inr (Or.inr (Or.inr (Or.inr (Or.inr (Or.inr (Or.inr (Or.inr (Or.inr (Or.inl h))))))))))) (fun h => h.elim (fun h => (Or.inr (Or.inr (Or.inr (Or.inr (Or.inr (Or.inr (Or.inr (Or.inr (Or.inr (Or.inr (Or.inl h)))))))))))) (fun h => h.elim (fun h => (Or.inr (Or.inr (Or.inr (Or.inr (Or.inr (Or.inr (Or.inr (Or.inr (Or.inr (Or.inr (Or.inr (Or.inl h))))))))))))) (fun h => h.elim (fun h => (Or.inr (Or.inr (Or.inr (Or.inr (Or.inr (Or.inr (Or.inr (Or.inr (Or.inr (Or.inr (Or.inr (Or.inr (Or.inl h)))))))))))))) (fun h => h.elim (fun h => (Or.inr (Or.inr (Or.inr (Or.inr (Or.inr (Or.inr (Or.inr (Or.inr (Or.inr (Or.inr (Or.inr (Or.inr (Or.inr (Or.inl h))))))))))))))) (fun h => h.elim (fun h => (Or.inr (Or.inr (Or.inr (Or.inr (Or.inr (Or.inr (Or.inr (Or.inr (Or.inr (Or.inr (Or.inr (Or.inr (Or.inr (Or.inr (Or.inl h)))))))))))))))) (fun h => h.elim (fun h => (Or.inr (Or.inr (Or.inr (Or.inr (Or.inr (Or.inr (Or.inr (Or.inr (Or.inr (Or.inr (Or.inr (Or.inr (Or.inr (Or.inr (Or.inr (Or.inl h))))))))))))))))) (fun h => h.elim (fun h => (Or.inr (Or.inr (Or.inr (Or.inr (Or.inr (Or.inr (Or.inr (Or.inr (Or.inr (Or.inr (Or.inr (Or.inr (Or.inr (Or.inr (Or.inr (Or.inr (Or.inl h)))))))))))))))))) (fun h => (Or.inr (Or.inr (Or.inr (Or.inr (Or.inr (Or.inr (Or.inr (Or.inr (Or.inr (Or.inr (Or.inr (Or.inr (Or.inr (Or.inr (Or.inr (Or.inr (Or.inr h)))))))))))))))))))))))))))))))))))) ⟨by decide, by decide⟩ (Nat.le_of_ble_eq_true rfl) ⟨by decide, by decide⟩ rfl dX11_calm_19 (fun H_5 locs_5 p_5 hT_5 hk_5 hS_5 => ?_)
  have p_5 : fi D 1 4 H_5 (ρ (ρ a0 3) 0) = 5 ∧ fi D 1 3 H_5 (ρ (ρ a0 3) 0) = 100 ∧ fi D 1 2 H_5 (ρ (ρ a0 3) 0) = 250 ∧ fi D 1 1 H_5 (ρ (ρ a0 3) 0) = 12 ∧ fi D 1 0 H_5 (ρ (ρ a0 3) 0) = 4 ∧ fi D 10 5 H_5 (ρ (ρ a0 3) 1) = 0 ∧ fi D 10 4 H_5 (ρ (ρ a0 3) 1) = 0 ∧ fi D 10 3 H_5 (ρ (ρ a0 3) 1) = 0 ∧ fi D 10 2 H_5 (ρ (ρ a0 3) 1) = 0 ∧ fi D 0 0 H_5 (ρ (ρ a0 3) 2) = 0 ∧ fi D 7 0 H_5 (ρ (ρ (ρ a0 3) 3) 6) = 6 ∧ fi D 7 1 H_5 (ρ (ρ (ρ a0 3) 3) 6) = 0 ∧ fi D 7 2 H_5 (ρ (ρ (ρ a0 3) 3) 6) = 0 ∧ fi D 7 3 H_5 (ρ (ρ (ρ a0 3) 3) 6) = (-4) ∧ fi D 7 4 H_5 (ρ (ρ (ρ a0 3) 3) 6) = 0 ∧ fi D 7 5 H_5 (ρ (ρ (ρ a0 3) 3) 6) = 0 ∧ fi D 3 0 H_5 (ρ (ρ (ρ a0 3) 3) 5) = 0 ∧ fi D 3 1 H_5 (ρ (ρ (ρ a0 3) 3) 5) = 1 ∧ fi D 3 2 H_5 (ρ (ρ (ρ a0 3) 3) 5) = 13 ∧ fi D 3 3 H_5 (ρ (ρ (ρ a0 3) 3) 5) = (-4) ∧ fi D 3 4 H_5 (ρ (ρ (ρ a0 3) 3) 5) = 0 ∧ fl D 3 5 H_5 (ρ (ρ (ρ a0 3) 3) 5) = 0 ∧ fi D 5 0 H_5 (ρ (ρ (ρ a0 3) 3) 4) = 0 ∧ fi D 5 1 H_5 (ρ (ρ (ρ a0 3) 3) 4) = 0 ∧ fi D 5 2 H_5 (ρ (ρ (ρ a0 3) 3) 4) = 1 ∧ fi D 5 3 H_5 (ρ (ρ (ρ a0 3) 3) 4) = 0 ∧ fi D 5 4 H_5 (ρ (ρ (ρ a0 3) 3) 4) = 0 ∧ fi D 5 5 H_5 (ρ (ρ (ρ a0 3) 3) 4) = 0 ∧ fl D 5 6 H_5 (ρ (ρ (ρ a0 3) 3) 4) = 0 ∧ fi D 2 9 H_5 (ρ (ρ a0 3) 3) = 0 ∧ fi D 2 8 H_5 (ρ (ρ a0 3) 3) = 0 ∧ fi D 2 7 H_5 (ρ (ρ a0 3) 3) = 0 ∧ fi D 7 0 H_5 (ρ (ρ (ρ a0 3) 4) 6) = 6 ∧ fi D 7 1 H_5 (ρ (ρ (ρ a0 3) 4) 6) = 0 ∧ fi D 7 2 H_5 (ρ (ρ (ρ a0 3) 4) 6) = 0 ∧ fi D 7 3 H_5 (ρ (ρ (ρ a0 3) 4) 6) = (-4) ∧ fi D 7 4 H_5 (ρ (ρ (ρ a0 3) 4) 6) = 0 ∧ fi D 7 5 H_5 (ρ (ρ (ρ a0 3) 4) 6) = 0 ∧ fi D 3 0 H_5 (ρ (ρ (ρ a0 3) 4) 5) = 0 ∧ fi D 3 1 H_5 (ρ (ρ (ρ a0 3) 4) 5) = 1 ∧ fi D 3 2 H_5 (ρ (ρ (ρ a0 3) 4) 5) = 13 ∧ fi D 3 3 H_5 (ρ (ρ (ρ a0 3) 4) 5) = (-4) ∧ fi D 3 4 H_5 (ρ (ρ (ρ a0 3) 4) 5) = 0 ∧ fl D 3 5 H_5 (ρ (ρ (ρ a0 3) 4) 5) = 0 ∧ fi D 5 0 H_5 (ρ (ρ (ρ a0 3) 4) 4) = 0 ∧ fi D 5 1 H_5 (ρ (ρ (ρ a0 3) 4) 4) = 0 ∧ fi D 5 2 H_5 (ρ (ρ (ρ a0 3) 4) 4) = 1 ∧ fi D 5 3 H_5 (ρ (ρ (ρ a0 3) 4) 4) = 0 ∧ fi D 5 4 H_5 (ρ (ρ (ρ a0 3) 4) 4) = 0 ∧ fi D 5 5 H_5 (ρ (ρ (ρ a0 3) 4) 4) = 0 ∧ fl D 5 6 H_5 (ρ (ρ (ρ a0 3) 4) 4) = 0 ∧ fi D 2 9 H_5 (ρ (ρ a0 3) 4) = 0 ∧ fi D 2 8 H_5 (ρ (ρ a0 3) 4) = 0 ∧ fi D 2 7 H_5 (ρ (ρ a0 3) 4) = 0 ∧ fi D 4 7 H_5 (ρ a0 3) = (-4) ∧ fi D 4 8 H_5 (ρ a0 3) = (-4) ∧ fi D 4 9 H_5 (ρ a0 3) = 0 := p_5
  obtain ⟨p_5_0, p_5_1, p_5_2, p_5_3, p_5_4, p_5_5, p_5_6, p_5_7, p_5_8, p_5_9, p_5_10, p_5_11, p_5_12, p_5_13, p_5_14, p_5_15, p_5_16, p_5_17, p_5_18, p_5_19, p_5_20, p_5_21, p_5_22, p_5_23, p_5_24, p_5_25, p_5_26, p_5_27, p_5_28, p_5_29, p_5_30, p_5_31, p_5_32, p_5_33, p_5_34, p_5_35, p_5_36, p_5_37, p_5_38, p_5_39, p_5_40, p_5_41, p_5_42, p_5_43, p_5_44, p_5_45, p_5_46, p_5_47, p_5_48, p_5_49, p_5_50, p_5_51, p_5_52, p_5_53, p_5_54, p_5_55, p_5_56⟩ := p_5
  refine lv_iconst (v := 0) hx hb dX11_calm_22 (by decide) ?_
  refine lv_istore_n (lv' := [(2, .int 0), (0, .ref a0), (1, .int 0)]) hx hb dX11_calm_23 rfl hl (by decide) rfl (fun ls hl => ?_)
  refine lv_iload_n hx hb dX11_calm_24 rfl (lv_at hl 0 rfl) ?_
  refine lv_sipush (v := 300) hx hb dX11_calm_25 (by decide) ?_
  refine lv_icmp_ge (tgt := 89) hx hb dX11_calm_28 (by decide) (fun c_6 => absurd c_6 (by decide)) (fun c_6 => ?_)
  refine lv_aload_n hx hb dX11_calm_31 rfl (lv_at hl 1 rfl) ?_
  refine gf_X11_30 E hT_5 hW ha0 dX11_calm_32 (fun h_7 => ?_)
  refine th_Vi (As := []) (rest := []) E hml hl.1 (c_X4_isBusy l D cI cS τ ρ hW H_5 hT_5 (ρ a0 3) h_3 p_5_8 p_5_30 p_5_31 p_5_52 p_5_53) lk_X11_193 yd_X4_isBusy hT_5 h_3 rfl (by decide) hS_5 (fun _ h => h.elim) ⟨by decide, by decide⟩ (Nat.le_of_ble_eq_true rfl) ⟨by decide, by decide⟩ rfl dX11_calm_35 (fun r_8 H_8 locs_8 p_8 hT_8 hk_8 hS_8 => ?_)
  have p_8 : H_5 = H_8 ∧ 0 = r_8 := p_8
  obtain ⟨rfl, rfl⟩ := p_8
  refine lv_if_eq (tgt := 89) hx hb dX11_calm_38 (by decide) (fun c_9 => ?_) (fun c_9 => absurd (by decide) c_9)
  refine lv_iload_n hx hb dX11_calm_89 rfl (lv_at hl 2 rfl) ?_
  refine lv_tableIn (tgt := 124) hx hb dX11_calm_90 (by decide) (by decide) rfl (by decide) ?_
  refine lv_iload_n hx hb dX11_calm_124 rfl (lv_at hl 0 rfl) ?_
  exact th_iret E hr hlk hs hT_8 hS_8 ⟨rfl, p_5_56, p_5_55, p_5_54, p_5_53, p_5_52, p_5_51, p_5_50, p_5_49, p_5_48, p_5_47, p_5_46, p_5_45, p_5_44, p_5_43, p_5_42, p_5_41, p_5_40, p_5_39, p_5_38, p_5_37, p_5_36, p_5_35, p_5_34, p_5_33, p_5_32, p_5_31, p_5_30, p_5_29, p_5_28, p_5_27, p_5_26, p_5_25, p_5_24, p_5_23, p_5_22, p_5_21, p_5_20, p_5_19, p_5_18, p_5_17, p_5_16, p_5_15, p_5_14, p_5_13, p_5_12, p_5_11, p_5_10, p_5_9, p_5_8, p_5_7, p_5_6, p_5_5, p_5_4, p_5_3, p_5_2, p_5_1, p_5_0⟩ dX11_calm_125
set_option maxHeartbeats 4000000 in
set_option maxRecDepth 100000 in
/-- StreamEnds.calm -/
theorem c_X11_calm_v3 (l : Launch) (D : va_G) (cI cS : ClassId) (τ : Nat → Option Nat) (ρ : Nat → Nat → Nat) (hW : WF τ ρ) (H : Heap) (hT : TH D cI cS τ ρ H) (a0 : Nat) (ha0 : τ a0 = some 11) (hf_1 : fi D 1 0 H (ρ (ρ a0 2) 0) = 4) (hn_2 : ρ (ρ a0 2) 0 ≠ ρ (ρ a0 3) 0) (hf_3 : fi D 1 1 H (ρ (ρ a0 2) 0) = 12) (hf_4 : fi D 1 2 H (ρ (ρ a0 2) 0) = 250) (hf_5 : fi D 1 3 H (ρ (ρ a0 2) 0) = 100) (hf_6 : fi D 1 4 H (ρ (ρ a0 2) 0) = 5) (hf_7 : fi D 10 2 H (ρ (ρ a0 2) 1) = 0) (hn_8 : ρ (ρ a0 2) 1 ≠ ρ (ρ a0 3) 1) (hf_9 : fi D 10 3 H (ρ (ρ a0 2) 1) = 0) (hf_10 : fi D 10 4 H (ρ (ρ a0 2) 1) = 0) (hf_11 : fi D 10 5 H (ρ (ρ a0 2) 1) = 0) (hf_12 : fi D 0 0 H (ρ (ρ a0 2) 2) = 0) (hf_13 : fi D 2 7 H (ρ (ρ a0 2) 3) = 0) (hn_14 : ρ (ρ a0 2) 3 ≠ ρ (ρ a0 3) 3) (hf_15 : fi D 2 8 H (ρ (ρ a0 2) 3) = 0) (hf_16 : fi D 2 9 H (ρ (ρ a0 2) 3) = 0) (hn_17 : ρ (ρ (ρ a0 2) 3) 4 ≠ ρ (ρ a0 3) 2) (hn_18 : ρ (ρ (ρ a0 2) 3) 4 ≠ ρ (ρ a0 3) 1) (hn_19 : ρ (ρ (ρ a0 2) 3) 4 ≠ ρ (ρ a0 3) 0) (hf_20 : fi D 5 0 H (ρ (ρ (ρ a0 2) 3) 4) = 0) (hn_21 : ρ (ρ (ρ a0 2) 3) 4 ≠ ρ (ρ (ρ a0 3) 3) 4) (hf_22 : fi D 5 1 H (ρ (ρ (ρ a0 2) 3) 4) = 0) (hf_23 : fi D 5 2 H (ρ (ρ (ρ a0 2) 3) 4) = 1) (hf_24 : fi D 5 3 H (ρ (ρ (ρ a0 2) 3) 4) = 0) (hf_25 : fi D 5 4 H (ρ (ρ (ρ a0 2) 3) 4) = 0) (hf_26 : fi D 5 5 H (ρ (ρ (ρ a0 2) 3) 4) = 0) (hf_27 : fl D 5 6 H (ρ (ρ (ρ a0 2) 3) 4) = 0) (hn_28 : ρ (ρ (ρ a0 2) 3) 5 ≠ ρ (ρ a0 3) 2) (hn_29 : ρ (ρ (ρ a0 2) 3) 5 ≠ ρ (ρ a0 3) 1) (hn_30 : ρ (ρ (ρ a0 2) 3) 5 ≠ ρ (ρ a0 3) 0) (hf_31 : fi D 3 0 H (ρ (ρ (ρ a0 2) 3) 5) = 0) (hn_32 : ρ (ρ (ρ a0 2) 3) 5 ≠ ρ (ρ (ρ a0 3) 3) 5) (hf_33 : fi D 3 1 H (ρ (ρ (ρ a0 2) 3) 5) = 1) (hf_34 : fi D 3 2 H (ρ (ρ (ρ a0 2) 3) 5) = 13) (hf_35 : fi D 3 3 H (ρ (ρ (ρ a0 2) 3) 5) = (-4)) (hf_36 : fi D 3 4 H (ρ (ρ (ρ a0 2) 3) 5) = 0) (hf_37 : fl D 3 5 H (ρ (ρ (ρ a0 2) 3) 5) = 0) (hn_38 : ρ (ρ (ρ a0 2) 3) 6 ≠ ρ (ρ a0 3) 2) (hn_39 : ρ (ρ (ρ a0 2) 3) 6 ≠ ρ (ρ a0 3) 1) (hn_40 : ρ (ρ (ρ a0 2) 3) 6 ≠ ρ (ρ a0 3) 0) (hf_41 : fi D 7 0 H (ρ (ρ (ρ a0 2) 3) 6) = 6) (hn_42 : ρ (ρ (ρ a0 2) 3) 6 ≠ ρ (ρ (ρ a0 3) 3) 6) (hf_43 : fi D 7 1 H (ρ (ρ (ρ a0 2) 3) 6) = 0) (hf_44 : fi D 7 2 H (ρ (ρ (ρ a0 2) 3) 6) = 0) (hf_45 : fi D 7 3 H (ρ (ρ (ρ a0 2) 3) 6) = (-4)) (hf_46 : fi D 7 4 H (ρ (ρ (ρ a0 2) 3) 6) = 0) (hf_47 : fi D 7 5 H (ρ (ρ (ρ a0 2) 3) 6) = 0) (hn_48 : ρ (ρ (ρ (ρ a0 3) 3) 4) 7 ≠ ρ (ρ (ρ (ρ a0 3) 3) 5) 6) (hn_49 : ρ (ρ a0 2) 4 ≠ ρ (ρ a0 3) 3) (hf_50 : fi D 2 7 H (ρ (ρ a0 2) 4) = 0) (hn_51 : ρ (ρ a0 2) 4 ≠ ρ (ρ a0 3) 4) (hf_52 : fi D 2 8 H (ρ (ρ a0 2) 4) = 0) (hf_53 : fi D 2 9 H (ρ (ρ a0 2) 4) = 0) (hn_54 : ρ (ρ (ρ a0 2) 4) 4 ≠ ρ (ρ a0 3) 3) (hn_55 : ρ (ρ (ρ a0 2) 4) 4 ≠ ρ (ρ (ρ a0 3) 3) 4) (hn_56 : ρ (ρ (ρ a0 2) 4) 4 ≠ ρ (ρ (ρ (ρ a0 3) 3) 4) 7) (hn_57 : ρ (ρ (ρ a0 2) 4) 4 ≠ ρ (ρ (ρ a0 3) 3) 5) (hn_58 : ρ (ρ (ρ a0 2) 4) 4 ≠ ρ (ρ (ρ (ρ a0 3) 3) 5) 6) (hn_59 : ρ (ρ (ρ a0 2) 4) 4 ≠ ρ (ρ (ρ a0 3) 3) 6) (hn_60 : ρ (ρ (ρ a0 2) 4) 4 ≠ ρ (ρ (ρ (ρ a0 3) 3) 6) 6) (hn_61 : ρ (ρ (ρ a0 2) 4) 4 ≠ ρ (ρ a0 3) 2) (hn_62 : ρ (ρ (ρ a0 2) 4) 4 ≠ ρ (ρ a0 3) 1) (hn_63 : ρ (ρ (ρ a0 2) 4) 4 ≠ ρ (ρ a0 3) 0) (hf_64 : fi D 5 0 H (ρ (ρ (ρ a0 2) 4) 4) = 0) (hn_65 : ρ (ρ (ρ a0 2) 4) 4 ≠ ρ (ρ (ρ a0 3) 4) 4) (hf_66 : fi D 5 1 H (ρ (ρ (ρ a0 2) 4) 4) = 0) (hf_67 : fi D 5 2 H (ρ (ρ (ρ a0 2) 4) 4) = 1) (hf_68 : fi D 5 3 H (ρ (ρ (ρ a0 2) 4) 4) = 0) (hf_69 : fi D 5 4 H (ρ (ρ (ρ a0 2) 4) 4) = 0) (hf_70 : fi D 5 5 H (ρ (ρ (ρ a0 2) 4) 4) = 0) (hf_71 : fl D 5 6 H (ρ (ρ (ρ a0 2) 4) 4) = 0) (hn_72 : ρ (ρ (ρ a0 2) 4) 5 ≠ ρ (ρ a0 3) 3) (hn_73 : ρ (ρ (ρ a0 2) 4) 5 ≠ ρ (ρ (ρ a0 3) 3) 4) (hn_74 : ρ (ρ (ρ a0 2) 4) 5 ≠ ρ (ρ (ρ (ρ a0 3) 3) 4) 7) (hn_75 : ρ (ρ (ρ a0 2) 4) 5 ≠ ρ (ρ (ρ a0 3) 3) 5) (hn_76 : ρ (ρ (ρ a0 2) 4) 5 ≠ ρ (ρ (ρ (ρ a0 3) 3) 5) 6) (hn_77 : ρ (ρ (ρ a0 2) 4) 5 ≠ ρ (ρ (ρ a0 3) 3) 6) (hn_78 : ρ (ρ (ρ a0 2) 4) 5 ≠ ρ (ρ (ρ (ρ a0 3) 3) 6) 6) (hn_79 : ρ (ρ (ρ a0 2) 4) 5 ≠ ρ (ρ a0 3) 2) (hn_80 : ρ (ρ (ρ a0 2) 4) 5 ≠ ρ (ρ a0 3) 1) (hn_81 : ρ (ρ (ρ a0 2) 4) 5 ≠ ρ (ρ a0 3) 0) (hf_82 : fi D 3 0 H (ρ (ρ (ρ a0 2) 4) 5) = 0) (hn_83 : ρ (ρ (ρ a0 2) 4) 5 ≠ ρ (ρ (ρ a0 3) 4) 5) (hf_84 : fi D 3 1 H (ρ (ρ (ρ a0 2) 4) 5) = 1) (hf_85 : fi D 3 2 H (ρ (ρ (ρ a0 2) 4) 5) = 13) (hf_86 : fi D 3 3 H (ρ (ρ (ρ a0 2) 4) 5) = (-4)) (hf_87 : fi D 3 4 H (ρ (ρ (ρ a0 2) 4) 5) = 0) (hf_88 : fl D 3 5 H (ρ (ρ (ρ a0 2) 4) 5) = 0) (hn_89 : ρ (ρ (ρ a0 2) 4) 6 ≠ ρ (ρ a0 3) 3) (hn_90 : ρ (ρ (ρ a0 2) 4) 6 ≠ ρ (ρ (ρ a0 3) 3) 4) (hn_91 : ρ (ρ (ρ a0 2) 4) 6 ≠ ρ (ρ (ρ (ρ a0 3) 3) 4) 7) (hn_92 : ρ (ρ (ρ a0 2) 4) 6 ≠ ρ (ρ (ρ a0 3) 3) 5) (hn_93 : ρ (ρ (ρ a0 2) 4) 6 ≠ ρ (ρ (ρ (ρ a0 3) 3) 5) 6) (hn_94 : ρ (ρ (ρ a0 2) 4) 6 ≠ ρ (ρ (ρ a0 3) 3) 6) (hn_95 : ρ (ρ (ρ a0 2) 4) 6 ≠ ρ (ρ (ρ (ρ a0 3) 3) 6) 6) (hn_96 : ρ (ρ (ρ a0 2) 4) 6 ≠ ρ (ρ a0 3) 2) (hn_97 : ρ (ρ (ρ a0 2) 4) 6 ≠ ρ (ρ a0 3) 1) (hn_98 : ρ (ρ (ρ a0 2) 4) 6 ≠ ρ (ρ a0 3) 0) (hf_99 : fi D 7 0 H (ρ (ρ (ρ a0 2) 4) 6) = 6) (hn_100 : ρ (ρ (ρ a0 2) 4) 6 ≠ ρ (ρ (ρ a0 3) 4) 6) (hf_101 : fi D 7 1 H (ρ (ρ (ρ a0 2) 4) 6) = 0) (hf_102 : fi D 7 2 H (ρ (ρ (ρ a0 2) 4) 6) = 0) (hf_103 : fi D 7 3 H (ρ (ρ (ρ a0 2) 4) 6) = (-4)) (hf_104 : fi D 7 4 H (ρ (ρ (ρ a0 2) 4) 6) = 0) (hf_105 : fi D 7 5 H (ρ (ρ (ρ a0 2) 4) 6) = 0) (hn_106 : ρ (ρ (ρ (ρ a0 3) 4) 4) 7 ≠ ρ (ρ (ρ (ρ a0 3) 4) 5) 6) (hf_107 : fi D 4 7 H (ρ a0 2) = (-4)) (hn_108 : ρ a0 2 ≠ ρ a0 3) (hf_109 : fi D 4 8 H (ρ a0 2) = (-4)) (hf_110 : fi D 4 9 H (ρ a0 2) = 0) (hn_111 : ρ (ρ (ρ a0 3) 3) 6 ≠ ρ (ρ (ρ a0 3) 4) 6) (hn_112 : ρ (ρ (ρ a0 3) 3) 5 ≠ ρ (ρ (ρ a0 3) 4) 5) (hn_113 : ρ (ρ (ρ a0 3) 3) 4 ≠ ρ (ρ (ρ a0 3) 4) 4) (hn_114 : ρ (ρ a0 3) 3 ≠ ρ (ρ a0 3) 4) (hn_115 : ρ (ρ (ρ (ρ a0 3) 3) 4) 7 ≠ ρ (ρ (ρ (ρ a0 3) 4) 4) 7) (hn_116 : ρ (ρ (ρ (ρ a0 3) 3) 4) 7 ≠ ρ (ρ (ρ (ρ a0 3) 4) 5) 6) (hn_117 : ρ (ρ (ρ (ρ a0 3) 3) 5) 6 ≠ ρ (ρ (ρ (ρ a0 3) 4) 4) 7) (hn_118 : ρ (ρ (ρ (ρ a0 3) 3) 5) 6 ≠ ρ (ρ (ρ (ρ a0 3) 4) 5) 6) (hn_119 : ρ (ρ (ρ (ρ a0 3) 3) 6) 6 ≠ ρ (ρ (ρ (ρ a0 3) 4) 6) 6) : MI l D cI cS τ ρ yX11_calm cX11_calm 5 (some .int) 4 103 H [.ref a0, .int 1] (fun (r : Int32) (u : Heap) => 0 = r ∧ fi D 4 9 u (ρ a0 3) = 0 ∧ fi D 4 8 u (ρ a0 3) = (-4) ∧ fi D 4 7 u (ρ a0 3) = (-4) ∧ fi D 2 7 u (ρ (ρ a0 3) 4) = 0 ∧ fi D 2 8 u (ρ (ρ a0 3) 4) = 0 ∧ fi D 2 9 u (ρ (ρ a0 3) 4) = 0 ∧ fl D 5 6 u (ρ (ρ (ρ a0 3) 4) 4) = 0 ∧ fi D 5 5 u (ρ (ρ (ρ a0 3) 4) 4) = 0 ∧ fi D 5 4 u (ρ (ρ (ρ a0 3) 4) 4) = 0 ∧ fi D 5 3 u (ρ (ρ (ρ a0 3) 4) 4) = 0 ∧ fi D 5 2 u (ρ (ρ (ρ a0 3) 4) 4) = 1 ∧ fi D 5 1 u (ρ (ρ (ρ a0 3) 4) 4) = 0 ∧ fi D 5 0 u (ρ (ρ (ρ a0 3) 4) 4) = 0 ∧ fl D 3 5 u (ρ (ρ (ρ a0 3) 4) 5) = 0 ∧ fi D 3 4 u (ρ (ρ (ρ a0 3) 4) 5) = 0 ∧ fi D 3 3 u (ρ (ρ (ρ a0 3) 4) 5) = (-4) ∧ fi D 3 2 u (ρ (ρ (ρ a0 3) 4) 5) = 13 ∧ fi D 3 1 u (ρ (ρ (ρ a0 3) 4) 5) = 1 ∧ fi D 3 0 u (ρ (ρ (ρ a0 3) 4) 5) = 0 ∧ fi D 7 5 u (ρ (ρ (ρ a0 3) 4) 6) = 0 ∧ fi D 7 4 u (ρ (ρ (ρ a0 3) 4) 6) = 0 ∧ fi D 7 3 u (ρ (ρ (ρ a0 3) 4) 6) = (-4) ∧ fi D 7 2 u (ρ (ρ (ρ a0 3) 4) 6) = 0 ∧ fi D 7 1 u (ρ (ρ (ρ a0 3) 4) 6) = 0 ∧ fi D 7 0 u (ρ (ρ (ρ a0 3) 4) 6) = 6 ∧ fi D 2 7 u (ρ (ρ a0 3) 3) = 0 ∧ fi D 2 8 u (ρ (ρ a0 3) 3) = 0 ∧ fi D 2 9 u (ρ (ρ a0 3) 3) = 0 ∧ fl D 5 6 u (ρ (ρ (ρ a0 3) 3) 4) = 0 ∧ fi D 5 5 u (ρ (ρ (ρ a0 3) 3) 4) = 0 ∧ fi D 5 4 u (ρ (ρ (ρ a0 3) 3) 4) = 0 ∧ fi D 5 3 u (ρ (ρ (ρ a0 3) 3) 4) = 0 ∧ fi D 5 2 u (ρ (ρ (ρ a0 3) 3) 4) = 1 ∧ fi D 5 1 u (ρ (ρ (ρ a0 3) 3) 4) = 0 ∧ fi D 5 0 u (ρ (ρ (ρ a0 3) 3) 4) = 0 ∧ fl D 3 5 u (ρ (ρ (ρ a0 3) 3) 5) = 0 ∧ fi D 3 4 u (ρ (ρ (ρ a0 3) 3) 5) = 0 ∧ fi D 3 3 u (ρ (ρ (ρ a0 3) 3) 5) = (-4) ∧ fi D 3 2 u (ρ (ρ (ρ a0 3) 3) 5) = 13 ∧ fi D 3 1 u (ρ (ρ (ρ a0 3) 3) 5) = 1 ∧ fi D 3 0 u (ρ (ρ (ρ a0 3) 3) 5) = 0 ∧ fi D 7 5 u (ρ (ρ (ρ a0 3) 3) 6) = 0 ∧ fi D 7 4 u (ρ (ρ (ρ a0 3) 3) 6) = 0 ∧ fi D 7 3 u (ρ (ρ (ρ a0 3) 3) 6) = (-4) ∧ fi D 7 2 u (ρ (ρ (ρ a0 3) 3) 6) = 0 ∧ fi D 7 1 u (ρ (ρ (ρ a0 3) 3) 6) = 0 ∧ fi D 7 0 u (ρ (ρ (ρ a0 3) 3) 6) = 6 ∧ fi D 0 0 u (ρ (ρ a0 3) 2) = 0 ∧ fi D 10 2 u (ρ (ρ a0 3) 1) = 0 ∧ fi D 10 3 u (ρ (ρ a0 3) 1) = 0 ∧ fi D 10 4 u (ρ (ρ a0 3) 1) = 0 ∧ fi D 10 5 u (ρ (ρ a0 3) 1) = 0 ∧ fi D 1 0 u (ρ (ρ a0 3) 0) = 4 ∧ fi D 1 1 u (ρ (ρ a0 3) 0) = 12 ∧ fi D 1 2 u (ρ (ρ a0 3) 0) = 250 ∧ fi D 1 3 u (ρ (ρ a0 3) 0) = 100 ∧ fi D 1 4 u (ρ (ρ a0 3) 0) = 5) (fun q => q = ρ (ρ a0 3) 0 ∨ q = ρ (ρ a0 3) 1 ∨ q = ρ (ρ a0 3) 2 ∨ q = ρ (ρ a0 3) 3 ∨ q = ρ (ρ (ρ a0 3) 3) 4 ∨ q = ρ (ρ (ρ (ρ a0 3) 3) 4) 7 ∨ q = ρ (ρ (ρ a0 3) 3) 5 ∨ q = ρ (ρ (ρ (ρ a0 3) 3) 5) 6 ∨ q = ρ (ρ (ρ a0 3) 3) 6 ∨ q = ρ (ρ (ρ (ρ a0 3) 3) 6) 6 ∨ q = ρ (ρ a0 3) 4 ∨ q = ρ (ρ (ρ a0 3) 4) 4 ∨ q = ρ (ρ (ρ (ρ a0 3) 4) 4) 7 ∨ q = ρ (ρ (ρ a0 3) 4) 5 ∨ q = ρ (ρ (ρ (ρ a0 3) 4) 5) 6 ∨ q = ρ (ρ (ρ a0 3) 4) 6 ∨ q = ρ (ρ (ρ (ρ a0 3) 4) 6) 6 ∨ q = ρ a0 3) := by
  refine MI.of (by decide) (Nat.le_of_ble_eq_true rfl) ?_
  intro p e s m args below meth c E hml hr hlk hs ls hl
  have hx := E.1
  have hb := E.2.1
  have hown := E.2.2.1
  have hts := E.2.2.2.1
  have hS : SS (fun q => q = ρ (ρ a0 3) 0 ∨ q = ρ (ρ a0 3) 1 ∨ q = ρ (ρ a0 3) 2 ∨ q = ρ (ρ a0 3) 3 ∨ q = ρ (ρ (ρ a0 3) 3) 4 ∨ q = ρ (ρ (ρ (ρ a0 3) 3) 4) 7 ∨ q = ρ (ρ (ρ a0 3) 3) 5 ∨ q = ρ (ρ (ρ (ρ a0 3) 3) 5) 6 ∨ q = ρ (ρ (ρ a0 3) 3) 6 ∨ q = ρ (ρ (ρ (ρ a0 3) 3) 6) 6 ∨ q = ρ (ρ a0 3) 4 ∨ q = ρ (ρ (ρ a0 3) 4) 4 ∨ q = ρ (ρ (ρ (ρ a0 3) 4) 4) 7 ∨ q = ρ (ρ (ρ a0 3) 4) 5 ∨ q = ρ (ρ (ρ (ρ a0 3) 4) 5) 6 ∨ q = ρ (ρ (ρ a0 3) 4) 6 ∨ q = ρ (ρ (ρ (ρ a0 3) 4) 6) 6 ∨ q = ρ a0 3) H H [] := SS.rf
  have hl : lv_has ls 5 [(0, .ref a0), (1, .int 1)] := hl
  refine lv_iload_n hx hb dX11_calm_0 rfl (lv_at hl 1 rfl) ?_
  refine lv_if_lt (tgt := 9) hx hb dX11_calm_1 (by decide) (fun c_1 => absurd c_1 (by decide)) (fun c_1 => ?_)
  refine lv_iload_n hx hb dX11_calm_4 rfl (lv_at hl 1 rfl) ?_
  refine lv_iconst (v := 5) hx hb dX11_calm_5 (by decide) ?_
  refine lv_icmp_le (tgt := 11) hx hb dX11_calm_6 (by decide) (fun c_2 => ?_) (fun c_2 => absurd (by decide) c_2)
  refine lv_aload_n hx hb dX11_calm_11 rfl (lv_at hl 0 rfl) ?_
  refine gf_X11_30 E hT hW ha0 dX11_calm_12 (fun h_3 => ?_)
  refine lv_aload_n hx hb dX11_calm_15 rfl (lv_at hl 0 rfl) ?_
  refine gf_X11_26 E hT hW ha0 dX11_calm_16 (fun h_4 => ?_)
  refine th_Vv (As := [.ref (ρ a0 2)]) (rest := []) E hml hl.1 (c_X4_copyFrom l D cI cS τ ρ hW H hT (ρ a0 3) (ρ a0 2) h_3 h_4 hf_1 hn_2 hf_3 hf_4 hf_5 hf_6 hf_7 hn_8 hf_9 hf_10 hf_11 hf_12 hf_13 hn_14 hf_15 hf_16 hn_17 hn_18 hn_19 hf_20 hn_21 hf_22 hf_23 hf_24 hf_25 hf_26 hf_27 hn_28 hn_29 hn_30 hf_31 hn_32 hf_33 hf_34 hf_35 hf_36 hf_37 hn_38 hn_39 hn_40 hf_41 hn_42 hf_43 hf_44 hf_45 hf_46 hf_47 hn_48 hn_49 hf_50 hn_51 hf_52 hf_53 hn_54 hn_55 hn_56 hn_57 hn_58 hn_59 hn_60 hn_61 hn_62 hn_63 hf_64 hn_65 hf_66 hf_67 hf_68 hf_69 hf_70 hf_71 hn_72 hn_73 hn_74 hn_75 hn_76 hn_77 hn_78 hn_79 hn_80 hn_81 hf_82 hn_83 hf_84 hf_85 hf_86 hf_87 hf_88 hn_89 hn_90 hn_91 hn_92 hn_93 hn_94 hn_95 hn_96 hn_97 hn_98 hf_99 hn_100 hf_101 hf_102 hf_103 hf_104 hf_105 hn_106 hf_107 hn_108 hf_109 hf_110 hn_111 hn_112 hn_113 hn_114 hn_115 hn_116 hn_117 hn_118 hn_119) lk_X11_189 yd_X4_copyFrom hT h_3 rfl (by decide) hS (fun q => (fun h => h.elim (fun h => (Or.inl h)) (fun h => h.elim (fun h => (Or.inr (Or.inl h))) (fun h => h.elim (fun h => (Or.inr (Or.inr (Or.inl h)))) (fun h => h.elim (fun h => (Or.inr (Or.inr (Or.inr (Or.inl h))))) (fun h => h.elim (fun h => (Or.inr (Or.inr (Or.inr (Or.inr (Or.inl h)))))) (fun h => h.elim (fun h => (Or.inr (Or.inr (Or.inr (Or.inr (Or.inr (Or.inl h))))))) (fun h => h.elim (fun h => (Or.inr (Or.inr (Or.inr (Or.inr (Or.inr (Or.inr (Or.inl h)))))))) (fun h => h.elim (fun h => (Or.inr (Or.inr (Or.inr (Or.inr (Or.inr (Or.inr (Or.inr (Or.inl h))))))))) (fun h => h.elim (fun h => (Or.inr (Or.inr (Or.inr (Or.inr (Or.inr (Or.inr (Or.inr (Or.inr (Or.inl h)))))))))) (fun h => h.elim (fun h => (Or.inr (Or.inr (Or.inr (Or.inr (Or.inr (Or.inr (Or.inr (Or.inr (Or.inr (Or.inl h))))))))))) (fun h => h.elim (fun h => (Or.inr (Or.inr (Or.inr (Or.inr (Or.inr (Or.inr (Or.inr (Or.inr (Or.inr (Or.inr (Or.inl h)))))))))))) (fun h => h.elim (fun h => (Or.inr (Or.inr (Or.inr (Or.inr (Or.inr (Or.inr (Or.inr (Or.inr (Or.inr (Or.inr (Or.inr (Or.inl h))))))))))))) (fun h => h.elim (fun h => (Or.inr (Or.inr (Or.inr (Or.inr (Or.inr (Or.inr (Or.inr (Or.inr (Or.inr (Or.inr (Or.inr (Or.inr (Or.inl h)))))))))))))) (fun h => h.elim (fun h => (Or.inr (Or.inr (Or.inr (Or.inr (Or.inr (Or.inr (Or.inr (Or.inr (Or.inr (Or.inr (Or.inr (Or.inr (Or.inr (Or.inl h))))))))))))))) (fun h => h.elim (fun h => (Or.inr (Or.inr (Or.inr (Or.inr (Or.inr (Or.inr (Or.inr (Or.inr (Or.inr (Or.inr (Or.inr (Or.inr (Or.inr (Or.inr (Or.inl h)))))))))))))))) (fun h => h.elim (fun h => (Or.inr (Or.inr (Or.inr (Or.inr (Or.inr (Or.inr (Or.inr (Or.inr (Or.inr (Or.inr (Or.inr (Or.inr (Or.inr (Or.inr (Or.inr (Or.inl h))))))))))))))))) (fun h => h.elim (fun h => (Or.inr (Or.inr (Or.inr (Or.inr (Or.inr (Or.inr (Or.inr (Or.inr (Or.inr (Or.inr (Or.inr (Or.inr (Or.inr (Or.inr (Or.inr (Or.inr (Or.inl h)))))))))))))))))) (fun h => (Or.inr (Or.inr (Or.inr (Or.inr (Or.inr (Or.inr (Or.inr (Or.inr (Or.inr (Or.inr (Or.inr (Or.inr (Or.inr (Or.inr (Or.inr (Or.inr (Or.inr h)))))))))))))))))))))))))))))))))))) ⟨by decide, by decide⟩ (Nat.le_of_ble_eq_true rfl) ⟨by decide, by decide⟩ rfl dX11_calm_19 (fun H_5 locs_5 p_5 hT_5 hk_5 hS_5 => ?_)
  have p_5 : fi D 1 4 H_5 (ρ (ρ a0 3) 0) = 5 ∧ fi D 1 3 H_5 (ρ (ρ a0 3) 0) = 100 ∧ fi D 1 2 H_5 (ρ (ρ a0 3) 0) = 250 ∧ fi D 1 1 H_5 (ρ (ρ a0 3) 0) = 12 ∧ fi D 1 0 H_5 (ρ (ρ a0 3) 0) = 4 ∧ fi D 10 5 H_5 (ρ (ρ a0 3) 1) = 0 ∧ fi D 10 4 H_5 (ρ (ρ a0 3) 1) = 0 ∧ fi D 10 3 H_5 (ρ (ρ a0 3) 1) = 0 ∧ fi D 10 2 H_5 (ρ (ρ a0 3) 1) = 0 ∧ fi D 0 0 H_5 (ρ (ρ a0 3) 2) = 0 ∧ fi D 7 0 H_5 (ρ (ρ (ρ a0 3) 3) 6) = 6 ∧ fi D 7 1 H_5 (ρ (ρ (ρ a0 3) 3) 6) = 0 ∧ fi D 7 2 H_5 (ρ (ρ (ρ a0 3) 3) 6) = 0 ∧ fi D 7 3 H_5 (ρ (ρ (ρ a0 3) 3) 6) = (-4) ∧ fi D 7 4 H_5 (ρ (ρ (ρ a0 3) 3) 6) = 0 ∧ fi D 7 5 H_5 (ρ (ρ (ρ a0 3) 3) 6) = 0 ∧ fi D 3 0 H_5 (ρ (ρ (ρ a0 3) 3) 5) = 0 ∧ fi D 3 1 H_5 (ρ (ρ (ρ a0 3) 3) 5) = 1 ∧ fi D 3 2 H_5 (ρ (ρ (ρ a0 3) 3) 5) = 13 ∧ fi D 3 3 H_5 (ρ (ρ (ρ a0 3) 3) 5) = (-4) ∧ fi D 3 4 H_5 (ρ (ρ (ρ a0 3) 3) 5) = 0 ∧ fl D 3 5 H_5 (ρ (ρ (ρ a0 3) 3) 5) = 0 ∧ fi D 5 0 H_5 (ρ (ρ (ρ a0 3) 3) 4) = 0 ∧ fi D 5 1 H_5 (ρ (ρ (ρ a0 3) 3) 4) = 0 ∧ fi D 5 2 H_5 (ρ (ρ (ρ a0 3) 3) 4) = 1 ∧ fi D 5 3 H_5 (ρ (ρ (ρ a0 3) 3) 4) = 0 ∧ fi D 5 4 H_5 (ρ (ρ (ρ a0 3) 3) 4) = 0 ∧ fi D 5 5 H_5 (ρ (ρ (ρ a0 3) 3) 4) = 0 ∧ fl D 5 6 H_5 (ρ (ρ (ρ a0 3) 3) 4) = 0 ∧ fi D 2 9 H_5 (ρ (ρ a0 3) 3) = 0 ∧ fi D 2 8 H_5 (ρ (ρ a0 3) 3) = 0 ∧ fi D 2 7 H_5 (ρ (ρ a0 3) 3) = 0 ∧ fi D 7 0 H_5 (ρ (ρ (ρ a0 3) 4) 6) = 6 ∧ fi D 7 1 H_5 (ρ (ρ (ρ a0 3) 4) 6) = 0 ∧ fi D 7 2 H_5 (ρ (ρ (ρ a0 3) 4) 6) = 0 ∧ fi D 7 3 H_5 (ρ (ρ (ρ a0 3) 4) 6) = (-4) ∧ fi D 7 4 H_5 (ρ (ρ (ρ a0 3) 4) 6) = 0 ∧ fi D 7 5 H_5 (ρ (ρ (ρ a0 3) 4) 6) = 0 ∧ fi D 3 0 H_5 (ρ (ρ (ρ a0 3) 4) 5) = 0 ∧ fi D 3 1 H_5 (ρ (ρ (ρ a0 3) 4) 5) = 1 ∧ fi D 3 2 H_5 (ρ (ρ (ρ a0 3) 4) 5) = 13 ∧ fi D 3 3 H_5 (ρ (ρ (ρ a0 3) 4) 5) = (-4) ∧ fi D 3 4 H_5 (ρ (ρ (ρ a0 3) 4) 5) = 0 ∧ fl D 3 5 H_5 (ρ (ρ (ρ a0 3) 4) 5) = 0 ∧ fi D 5 0 H_5 (ρ (ρ (ρ a0 3) 4) 4) = 0 ∧ fi D 5 1 H_5 (ρ (ρ (ρ a0 3) 4) 4) = 0 ∧ fi D 5 2 H_5 (ρ (ρ (ρ a0 3) 4) 4) = 1 ∧ fi D 5 3 H_5 (ρ (ρ (ρ a0 3) 4) 4) = 0 ∧ fi D 5 4 H_5 (ρ (ρ (ρ a0 3) 4) 4) = 0 ∧ fi D 5 5 H_5 (ρ (ρ (ρ a0 3) 4) 4) = 0 ∧ fl D 5 6 H_5 (ρ (ρ (ρ a0 3) 4) 4) = 0 ∧ fi D 2 9 H_5 (ρ (ρ a0 3) 4) = 0 ∧ fi D 2 8 H_5 (ρ (ρ a0 3) 4) = 0 ∧ fi D 2 7 H_5 (ρ (ρ a0 3) 4) = 0 ∧ fi D 4 7 H_5 (ρ a0 3) = (-4) ∧ fi D 4 8 H_5 (ρ a0 3) = (-4) ∧ fi D 4 9 H_5 (ρ a0 3) = 0 := p_5
  obtain ⟨p_5_0, p_5_1, p_5_2, p_5_3, p_5_4, p_5_5, p_5_6, p_5_7, p_5_8, p_5_9, p_5_10, p_5_11, p_5_12, p_5_13, p_5_14, p_5_15, p_5_16, p_5_17, p_5_18, p_5_19, p_5_20, p_5_21, p_5_22, p_5_23, p_5_24, p_5_25, p_5_26, p_5_27, p_5_28, p_5_29, p_5_30, p_5_31, p_5_32, p_5_33, p_5_34, p_5_35, p_5_36, p_5_37, p_5_38, p_5_39, p_5_40, p_5_41, p_5_42, p_5_43, p_5_44, p_5_45, p_5_46, p_5_47, p_5_48, p_5_49, p_5_50, p_5_51, p_5_52, p_5_53, p_5_54, p_5_55, p_5_56⟩ := p_5
  refine lv_iconst (v := 0) hx hb dX11_calm_22 (by decide) ?_
  refine lv_istore_n (lv' := [(2, .int 0), (0, .ref a0), (1, .int 1)]) hx hb dX11_calm_23 rfl hl (by decide) rfl (fun ls hl => ?_)
  refine lv_iload_n hx hb dX11_calm_24 rfl (lv_at hl 0 rfl) ?_
  refine lv_sipush (v := 300) hx hb dX11_calm_25 (by decide) ?_
  refine lv_icmp_ge (tgt := 89) hx hb dX11_calm_28 (by decide) (fun c_6 => absurd c_6 (by decide)) (fun c_6 => ?_)
  refine lv_aload_n hx hb dX11_calm_31 rfl (lv_at hl 1 rfl) ?_
  refine gf_X11_30 E hT_5 hW ha0 dX11_calm_32 (fun h_7 => ?_)
  refine th_Vi (As := []) (rest := []) E hml hl.1 (c_X4_isBusy l D cI cS τ ρ hW H_5 hT_5 (ρ a0 3) h_3 p_5_8 p_5_30 p_5_31 p_5_52 p_5_53) lk_X11_193 yd_X4_isBusy hT_5 h_3 rfl (by decide) hS_5 (fun _ h => h.elim) ⟨by decide, by decide⟩ (Nat.le_of_ble_eq_true rfl) ⟨by decide, by decide⟩ rfl dX11_calm_35 (fun r_8 H_8 locs_8 p_8 hT_8 hk_8 hS_8 => ?_)
  have p_8 : H_5 = H_8 ∧ 0 = r_8 := p_8
  obtain ⟨rfl, rfl⟩ := p_8
  refine lv_if_eq (tgt := 89) hx hb dX11_calm_38 (by decide) (fun c_9 => ?_) (fun c_9 => absurd (by decide) c_9)
  refine lv_iload_n hx hb dX11_calm_89 rfl (lv_at hl 2 rfl) ?_
  refine lv_tableIn (tgt := 126) hx hb dX11_calm_90 (by decide) (by decide) rfl (by decide) ?_
  refine lv_aload_n hx hb dX11_calm_126 rfl (lv_at hl 1 rfl) ?_
  refine gf_X11_30 E hT_8 hW ha0 dX11_calm_127 (fun h_10 => ?_)
  refine gf_X11_196 E hT_8 hW h_3 dX11_calm_130 (fun h_11 => ?_)
  refine gf_X11_72 E hT_8 (hW _ 4 3 h_3 (by decide) (by decide) (by decide)) dX11_calm_133 ?_
  refine th_topi (y := 0) p_5_31 ?_
  exact th_iret E hr hlk hs hT_8 hS_8 ⟨rfl, p_5_56, p_5_55, p_5_54, p_5_53, p_5_52, p_5_51, p_5_50, p_5_49, p_5_48, p_5_47, p_5_46, p_5_45, p_5_44, p_5_43, p_5_42, p_5_41, p_5_40, p_5_39, p_5_38, p_5_37, p_5_36, p_5_35, p_5_34, p_5_33, p_5_32, p_5_31, p_5_30, p_5_29, p_5_28, p_5_27, p_5_26, p_5_25, p_5_24, p_5_23, p_5_22, p_5_21, p_5_20, p_5_19, p_5_18, p_5_17, p_5_16, p_5_15, p_5_14, p_5_13, p_5_12, p_5_11, p_5_10, p_5_9, p_5_8, p_5_7, p_5_6, p_5_5, p_5_4, p_5_3, p_5_2, p_5_1, p_5_0⟩ dX11_calm_136
set_option maxHeartbeats 4000000 in
set_option maxRecDepth 100000 in
/-- StreamEnds.calm -/
theorem c_X11_calm_v4 (l : Launch) (D : va_G) (cI cS : ClassId) (τ : Nat → Option Nat) (ρ : Nat → Nat → Nat) (hW : WF τ ρ) (H : Heap) (hT : TH D cI cS τ ρ H) (a0 : Nat) (ha0 : τ a0 = some 11) (hf_1 : fi D 1 0 H (ρ (ρ a0 2) 0) = 4) (hn_2 : ρ (ρ a0 2) 0 ≠ ρ (ρ a0 3) 0) (hf_3 : fi D 1 1 H (ρ (ρ a0 2) 0) = 12) (hf_4 : fi D 1 2 H (ρ (ρ a0 2) 0) = 250) (hf_5 : fi D 1 3 H (ρ (ρ a0 2) 0) = 100) (hf_6 : fi D 1 4 H (ρ (ρ a0 2) 0) = 5) (hf_7 : fi D 10 2 H (ρ (ρ a0 2) 1) = 0) (hn_8 : ρ (ρ a0 2) 1 ≠ ρ (ρ a0 3) 1) (hf_9 : fi D 10 3 H (ρ (ρ a0 2) 1) = 0) (hf_10 : fi D 10 4 H (ρ (ρ a0 2) 1) = 0) (hf_11 : fi D 10 5 H (ρ (ρ a0 2) 1) = 0) (hf_12 : fi D 0 0 H (ρ (ρ a0 2) 2) = 0) (hf_13 : fi D 2 7 H (ρ (ρ a0 2) 3) = 0) (hn_14 : ρ (ρ a0 2) 3 ≠ ρ (ρ a0 3) 3) (hf_15 : fi D 2 8 H (ρ (ρ a0 2) 3) = 0) (hf_16 : fi D 2 9 H (ρ (ρ a0 2) 3) = 0) (hn_17 : ρ (ρ (ρ a0 2) 3) 4 ≠ ρ (ρ a0 3) 2) (hn_18 : ρ (ρ (ρ a0 2) 3) 4 ≠ ρ (ρ a0 3) 1) (hn_19 : ρ (ρ (ρ a0 2) 3) 4 ≠ ρ (ρ a0 3) 0) (hf_20 : fi D 5 0 H (ρ (ρ (ρ a0 2) 3) 4) = 0) (hn_21 : ρ (ρ (ρ a0 2) 3) 4 ≠ ρ (ρ (ρ a0 3) 3) 4) (hf_22 : fi D 5 1 H (ρ (ρ (ρ a0 2) 3) 4) = 0) (hf_23 : fi D 5 2 H (ρ (ρ (ρ a0 2) 3) 4) = 1) (hf_24 : fi D 5 3 H (ρ (ρ (ρ a0 2) 3) 4) = 0) (hf_25 : fi D 5 4 H (ρ (ρ (ρ a0 2) 3) 4) = 0) (hf_26 : fi D 5 5 H (ρ (ρ (ρ a0 2) 3) 4) = 0) (hf_27 : fl D 5 6 H (ρ (ρ (ρ a0 2) 3) 4) = 0) (hn_28 : ρ (ρ (ρ a0 2) 3) 5 ≠ ρ (ρ a0 3) 2) (hn_29 : ρ (ρ (ρ a0 2) 3) 5 ≠ ρ (ρ a0 3) 1) (hn_30 : ρ (ρ (ρ a0 2) 3) 5 ≠ ρ (ρ a0 3) 0) (hf_31 : fi D 3 0 H (ρ (ρ (ρ a0 2) 3) 5) = 0) (hn_32 : ρ (ρ (ρ a0 2) 3) 5 ≠ ρ (ρ (ρ a0 3) 3) 5) (hf_33 : fi D 3 1 H (ρ (ρ (ρ a0 2) 3) 5) = 1) (hf_34 : fi D 3 2 H (ρ (ρ (ρ a0 2) 3) 5) = 13) (hf_35 : fi D 3 3 H (ρ (ρ (ρ a0 2) 3) 5) = (-4)) (hf_36 : fi D 3 4 H (ρ (ρ (ρ a0 2) 3) 5) = 0) (hf_37 : fl D 3 5 H (ρ (ρ (ρ a0 2) 3) 5) = 0) (hn_38 : ρ (ρ (ρ a0 2) 3) 6 ≠ ρ (ρ a0 3) 2) (hn_39 : ρ (ρ (ρ a0 2) 3) 6 ≠ ρ (ρ a0 3) 1) (hn_40 : ρ (ρ (ρ a0 2) 3) 6 ≠ ρ (ρ a0 3) 0) (hf_41 : fi D 7 0 H (ρ (ρ (ρ a0 2) 3) 6) = 6) (hn_42 : ρ (ρ (ρ a0 2) 3) 6 ≠ ρ (ρ (ρ a0 3) 3) 6) (hf_43 : fi D 7 1 H (ρ (ρ (ρ a0 2) 3) 6) = 0) (hf_44 : fi D 7 2 H (ρ (ρ (ρ a0 2) 3) 6) = 0) (hf_45 : fi D 7 3 H (ρ (ρ (ρ a0 2) 3) 6) = (-4)) (hf_46 : fi D 7 4 H (ρ (ρ (ρ a0 2) 3) 6) = 0) (hf_47 : fi D 7 5 H (ρ (ρ (ρ a0 2) 3) 6) = 0) (hn_48 : ρ (ρ (ρ (ρ a0 3) 3) 4) 7 ≠ ρ (ρ (ρ (ρ a0 3) 3) 5) 6) (hn_49 : ρ (ρ a0 2) 4 ≠ ρ (ρ a0 3) 3) (hf_50 : fi D 2 7 H (ρ (ρ a0 2) 4) = 0) (hn_51 : ρ (ρ a0 2) 4 ≠ ρ (ρ a0 3) 4) (hf_52 : fi D 2 8 H (ρ (ρ a0 2) 4) = 0) (hf_53 : fi D 2 9 H (ρ (ρ a0 2) 4) = 0) (hn_54 : ρ (ρ (ρ a0 2) 4) 4 ≠ ρ (ρ a0 3) 3) (hn_55 : ρ (ρ (ρ a0 2) 4) 4 ≠ ρ (ρ (ρ a0 3) 3) 4) (hn_56 : ρ (ρ (ρ a0 2) 4) 4 ≠ ρ (ρ (ρ (ρ a0 3) 3) 4) 7) (hn_57 : ρ (ρ (ρ a0 2) 4) 4 ≠ ρ (ρ (ρ a0 3) 3) 5) (hn_58 : ρ (ρ (ρ a0 2) 4) 4 ≠ ρ (ρ (ρ (ρ a0 3) 3) 5) 6) (hn_59 : ρ (ρ (ρ a0 2) 4) 4 ≠ ρ (ρ (ρ a0 3) 3) 6) (hn_60 : ρ (ρ (ρ a0 2) 4) 4 ≠ ρ (ρ (ρ (ρ a0 3) 3) 6) 6) (hn_61 : ρ (ρ (ρ a0 2) 4) 4 ≠ ρ (ρ a0 3) 2) (hn_62 : ρ (ρ (ρ a0 2) 4) 4 ≠ ρ (ρ a0 3) 1) (hn_63 : ρ (ρ (ρ a0 2) 4) 4 ≠ ρ (ρ a0 3) 0) (hf_64 : fi D 5 0 H (ρ (ρ (ρ a0 2) 4) 4) = 0) (hn_65 : ρ (ρ (ρ a0 2) 4) 4 ≠ ρ (ρ (ρ a0 3) 4) 4) (hf_66 : fi D 5 1 H (ρ (ρ (ρ a0 2) 4) 4) = 0) (hf_67 : fi D 5 2 H (ρ (ρ (ρ a0 2) 4) 4) = 1) (hf_68 : fi D 5 3 H (ρ (ρ (ρ a0 2) 4) 4) = 0) (hf_69 : fi D 5 4 H (ρ (ρ (ρ a0 2) 4) 4) = 0) (hf_70 : fi D 5 5 H (ρ (ρ (ρ a0 2) 4) 4) = 0) (hf_71 : fl D 5 6 H (ρ (ρ (ρ a0 2) 4) 4) = 0) (hn_72 : ρ (ρ (ρ a0 2) 4) 5 ≠ ρ (ρ a0 3) 3) (hn_73 : ρ (ρ (ρ a0 2) 4) 5 ≠ ρ (ρ (ρ a0 3) 3) 4) (hn_74 : ρ (ρ (ρ a0 2) 4) 5 ≠ ρ (ρ (ρ (ρ a0 3) 3) 4) 7) (hn_75 : ρ (ρ (ρ a0 2) 4) 5 ≠ ρ (ρ (ρ a0 3) 3) 5) (hn_76 : ρ (ρ (ρ a0 2) 4) 5 ≠ ρ (ρ (ρ (ρ a0 3) 3) 5) 6) (hn_77 : ρ (ρ (ρ a0 2) 4) 5 ≠ ρ (ρ (ρ a0 3) 3) 6) (hn_78 : ρ (ρ (ρ a0 2) 4) 5 ≠ ρ (ρ (ρ (ρ a0 3) 3) 6) 6) (hn_79 : ρ (ρ (ρ a0 2) 4) 5 ≠ ρ (ρ a0 3) 2) (hn_80 : ρ (ρ (ρ a0 2) 4) 5 ≠ ρ (ρ a0 3) 1) (hn_81 : ρ (ρ (ρ a0 2) 4) 5 ≠ ρ (ρ a0 3) 0) (hf_82 : fi D 3 0 H (ρ (ρ (ρ a0 2) 4) 5) = 0) (hn_83 : ρ (ρ (ρ a0 2) 4) 5 ≠ ρ (ρ (ρ a0 3) 4) 5) (hf_84 : fi D 3 1 H (ρ (ρ (ρ a0 2) 4) 5) = 1) (hf_85 : fi D 3 2 H (ρ (ρ (ρ a0 2) 4) 5) = 13) (hf_86 : fi D 3 3 H (ρ (ρ (ρ a0 2) 4) 5) = (-4)) (hf_87 : fi D 3 4 H (ρ (ρ (ρ a0 2) 4) 5) = 0) (hf_88 : fl D 3 5 H (ρ (ρ (ρ a0 2) 4) 5) = 0) (hn_89 : ρ (ρ (ρ a0 2) 4) 6 ≠ ρ (ρ a0 3) 3) (hn_90 : ρ (ρ (ρ a0 2) 4) 6 ≠ ρ (ρ (ρ a0 3) 3) 4) (hn_91 : ρ (ρ (ρ a0 2) 4) 6 ≠ ρ (ρ (ρ (ρ a0 3) 3) 4) 7) (hn_92 : ρ (ρ (ρ a0 2) 4) 6 ≠ ρ (ρ (ρ a0 3) 3) 5) (hn_93 : ρ (ρ (ρ a0 2) 4) 6 ≠ ρ (ρ (ρ (ρ a0 3) 3) 5) 6) (hn_94 : ρ (ρ (ρ a0 2) 4) 6 ≠ ρ (ρ (ρ a0 3) 3) 6) (hn_95 : ρ (ρ (ρ a0 2) 4) 6 ≠ ρ (ρ (ρ (ρ a0 3) 3) 6) 6) (hn_96 : ρ (ρ (ρ a0 2) 4) 6 ≠ ρ (ρ a0 3) 2) (hn_97 : ρ (ρ (ρ a0 2) 4) 6 ≠ ρ (ρ a0 3) 1) (hn_98 : ρ (ρ (ρ a0 2) 4) 6 ≠ ρ (ρ a0 3) 0) (hf_99 : fi D 7 0 H (ρ (ρ (ρ a0 2) 4) 6) = 6) (hn_100 : ρ (ρ (ρ a0 2) 4) 6 ≠ ρ (ρ (ρ a0 3) 4) 6) (hf_101 : fi D 7 1 H (ρ (ρ (ρ a0 2) 4) 6) = 0) (hf_102 : fi D 7 2 H (ρ (ρ (ρ a0 2) 4) 6) = 0) (hf_103 : fi D 7 3 H (ρ (ρ (ρ a0 2) 4) 6) = (-4)) (hf_104 : fi D 7 4 H (ρ (ρ (ρ a0 2) 4) 6) = 0) (hf_105 : fi D 7 5 H (ρ (ρ (ρ a0 2) 4) 6) = 0) (hn_106 : ρ (ρ (ρ (ρ a0 3) 4) 4) 7 ≠ ρ (ρ (ρ (ρ a0 3) 4) 5) 6) (hf_107 : fi D 4 7 H (ρ a0 2) = (-4)) (hn_108 : ρ a0 2 ≠ ρ a0 3) (hf_109 : fi D 4 8 H (ρ a0 2) = (-4)) (hf_110 : fi D 4 9 H (ρ a0 2) = 0) (hn_111 : ρ (ρ (ρ a0 3) 3) 6 ≠ ρ (ρ (ρ a0 3) 4) 6) (hn_112 : ρ (ρ (ρ a0 3) 3) 5 ≠ ρ (ρ (ρ a0 3) 4) 5) (hn_113 : ρ (ρ (ρ a0 3) 3) 4 ≠ ρ (ρ (ρ a0 3) 4) 4) (hn_114 : ρ (ρ a0 3) 3 ≠ ρ (ρ a0 3) 4) (hn_115 : ρ (ρ (ρ (ρ a0 3) 3) 4) 7 ≠ ρ (ρ (ρ (ρ a0 3) 4) 4) 7) (hn_116 : ρ (ρ (ρ (ρ a0 3) 3) 4) 7 ≠ ρ (ρ (ρ (ρ a0 3) 4) 5) 6) (hn_117 : ρ (ρ (ρ (ρ a0 3) 3) 5) 6 ≠ ρ (ρ (ρ (ρ a0 3) 4) 4) 7) (hn_118 : ρ (ρ (ρ (ρ a0 3) 3) 5) 6 ≠ ρ (ρ (ρ (ρ a0 3) 4) 5) 6) (hn_119 : ρ (ρ (ρ (ρ a0 3) 3) 6) 6 ≠ ρ (ρ (ρ (ρ a0 3) 4) 6) 6) : MI l D cI cS τ ρ yX11_calm cX11_calm 5 (some .int) 4 103 H [.ref a0, .int 2] (fun (r : Int32) (u : Heap) => 0 = r ∧ fi D 4 9 u (ρ a0 3) = 0 ∧ fi D 4 8 u (ρ a0 3) = (-4) ∧ fi D 4 7 u (ρ a0 3) = (-4) ∧ fi D 2 7 u (ρ (ρ a0 3) 4) = 0 ∧ fi D 2 8 u (ρ (ρ a0 3) 4) = 0 ∧ fi D 2 9 u (ρ (ρ a0 3) 4) = 0 ∧ fl D 5 6 u (ρ (ρ (ρ a0 3) 4) 4) = 0 ∧ fi D 5 5 u (ρ (ρ (ρ a0 3) 4) 4) = 0 ∧ fi D 5 4 u (ρ (ρ (ρ a0 3) 4) 4) = 0 ∧ fi D 5 3 u (ρ (ρ (ρ a0 3) 4) 4) = 0 ∧ fi D 5 2 u (ρ (ρ (ρ a0 3) 4) 4) = 1 ∧ fi D 5 1 u (ρ (ρ (ρ a0 3) 4) 4) = 0 ∧ fi D 5 0 u (ρ (ρ (ρ a0 3) 4) 4) = 0 ∧ fl D 3 5 u (ρ (ρ (ρ a0 3) 4) 5) = 0 ∧ fi D 3 4 u (ρ (ρ (ρ a0 3) 4) 5) = 0 ∧ fi D 3 3 u (ρ (ρ (ρ a0 3) 4) 5) = (-4) ∧ fi D 3 2 u (ρ (ρ (ρ a0 3) 4) 5) = 13 ∧ fi D 3 1 u (ρ (ρ (ρ a0 3) 4) 5) = 1 ∧ fi D 3 0 u (ρ (ρ (ρ a0 3) 4) 5) = 0 ∧ fi D 7 5 u (ρ (ρ (ρ a0 3) 4) 6) = 0 ∧ fi D 7 4 u (ρ (ρ (ρ a0 3) 4) 6) = 0 ∧ fi D 7 3 u (ρ (ρ (ρ a0 3) 4) 6) = (-4) ∧ fi D 7 2 u (ρ (ρ (ρ a0 3) 4) 6) = 0 ∧ fi D 7 1 u (ρ (ρ (ρ a0 3) 4) 6) = 0 ∧ fi D 7 0 u (ρ (ρ (ρ a0 3) 4) 6) = 6 ∧ fi D 2 7 u (ρ (ρ a0 3) 3) = 0 ∧ fi D 2 8 u (ρ (ρ a0 3) 3) = 0 ∧ fi D 2 9 u (ρ (ρ a0 3) 3) = 0 ∧ fl D 5 6 u (ρ (ρ (ρ a0 3) 3) 4) = 0 ∧ fi D 5 5 u (ρ (ρ (ρ a0 3) 3) 4) = 0 ∧ fi D 5 4 u (ρ (ρ (ρ a0 3) 3) 4) = 0 ∧ fi D 5 3 u (ρ (ρ (ρ a0 3) 3) 4) = 0 ∧ fi D 5 2 u (ρ (ρ (ρ a0 3) 3) 4) = 1 ∧ fi D 5 1 u (ρ (ρ (ρ a0 3) 3) 4) = 0 ∧ fi D 5 0 u (ρ (ρ (ρ a0 3) 3) 4) = 0 ∧ fl D 3 5 u (ρ (ρ (ρ a0 3) 3) 5) = 0 ∧ fi D 3 4 u (ρ (ρ (ρ a0 3) 3) 5) = 0 ∧ fi D 3 3 u (ρ (ρ (ρ a0 3) 3) 5) = (-4) ∧ fi D 3 2 u (ρ (ρ (ρ a0 3) 3) 5) = 13 ∧ fi D 3 1 u (ρ (ρ (ρ a0 3) 3) 5) = 1 ∧ fi D 3 0 u (ρ (ρ (ρ a0 3) 3) 5) = 0 ∧ fi D 7 5 u (ρ (ρ (ρ a0 3) 3) 6) = 0 ∧ fi D 7 4 u (ρ (ρ (ρ a0 3) 3) 6) = 0 ∧ fi D 7 3 u (ρ (ρ (ρ a0 3) 3) 6) = (-4) ∧ fi D 7 2 u (ρ (ρ (ρ a0 3) 3) 6) = 0 ∧ fi D 7 1 u (ρ (ρ (ρ a0 3) 3) 6) = 0 ∧ fi D 7 0 u (ρ (ρ (ρ a0 3) 3) 6) = 6 ∧ fi D 0 0 u (ρ (ρ a0 3) 2) = 0 ∧ fi D 10 2 u (ρ (ρ a0 3) 1) = 0 ∧ fi D 10 3 u (ρ (ρ a0 3) 1) = 0 ∧ fi D 10 4 u (ρ (ρ a0 3) 1) = 0 ∧ fi D 10 5 u (ρ (ρ a0 3) 1) = 0 ∧ fi D 1 0 u (ρ (ρ a0 3) 0) = 4 ∧ fi D 1 1 u (ρ (ρ a0 3) 0) = 12 ∧ fi D 1 2 u (ρ (ρ a0 3) 0) = 250 ∧ fi D 1 3 u (ρ (ρ a0 3) 0) = 100 ∧ fi D 1 4 u (ρ (ρ a0 3) 0) = 5) (fun q => q = ρ (ρ a0 3) 0 ∨ q = ρ (ρ a0 3) 1 ∨ q = ρ (ρ a0 3) 2 ∨ q = ρ (ρ a0 3) 3 ∨ q = ρ (ρ (ρ a0 3) 3) 4 ∨ q = ρ (ρ (ρ (ρ a0 3) 3) 4) 7 ∨ q = ρ (ρ (ρ a0 3) 3) 5 ∨ q = ρ (ρ (ρ (ρ a0 3) 3) 5) 6 ∨ q = ρ (ρ (ρ a0 3) 3) 6 ∨ q = ρ (ρ (ρ (ρ a0 3) 3) 6) 6 ∨ q = ρ (ρ a0 3) 4 ∨ q = ρ (ρ (ρ a0 3) 4) 4 ∨ q = ρ (ρ (ρ (ρ a0 3) 4) 4) 7 ∨ q = ρ (ρ (ρ a0 3) 4) 5 ∨ q = ρ (ρ (ρ (ρ a0 3) 4) 5) 6 ∨ q = ρ (ρ (ρ a0 3) 4) 6 ∨ q = ρ (ρ (ρ (ρ a0 3) 4) 6) 6 ∨ q = ρ a0 3) := by
  refine MI.of (by decide) (Nat.le_of_ble_eq_true rfl) ?_
  intro p e s m args below meth c E hml hr hlk hs ls hl
  have hx := E.1
  have hb := E.2.1
  have hown := E.2.2.1
  have hts := E.2.2.2.1
  have hS : SS (fun q => q = ρ (ρ a0 3) 0 ∨ q = ρ (ρ a0 3) 1 ∨ q = ρ (ρ a0 3) 2 ∨ q = ρ (ρ a0 3) 3 ∨ q = ρ (ρ (ρ a0 3) 3) 4 ∨ q = ρ (ρ (ρ (ρ a0 3) 3) 4) 7 ∨ q = ρ (ρ (ρ a0 3) 3) 5 ∨ q = ρ (ρ (ρ (ρ a0 3) 3) 5) 6 ∨ q = ρ (ρ (ρ a0 3) 3) 6 ∨ q = ρ (ρ (ρ (ρ a0 3) 3) 6) 6 ∨ q = ρ (ρ a0 3) 4 ∨ q = ρ (ρ (ρ a0 3) 4) 4 ∨ q = ρ (ρ (ρ (ρ a0 3) 4) 4) 7 ∨ q = ρ (ρ (ρ a0 3) 4) 5 ∨ q = ρ (ρ (ρ (ρ a0 3) 4) 5) 6 ∨ q = ρ (ρ (ρ a0 3) 4) 6 ∨ q = ρ (ρ (ρ (ρ a0 3) 4) 6) 6 ∨ q = ρ a0 3) H H [] := SS.rf
  have hl : lv_has ls 5 [(0, .ref a0), (1, .int 2)] := hl
  refine lv_iload_n hx hb dX11_calm_0 rfl (lv_at hl 1 rfl) ?_
  refine lv_if_lt (tgt := 9) hx hb dX11_calm_1 (by decide) (fun c_1 => absurd c_1 (by decide)) (fun c_1 => ?_)
  refine lv_iload_n hx hb dX11_calm_4 rfl (lv_at hl 1 rfl) ?_
  refine lv_iconst (v := 5) hx hb dX11_calm_5 (by decide) ?_
  refine lv_icmp_le (tgt := 11) hx hb dX11_calm_6 (by decide) (fun c_2 => ?_) (fun c_2 => absurd (by decide) c_2)
  refine lv_aload_n hx hb dX11_calm_11 rfl (lv_at hl 0 rfl) ?_
  refine gf_X11_30 E hT hW ha0 dX11_calm_12 (fun h_3 => ?_)
  refine lv_aload_n hx hb dX11_calm_15 rfl (lv_at hl 0 rfl) ?_
  refine gf_X11_26 E hT hW ha0 dX11_calm_16 (fun h_4 => ?_)
  refine th_Vv (As := [.ref (ρ a0 2)]) (rest := []) E hml hl.1 (c_X4_copyFrom l D cI cS τ ρ hW H hT (ρ a0 3) (ρ a0 2) h_3 h_4 hf_1 hn_2 hf_3 hf_4 hf_5 hf_6 hf_7 hn_8 hf_9 hf_10 hf_11 hf_12 hf_13 hn_14 hf_15 hf_16 hn_17 hn_18 hn_19 hf_20 hn_21 hf_22 hf_23 hf_24 hf_25 hf_26 hf_27 hn_28 hn_29 hn_30 hf_31 hn_32 hf_33 hf_34 hf_35 hf_36 hf_37 hn_38 hn_39 hn_40 hf_41 hn_42 hf_43 hf_44 hf_45 hf_46 hf_47 hn_48 hn_49 hf_50 hn_51 hf_52 hf_53 hn_54 hn_55 hn_56 hn_57 hn_58 hn_59 hn_60 hn_61 hn_62 hn_63 hf_64 hn_65 hf_66 hf_67 hf_68 hf_69 hf_70 hf_71 hn_72 hn_73 hn_74 hn_75 hn_76 hn_77 hn_78 hn_79 hn_80 hn_81 hf_82 hn_83 hf_84 hf_85 hf_86 hf_87 hf_88 hn_89 hn_90 hn_91 hn_92 hn_93 hn_94 hn_95 hn_96 hn_97 hn_98 hf_99 hn_100 hf_101 hf_102 hf_103 hf_104 hf_105 hn_106 hf_107 hn_108 hf_109 hf_110 hn_111 hn_112 hn_113 hn_114 hn_115 hn_116 hn_117 hn_118 hn_119) lk_X11_189 yd_X4_copyFrom hT h_3 rfl (by decide) hS (fun q => (fun h => h.elim (fun h => (Or.inl h)) (fun h => h.elim (fun h => (Or.inr (Or.inl h))) (fun h => h.elim (fun h => (Or.inr (Or.inr (Or.inl h)))) (fun h => h.elim (fun h => (Or.inr (Or.inr (Or.inr (Or.inl h))))) (fun h => h.elim (fun h => (Or.inr (Or.inr (Or.inr (Or.inr (Or.inl h)))))) (fun h => h.elim (fun h => (Or.inr (Or.inr (Or.inr (Or.inr (Or.inr (Or.inl h))))))) (fun h => h.elim (fun h => (Or.inr (Or.inr (Or.inr (Or.inr (Or.inr (Or.inr (Or.inl h)))))))) (fun h => h.elim (fun h => (Or.inr (Or.inr (Or.inr (Or.inr (Or.inr (Or.inr (Or.inr (Or.inl h))))))))) (fun h => h.elim (fun h => (Or.inr (Or.inr (Or.inr (Or.inr (Or.inr (Or.inr (Or.inr (Or.inr (Or.inl h)))))))))) (fun h => h.elim (fun h => (Or.inr (Or.inr (Or.inr (Or.inr (Or.inr (Or.inr (Or.inr (Or.inr (Or.inr (Or.inl h))))))))))) (fun h => h.elim (fun h => (Or.inr (Or.inr (Or.inr (Or.inr (Or.inr (Or.inr (Or.inr (Or.inr (Or.inr (Or.inr (Or.inl h)))))))))))) (fun h => h.elim (fun h => (Or.inr (Or.inr (Or.inr (Or.inr (Or.inr (Or.inr (Or.inr (Or.inr (Or.inr (Or.inr (Or.inr (Or.inl h))))))))))))) (fun h => h.elim (fun h => (Or.inr (Or.inr (Or.inr (Or.inr (Or.inr (Or.inr (Or.inr (Or.inr (Or.inr (Or.inr (Or.inr (Or.inr (Or.inl h)))))))))))))) (fun h => h.elim (fun h => (Or.inr (Or.inr (Or.inr (Or.inr (Or.inr (Or.inr (Or.inr (Or.inr (Or.inr (Or.inr (Or.inr (Or.inr (Or.inr (Or.inl h))))))))))))))) (fun h => h.elim (fun h => (Or.inr (Or.inr (Or.inr (Or.inr (Or.inr (Or.inr (Or.inr (Or.inr (Or.inr (Or.inr (Or.inr (Or.inr (Or.inr (Or.inr (Or.inl h)))))))))))))))) (fun h => h.elim (fun h => (Or.inr (Or.inr (Or.inr (Or.inr (Or.inr (Or.inr (Or.inr (Or.inr (Or.inr (Or.inr (Or.inr (Or.inr (Or.inr (Or.inr (Or.inr (Or.inl h))))))))))))))))) (fun h => h.elim (fun h => (Or.inr (Or.inr (Or.inr (Or.inr (Or.inr (Or.inr (Or.inr (Or.inr (Or.inr (Or.inr (Or.inr (Or.inr (Or.inr (Or.inr (Or.inr (Or.inr (Or.inl h)))))))))))))))))) (fun h => (Or.inr (Or.inr (Or.inr (Or.inr (Or.inr (Or.inr (Or.inr (Or.inr (Or.inr (Or.inr (Or.inr (Or.inr (Or.inr (Or.inr (Or.inr (Or.inr (Or.inr h)))))))))))))))))))))))))))))))))))) ⟨by decide, by decide⟩ (Nat.le_of_ble_eq_true rfl) ⟨by decide, by decide⟩ rfl dX11_calm_19 (fun H_5 locs_5 p_5 hT_5 hk_5 hS_5 => ?_)
  have p_5 : fi D 1 4 H_5 (ρ (ρ a0 3) 0) = 5 ∧ fi D 1 3 H_5 (ρ (ρ a0 3) 0) = 100 ∧ fi D 1 2 H_5 (ρ (ρ a0 3) 0) = 250 ∧ fi D 1 1 H_5 (ρ (ρ a0 3) 0) = 12 ∧ fi D 1 0 H_5 (ρ (ρ a0 3) 0) = 4 ∧ fi D 10 5 H_5 (ρ (ρ a0 3) 1) = 0 ∧ fi D 10 4 H_5 (ρ (ρ a0 3) 1) = 0 ∧ fi D 10 3 H_5 (ρ (ρ a0 3) 1) = 0 ∧ fi D 10 2 H_5 (ρ (ρ a0 3) 1) = 0 ∧ fi D 0 0 H_5 (ρ (ρ a0 3) 2) = 0 ∧ fi D 7 0 H_5 (ρ (ρ (ρ a0 3) 3) 6) = 6 ∧ fi D 7 1 H_5 (ρ (ρ (ρ a0 3) 3) 6) = 0 ∧ fi D 7 2 H_5 (ρ (ρ (ρ a0 3) 3) 6) = 0 ∧ fi D 7 3 H_5 (ρ (ρ (ρ a0 3) 3) 6) = (-4) ∧ fi D 7 4 H_5 (ρ (ρ (ρ a0 3) 3) 6) = 0 ∧ fi D 7 5 H_5 (ρ (ρ (ρ a0 3) 3) 6) = 0 ∧ fi D 3 0 H_5 (ρ (ρ (ρ a0 3) 3) 5) = 0 ∧ fi D 3 1 H_5 (ρ (ρ (ρ a0 3) 3) 5) = 1 ∧ fi D 3 2 H_5 (ρ (ρ (ρ a0 3) 3) 5) = 13 ∧ fi D 3 3 H_5 (ρ (ρ (ρ a0 3) 3) 5) = (-4) ∧ fi D 3 4 H_5 (ρ (ρ (ρ a0 3) 3) 5) = 0 ∧ fl D 3 5 H_5 (ρ (ρ (ρ a0 3) 3) 5) = 0 ∧ fi D 5 0 H_5 (ρ (ρ (ρ a0 3) 3) 4) = 0 ∧ fi D 5 1 H_5 (ρ (ρ (ρ a0 3) 3) 4) = 0 ∧ fi D 5 2 H_5 (ρ (ρ (ρ a0 3) 3) 4) = 1 ∧ fi D 5 3 H_5 (ρ (ρ (ρ a0 3) 3) 4) = 0 ∧ fi D 5 4 H_5 (ρ (ρ (ρ a0 3) 3) 4) = 0 ∧ fi D 5 5 H_5 (ρ (ρ (ρ a0 3) 3) 4) = 0 ∧ fl D 5 6 H_5 (ρ (ρ (ρ a0 3) 3) 4) = 0 ∧ fi D 2 9 H_5 (ρ (ρ a0 3) 3) = 0 ∧ fi D 2 8 H_5 (ρ (ρ a0 3) 3) = 0 ∧ fi D 2 7 H_5 (ρ (ρ a0 3) 3) = 0 ∧ fi D 7 0 H_5 (ρ (ρ (ρ a0 3) 4) 6) = 6 ∧ fi D 7 1 H_5 (ρ (ρ (ρ a0 3) 4) 6) = 0 ∧ fi D 7 2 H_5 (ρ (ρ (ρ a0 3) 4) 6) = 0 ∧ fi D 7 3 H_5 (ρ (ρ (ρ a0 3) 4) 6) = (-4) ∧ fi D 7 4 H_5 (ρ (ρ (ρ a0 3) 4) 6) = 0 ∧ fi D 7 5 H_5 (ρ (ρ (ρ a0 3) 4) 6) = 0 ∧ fi D 3 0 H_5 (ρ (ρ (ρ a0 3) 4) 5) = 0 ∧ fi D 3 1 H_5 (ρ (ρ (ρ a0 3) 4) 5) = 1 ∧ fi D 3 2 H_5 (ρ (ρ (ρ a0 3) 4) 5) = 13 ∧ fi D 3 3 H_5 (ρ (ρ (ρ a0 3) 4) 5) = (-4) ∧ fi D 3 4 H_5 (ρ (ρ (ρ a0 3) 4) 5) = 0 ∧ fl D 3 5 H_5 (ρ (ρ (ρ a0 3) 4) 5) = 0 ∧ fi D 5 0 H_5 (ρ (ρ (ρ a0 3) 4) 4) = 0 ∧ fi D 5 1 H_5 (ρ (ρ (ρ a0 3) 4) 4) = 0 ∧ fi D 5 2 H_5 (ρ (ρ (ρ a0 3) 4) 4) = 1 ∧ fi D 5 3 H_5 (ρ (ρ (ρ a0 3) 4) 4) = 0 ∧ fi D 5 4 H_5 (ρ (ρ (ρ a0 3) 4) 4) = 0 ∧ fi D 5 5 H_5 (ρ (ρ (ρ a0 3) 4) 4) = 0 ∧ fl D 5 6 H_5 (ρ (ρ (ρ a0 3) 4) 4) = 0 ∧ fi D 2 9 H_5 (ρ (ρ a0 3) 4) = 0 ∧ fi D 2 8 H_5 (ρ (ρ a0 3) 4) = 0 ∧ fi D 2 7 H_5 (ρ (ρ a0 3) 4) = 0 ∧ fi D 4 7 H_5 (ρ a0 3) = (-4) ∧ fi D 4 8 H_5 (ρ a0 3) = (-4) ∧ fi D 4 9 H_5 (ρ a0 3) = 0 := p_5
  obtain ⟨p_5_0, p_5_1, p_5_2, p_5_3, p_5_4, p_5_5, p_5_6, p_5_7, p_5_8, p_5_9, p_5_10, p_5_11, p_5_12, p_5_13, p_5_14, p_5_15, p_5_16, p_5_17, p_5_18, p_5_19, p_5_20, p_5_21, p_5_22, p_5_23, p_5_24, p_5_25, p_5_26, p_5_27, p_5_28, p_5_29, p_5_30, p_5_31, p_5_32, p_5_33, p_5_34, p_5_35, p_5_36, p_5_37, p_5_38, p_5_39, p_5_40, p_5_41, p_5_42, p_5_43, p_5_44, p_5_45, p_5_46, p_5_47, p_5_48, p_5_49, p_5_50, p_5_51, p_5_52, p_5_53, p_5_54, p_5_55, p_5_56⟩ := p_5
  refine lv_iconst (v := 0) hx hb dX11_calm_22 (by decide) ?_
  refine lv_istore_n (lv' := [(2, .int 0), (0, .ref a0), (1, .int 2)]) hx hb dX11_calm_23 rfl hl (by decide) rfl (fun ls hl => ?_)
  refine lv_iload_n hx hb dX11_calm_24 rfl (lv_at hl 0 rfl) ?_
  refine lv_sipush (v := 300) hx hb dX11_calm_25 (by decide) ?_
  refine lv_icmp_ge (tgt := 89) hx hb dX11_calm_28 (by decide) (fun c_6 => absurd c_6 (by decide)) (fun c_6 => ?_)
  refine lv_aload_n hx hb dX11_calm_31 rfl (lv_at hl 1 rfl) ?_
  refine gf_X11_30 E hT_5 hW ha0 dX11_calm_32 (fun h_7 => ?_)
  refine th_Vi (As := []) (rest := []) E hml hl.1 (c_X4_isBusy l D cI cS τ ρ hW H_5 hT_5 (ρ a0 3) h_3 p_5_8 p_5_30 p_5_31 p_5_52 p_5_53) lk_X11_193 yd_X4_isBusy hT_5 h_3 rfl (by decide) hS_5 (fun _ h => h.elim) ⟨by decide, by decide⟩ (Nat.le_of_ble_eq_true rfl) ⟨by decide, by decide⟩ rfl dX11_calm_35 (fun r_8 H_8 locs_8 p_8 hT_8 hk_8 hS_8 => ?_)
  have p_8 : H_5 = H_8 ∧ 0 = r_8 := p_8
  obtain ⟨rfl, rfl⟩ := p_8
  refine lv_if_eq (tgt := 89) hx hb dX11_calm_38 (by decide) (fun c_9 => ?_) (fun c_9 => absurd (by decide) c_9)
  refine lv_iload_n hx hb dX11_calm_89 rfl (lv_at hl 2 rfl) ?_
  refine lv_tableIn (tgt := 137) hx hb dX11_calm_90 (by decide) (by decide) rfl (by decide) ?_
  refine lv_aload_n hx hb dX11_calm_137 rfl (lv_at hl 1 rfl) ?_
  refine gf_X11_30 E hT_8 hW ha0 dX11_calm_138 (fun h_10 => ?_)
  refine gf_X11_200 E hT_8 hW h_3 dX11_calm_141 (fun h_11 => ?_)
  refine gf_X11_72 E hT_8 (hW _ 4 4 h_3 (by decide) (by decide) (by decide)) dX11_calm_144 ?_
  refine th_topi (y := 0) p_5_53 ?_
  exact th_iret E hr hlk hs hT_8 hS_8 ⟨rfl, p_5_56, p_5_55, p_5_54, p_5_53, p_5_52, p_5_51, p_5_50, p_5_49, p_5_48, p_5_47, p_5_46, p_5_45, p_5_44, p_5_43, p_5_42, p_5_41, p_5_40, p_5_39, p_5_38, p_5_37, p_5_36, p_5_35, p_5_34, p_5_33, p_5_32, p_5_31, p_5_30, p_5_29, p_5_28, p_5_27, p_5_26, p_5_25, p_5_24, p_5_23, p_5_22, p_5_21, p_5_20, p_5_19, p_5_18, p_5_17, p_5_16, p_5_15, p_5_14, p_5_13, p_5_12, p_5_11, p_5_10, p_5_9, p_5_8, p_5_7, p_5_6, p_5_5, p_5_4, p_5_3, p_5_2, p_5_1, p_5_0⟩ dX11_calm_147
set_option maxHeartbeats 4000000 in
set_option maxRecDepth 100000 in
/-- StreamEnds.calm -/
theorem c_X11_calm_v5 (l : Launch) (D : va_G) (cI cS : ClassId) (τ : Nat → Option Nat) (ρ : Nat → Nat → Nat) (hW : WF τ ρ) (H : Heap) (hT : TH D cI cS τ ρ H) (a0 : Nat) (ha0 : τ a0 = some 11) (hf_1 : fi D 1 0 H (ρ (ρ a0 2) 0) = 4) (hn_2 : ρ (ρ a0 2) 0 ≠ ρ (ρ a0 3) 0) (hf_3 : fi D 1 1 H (ρ (ρ a0 2) 0) = 12) (hf_4 : fi D 1 2 H (ρ (ρ a0 2) 0) = 250) (hf_5 : fi D 1 3 H (ρ (ρ a0 2) 0) = 100) (hf_6 : fi D 1 4 H (ρ (ρ a0 2) 0) = 5) (hf_7 : fi D 10 2 H (ρ (ρ a0 2) 1) = 0) (hn_8 : ρ (ρ a0 2) 1 ≠ ρ (ρ a0 3) 1) (hf_9 : fi D 10 3 H (ρ (ρ a0 2) 1) = 0) (hf_10 : fi D 10 4 H (ρ (ρ a0 2) 1) = 0) (hf_11 : fi D 10 5 H (ρ (ρ a0 2) 1) = 0) (hf_12 : fi D 0 0 H (ρ (ρ a0 2) 2) = 0) (hf_13 : fi D 2 7 H (ρ (ρ a0 2) 3) = 0) (hn_14 : ρ (ρ a0 2) 3 ≠ ρ (ρ a0 3) 3) (hf_15 : fi D 2 8 H (ρ (ρ a0 2) 3) = 0) (hf_16 : fi D 2 9 H (ρ (ρ a0 2) 3) = 0) (hn_17 : ρ (ρ (ρ a0 2) 3) 4 ≠ ρ (ρ a0 3) 2) (hn_18 : ρ (ρ (ρ a0 2) 3) 4 ≠ ρ (ρ a0 3) 1) (hn_19 : ρ (ρ (ρ a0 2) 3) 4 ≠ ρ (ρ a0 3) 0) (hf_20 : fi D 5 0 H (ρ (ρ (ρ a0 2) 3) 4) = 0) (hn_21 : ρ (ρ (ρ a0 2) 3) 4 ≠ ρ (ρ (ρ a0 3) 3) 4) (hf_22 : fi D 5 1 H (ρ (ρ (ρ a0 2) 3) 4) = 0) (hf_23 : fi D 5 2 H (ρ (ρ (ρ a0 2) 3) 4) = 1) (hf_24 : fi D 5 3 H (ρ (ρ (ρ a0 2) 3) 4) = 0) (hf_25 : fi D 5 4 H (ρ (ρ (ρ a0 2) 3) 4) = 0) (hf_26 : fi D 5 5 H (ρ (ρ (ρ a0 2) 3) 4) = 0) (hf_27 : fl D 5 6 H (ρ (ρ (ρ a0 2) 3) 4) = 0) (hn_28 : ρ (ρ (ρ a0 2) 3) 5 ≠ ρ (ρ a0 3) 2) (hn_29 : ρ (ρ (ρ a0 2) 3) 5 ≠ ρ (ρ a0 3) 1) (hn_30 : ρ (ρ (ρ a0 2) 3) 5 ≠ ρ (ρ a0 3) 0) (hf_31 : fi D 3 0 H (ρ (ρ (ρ a0 2) 3) 5) = 0) (hn_32 : ρ (ρ (ρ a0 2) 3) 5 ≠ ρ (ρ (ρ a0 3) 3) 5) (hf_33 : fi D 3 1 H (ρ (ρ (ρ a0 2) 3) 5) = 1) (hf_34 : fi D 3 2 H (ρ (ρ (ρ a0 2) 3) 5) = 13) (hf_35 : fi D 3 3 H (ρ (ρ (ρ a0 2) 3) 5) = (-4)) (hf_36 : fi D 3 4 H (ρ (ρ (ρ a0 2) 3) 5) = 0) (hf_37 : fl D 3 5 H (ρ (ρ (ρ a0 2) 3) 5) = 0) (hn_38 : ρ (ρ (ρ a0 2) 3) 6 ≠ ρ (ρ a0 3) 2) (hn_39 : ρ (ρ (ρ a0 2) 3) 6 ≠ ρ (ρ a0 3) 1) (hn_40 : ρ (ρ (ρ a0 2) 3) 6 ≠ ρ (ρ a0 3) 0) (hf_41 : fi D 7 0 H (ρ (ρ (ρ a0 2) 3) 6) = 6) (hn_42 : ρ (ρ (ρ a0 2) 3) 6 ≠ ρ (ρ (ρ a0 3) 3) 6) (hf_43 : fi D 7 1 H (ρ (ρ (ρ a0 2) 3) 6) = 0) (hf_44 : fi D 7 2 H (ρ (ρ (ρ a0 2) 3) 6) = 0) (hf_45 : fi D 7 3 H (ρ (ρ (ρ a0 2) 3) 6) = (-4)) (hf_46 : fi D 7 4 H (ρ (ρ (ρ a0 2) 3) 6) = 0) (hf_47 : fi D 7 5 H (ρ (ρ (ρ a0 2) 3) 6) = 0) (hn_48 : ρ (ρ (ρ (ρ a0 3) 3) 4) 7 ≠ ρ (ρ (ρ (ρ a0 3) 3) 5) 6) (hn_49 : ρ (ρ a0 2) 4 ≠ ρ (ρ a0 3) 3) (hf_50 : fi D 2 7 H (ρ (ρ a0 2) 4) = 0) (hn_51 : ρ (ρ a0 2) 4 ≠ ρ (ρ a0 3) 4) (hf_52 : fi D 2 8 H (ρ (ρ a0 2) 4) = 0) (hf_53 : fi D 2 9 H (ρ (ρ a0 2) 4) = 0) (hn_54 : ρ (ρ (ρ a0 2) 4) 4 ≠ ρ (ρ a0 3) 3) (hn_55 : ρ (ρ (ρ a0 2) 4) 4 ≠ ρ (ρ (ρ a0 3) 3) 4) (hn_56 : ρ (ρ (ρ a0 2) 4) 4 ≠ ρ (ρ (ρ (ρ a0 3) 3) 4) 7) (hn_57 : ρ (ρ (ρ a0 2) 4) 4 ≠ ρ (ρ (ρ a0 3) 3) 5) (hn_58 : ρ (ρ (ρ a0 2) 4) 4 ≠ ρ (ρ (ρ (ρ a0 3) 3) 5) 6) (hn_59 : ρ (ρ (ρ a0 2) 4) 4 ≠ ρ (ρ (ρ a0 3) 3) 6) (hn_60 : ρ (ρ (ρ a0 2) 4) 4 ≠ ρ (ρ (ρ (ρ a0 3) 3) 6) 6) (hn_61 : ρ (ρ (ρ a0 2) 4) 4 ≠ ρ (ρ a0 3) 2) (hn_62 : ρ (ρ (ρ a0 2) 4) 4 ≠ ρ (ρ a0 3) 1) (hn_63 : ρ (ρ (ρ a0 2) 4) 4 ≠ ρ (ρ a0 3) 0) (hf_64 : fi D 5 0 H (ρ (ρ (ρ a0 2) 4) 4) = 0) (hn_65 : ρ (ρ (ρ a0 2) 4) 4 ≠ ρ (ρ (ρ a0 3) 4) 4) (hf_66 : fi D 5 1 H (ρ (ρ (ρ a0 2) 4) 4) = 0) (hf_67 : fi D 5 2 H (ρ (ρ (ρ a0 2) 4) 4) = 1) (hf_68 : fi D 5 3 H (ρ (ρ (ρ a0 2) 4) 4) = 0) (hf_69 : fi D 5 4 H (ρ (ρ (ρ a0 2) 4) 4) = 0) (hf_70 : fi D 5 5 H (ρ (ρ (ρ a0 2) 4) 4) = 0) (hf_71 : fl D 5 6 H (ρ (ρ (ρ a0 2) 4) 4) = 0) (hn_72 : ρ (ρ (ρ a0 2) 4) 5 ≠ ρ (ρ a0 3) 3) (hn_73 : ρ (ρ (ρ a0 2) 4) 5 ≠ ρ (ρ (ρ a0 3) 3) 4) (hn_74 : ρ (ρ (ρ a0 2) 4) 5 ≠ ρ (ρ (ρ (ρ a0 3) 3) 4) 7) (hn_75 : ρ (ρ (ρ a0 2) 4) 5 ≠ ρ (ρ (ρ a0 3) 3) 5) (hn_76 : ρ (ρ (ρ a0 2) 4) 5 ≠ ρ (ρ (ρ (ρ a0 3) 3) 5) 6) (hn_77 : ρ (ρ (ρ a0 2) 4) 5 ≠ ρ (ρ (ρ a0 3) 3) 6) (hn_78 : ρ (ρ (ρ a0 2) 4) 5 ≠ ρ (ρ (ρ (ρ a0 3) 3) 6) 6) (hn_79 : ρ (ρ (ρ a0 2) 4) 5 ≠ ρ (ρ a0 3) 2) (hn_80 : ρ (ρ (ρ a0 2) 4) 5 ≠ ρ (ρ a0 3) 1) (hn_81 : ρ (ρ (ρ a0 2) 4) 5 ≠ ρ (ρ a0 3) 0) (hf_82 : fi D 3 0 H (ρ (ρ (ρ a0 2) 4) 5) = 0) (hn_83 : ρ (ρ (ρ a0 2) 4) 5 ≠ ρ (ρ (ρ a0 3) 4) 5) (hf_84 : fi D 3 1 H (ρ (ρ (ρ a0 2) 4) 5) = 1) (hf_85 : fi D 3 2 H (ρ (ρ (ρ a0 2) 4) 5) = 13) (hf_86 : fi D 3 3 H (ρ (ρ (ρ a0 2) 4) 5) = (-4)) (hf_87 : fi D 3 4 H (ρ (ρ (ρ a0 2) 4) 5) = 0) (hf_88 : fl D 3 5 H (ρ (ρ (ρ a0 2) 4) 5) = 0) (hn_89 : ρ (ρ (ρ a0 2) 4) 6 ≠ ρ (ρ a0 3) 3) (hn_90 : ρ (ρ (ρ a0 2) 4) 6 ≠ ρ (ρ (ρ a0 3) 3) 4) (hn_91 : ρ (ρ (ρ a0 2) 4) 6 ≠ ρ (ρ (ρ (ρ a0 3) 3) 4) 7) (hn_92 : ρ (ρ (ρ a0 2) 4) 6 ≠ ρ (ρ (ρ a0 3) 3) 5) (hn_93 : ρ (ρ (ρ a0 2) 4) 6 ≠ ρ (ρ (ρ (ρ a0 3) 3) 5) 6) (hn_94 : ρ (ρ (ρ a0 2) 4) 6 ≠ ρ (ρ (ρ a0 3) 3) 6) (hn_95 : ρ (ρ (ρ a0 2) 4) 6 ≠ ρ (ρ (ρ (ρ a0 3) 3) 6) 6) (hn_96 : ρ (ρ (ρ a0 2) 4) 6 ≠ ρ (ρ a0 3) 2) (hn_97 : ρ (ρ (ρ a0 2) 4) 6 ≠ ρ (ρ a0 3) 1) (hn_98 : ρ (ρ (ρ a0 2) 4) 6 ≠ ρ (ρ a0 3) 0) (hf_99 : fi D 7 0 H (ρ (ρ (ρ a0 2) 4) 6) = 6) (hn_100 : ρ (ρ (ρ a0 2) 4) 6 ≠ ρ (ρ (ρ a0 3) 4) 6) (hf_101 : fi D 7 1 H (ρ (ρ (ρ a0 2) 4) 6) = 0) (hf_102 : fi D 7 2 H (ρ (ρ (ρ a0 2) 4) 6) = 0) (hf_103 : fi D 7 3 H (ρ (ρ (ρ a0 2) 4) 6) = (-4)) (hf_104 : fi D 7 4 H (ρ (ρ (ρ a0 2) 4) 6) = 0) (hf_105 : fi D 7 5 H (ρ (ρ (ρ a0 2) 4) 6) = 0) (hn_106 : ρ (ρ (ρ (ρ a0 3) 4) 4) 7 ≠ ρ (ρ (ρ (ρ a0 3) 4) 5) 6) (hf_107 : fi D 4 7 H (ρ a0 2) = (-4)) (hn_108 : ρ a0 2 ≠ ρ a0 3) (hf_109 : fi D 4 8 H (ρ a0 2) = (-4)) (hf_110 : fi D 4 9 H (ρ a0 2) = 0) (hn_111 : ρ (ρ (ρ a0 3) 3) 6 ≠ ρ (ρ (ρ a0 3) 4) 6) (hn_112 : ρ (ρ (ρ a0 3) 3) 5 ≠ ρ (ρ (ρ a0 3) 4) 5) (hn_113 : ρ (ρ (ρ a0 3) 3) 4 ≠ ρ (ρ (ρ a0 3) 4) 4) (hn_114 : ρ (ρ a0 3) 3 ≠ ρ (ρ a0 3) 4) (hn_115 : ρ (ρ (ρ (ρ a0 3) 3) 4) 7 ≠ ρ (ρ (ρ (ρ a0 3) 4) 4) 7) (hn_116 : ρ (ρ (ρ (ρ a0 3) 3) 4) 7 ≠ ρ (ρ (ρ (ρ a0 3) 4) 5) 6) (hn_117 : ρ (ρ (ρ (ρ a0 3) 3) 5) 6 ≠ ρ (ρ (ρ (ρ a0 3) 4) 4) 7) (hn_118 : ρ (ρ (ρ (ρ a0 3) 3) 5) 6 ≠ ρ (ρ (ρ (ρ a0 3) 4) 5) 6) (hn_119 : ρ (ρ (ρ (ρ a0 3) 3) 6) 6 ≠ ρ (ρ (ρ (ρ a0 3) 4) 6) 6) : MI l D cI cS τ ρ yX11_calm cX11_calm 5 (some .int) 4 103 H [.ref a0, .int 3] (fun (r : Int32) (u : Heap) => 0 = r ∧ fi D 4 9 u (ρ a0 3) = 0 ∧ fi D 4 8 u (ρ a0 3) = (-4) ∧ fi D 4 7 u (ρ a0 3) = (-4) ∧ fi D 2 7 u (ρ (ρ a0 3) 4) = 0 ∧ fi D 2 8 u (ρ (ρ a0 3) 4) = 0 ∧ fi D 2 9 u (ρ (ρ a0 3) 4) = 0 ∧ fl D 5 6 u (ρ (ρ (ρ a0 3) 4) 4) = 0 ∧ fi D 5 5 u (ρ (ρ (ρ a0 3) 4) 4) = 0 ∧ fi D 5 4 u (ρ (ρ (ρ a0 3) 4) 4) = 0 ∧ fi D 5 3 u (ρ (ρ (ρ a0 3) 4) 4) = 0 ∧ fi D 5 2 u (ρ (ρ (ρ a0 3) 4) 4) = 1 ∧ fi D 5 1 u (ρ (ρ (ρ a0 3) 4) 4) = 0 ∧ fi D 5 0 u (ρ (ρ (ρ a0 3) 4) 4) = 0 ∧ fl D 3 5 u (ρ (ρ (ρ a0 3) 4) 5) = 0 ∧ fi D 3 4 u (ρ (ρ (ρ a0 3) 4) 5) = 0 ∧ fi D 3 3 u (ρ (ρ (ρ a0 3) 4) 5) = (-4) ∧ fi D 3 2 u (ρ (ρ (ρ a0 3) 4) 5) = 13 ∧ fi D 3 1 u (ρ (ρ (ρ a0 3) 4) 5) = 1 ∧ fi D 3 0 u (ρ (ρ (ρ a0 3) 4) 5) = 0 ∧ fi D 7 5 u (ρ (ρ (ρ a0 3) 4) 6) = 0 ∧ fi D 7 4 u (ρ (ρ (ρ a0 3) 4) 6) = 0 ∧ fi D 7 3 u (ρ (ρ (ρ a0 3) 4) 6) = (-4) ∧ fi D 7 2 u (ρ (ρ (ρ a0 3) 4) 6) = 0 ∧ fi D 7 1 u (ρ (ρ (ρ a0 3) 4) 6) = 0 ∧ fi D 7 0 u (ρ (ρ (ρ a0 3) 4) 6) = 6 ∧ fi D 2 7 u (ρ (ρ a0 3) 3) = 0 ∧ fi D 2 8 u (ρ (ρ a0 3) 3) = 0 ∧ fi D 2 9 u (ρ (ρ a0 3) 3) = 0 ∧ fl D 5 6 u (ρ (ρ (ρ a0 3) 3) 4) = 0 ∧ fi D 5 5 u (ρ (ρ (ρ a0 3) 3) 4) = 0 ∧ fi D 5 4 u (ρ (ρ (ρ a0 3) 3) 4) = 0 ∧ fi D 5 3 u (ρ (ρ (ρ a0 3) 3) 4) = 0 ∧ fi D 5 2 u (ρ (ρ (ρ a0 3) 3) 4) = 1 ∧ fi D 5 1 u (ρ (ρ (ρ a0 3) 3) 4) = 0 ∧ fi D 5 0 u (ρ (ρ (ρ a0 3) 3) 4) = 0 ∧ fl D 3 5 u (ρ (ρ (ρ a0 3) 3) 5) = 0 ∧ fi D 3 4 u (ρ (ρ (ρ a0 3) 3) 5) = 0 ∧ fi D 3 3 u (ρ (ρ (ρ a0 3) 3) 5) = (-4) ∧ fi D 3 2 u (ρ (ρ (ρ a0 3) 3) 5) = 13 ∧ fi D 3 1 u (ρ (ρ (ρ a0 3) 3) 5) = 1 ∧ fi D 3 0 u (ρ (ρ (ρ a0 3) 3) 5) = 0 ∧ fi D 7 5 u (ρ (ρ (ρ a0 3) 3) 6) = 0 ∧ fi D 7 4 u (ρ (ρ (ρ a0 3) 3) 6) = 0 ∧ fi D 7 3 u (ρ (ρ (ρ a0 3) 3) 6) = (-4) ∧ fi D 7 2 u (ρ (ρ (ρ a0 3) 3) 6) = 0 ∧ fi D 7 1 u (ρ (ρ (ρ a0 3) 3) 6) = 0 ∧ fi D 7 0 u (ρ (ρ (ρ a0 3) 3) 6) = 6 ∧ fi D 0 0 u (ρ (ρ a0 3) 2) = 0 ∧ fi D 10 2 u (ρ (ρ a0 3) 1) = 0 ∧ fi D 10 3 u (ρ (ρ a0 3) 1) = 0 ∧ fi D 10 4 u (ρ (ρ a0 3) 1) = 0 ∧ fi D 10 5 u (ρ (ρ a0 3) 1) = 0 ∧ fi D 1 0 u (ρ (ρ a0 3) 0) = 4 ∧ fi D 1 1 u (ρ (ρ a0 3) 0) = 12 ∧ fi D 1 2 u (ρ (ρ a0 3) 0) = 250 ∧ fi D 1 3 u (ρ (ρ a0 3) 0) = 100 ∧ fi D 1 4 u (ρ (ρ a0 3) 0) = 5) (fun q => q = ρ (ρ a0 3) 0 ∨ q = ρ (ρ a0 3) 1 ∨ q = ρ (ρ a0 3) 2 ∨ q = ρ (ρ a0 3) 3 ∨ q = ρ (ρ (ρ a0 3) 3) 4 ∨ q = ρ (ρ (ρ (ρ a0 3) 3) 4) 7 ∨ q = ρ (ρ (ρ a0 3) 3) 5 ∨ q = ρ (ρ (ρ (ρ a0 3) 3) 5) 6 ∨ q = ρ (ρ (ρ a0 3) 3) 6 ∨ q = ρ (ρ (ρ (ρ a0 3) 3) 6) 6 ∨ q = ρ (ρ a0 3) 4 ∨ q = ρ (ρ (ρ a0 3) 4) 4 ∨ q = ρ (ρ (ρ (ρ a0 3) 4) 4) 7 ∨ q = ρ (ρ (ρ a0 3) 4) 5 ∨ q = ρ (ρ (ρ (ρ a0 3) 4) 5) 6 ∨ q = ρ (ρ (ρ a0 3) 4) 6 ∨ q = ρ (ρ (ρ (ρ a0 3) 4) 6) 6 ∨ q = ρ a0 3) := by
  refine MI.of (by decide) (Nat.le_of_ble_eq_true rfl) ?_
  intro p e s m args below meth c E hml hr hlk hs ls hl
  have hx := E.1
  have hb := E.2.1
  have hown := E.2.2.1
  have hts := E.2.2.2.1
  have hS : SS (fun q => q = ρ (ρ a0 3) 0 ∨ q = ρ (ρ a0 3) 1 ∨ q = ρ (ρ a0 3) 2 ∨ q = ρ (ρ a0 3) 3 ∨ q = ρ (ρ (ρ a0 3) 3) 4 ∨ q = ρ (ρ (ρ (ρ a0 3) 3) 4) 7 ∨ q = ρ (ρ (ρ a0 3) 3) 5 ∨ q = ρ (ρ (ρ (ρ a0 3) 3) 5) 6 ∨ q = ρ (ρ (ρ a0 3) 3) 6 ∨ q = ρ (ρ (ρ (ρ a0 3) 3) 6) 6 ∨ q = ρ (ρ a0 3) 4 ∨ q = ρ (ρ (ρ a0 3) 4) 4 ∨ q = ρ (ρ (ρ (ρ a0 3) 4) 4) 7 ∨ q = ρ (ρ (ρ a0 3) 4) 5 ∨ q = ρ (ρ (ρ (ρ a0 3) 4) 5) 6 ∨ q = ρ (ρ (ρ a0 3) 4) 6 ∨ q = ρ (ρ (ρ (ρ a0 3) 4) 6) 6 ∨ q = ρ a0 3) H H [] := SS.rf
  have hl : lv_has ls 5 [(0, .ref a0), (1, .int 3)] := hl
  refine lv_iload_n hx hb dX11_calm_0 rfl (lv_at hl 1 rfl) ?_
  refine lv_if_lt (tgt := 9) hx hb dX11_calm_1 (by decide) (fun c_1 => absurd c_1 (by decide)) (fun c_1 => ?_)
  refine lv_iload_n hx hb dX11_calm_4 rfl (lv_at hl 1 rfl) ?_
  refine lv_iconst (v := 5) hx hb dX11_calm_5 (by decide) ?_
  refine lv_icmp_le (tgt := 11) hx hb dX11_calm_6 (by decide) (fun c_2 => ?_) (fun c_2 => absurd (by decide) c_2)
  refine lv_aload_n hx hb dX11_calm_11 rfl (lv_at hl 0 rfl) ?_
  refine gf_X11_30 E hT hW ha0 dX11_calm_12 (fun h_3 => ?_)
  refine lv_aload_n hx hb dX11_calm_15 rfl (lv_at hl 0 rfl) ?_
  refine gf_X11_26 E hT hW ha0 dX11_calm_16 (fun h_4 => ?_)
  refine th_Vv (As := [.ref (ρ a0 2)]) (rest := []) E hml hl.1 (c_X4_copyFrom l D cI cS τ ρ hW H hT (ρ a0 3) (ρ a0 2) h_3 h_4 hf_1 hn_2 hf_3 hf_4 hf_5 hf_6 hf_7 hn_8 hf_9 hf_10 hf_11 hf_12 hf_13 hn_14 hf_15 hf_16 hn_17 hn_18 hn_19 hf_20 hn_21 hf_22 hf_23 hf_24 hf_25 hf_26 hf_27 hn_28 hn_29 hn_30 hf_31 hn_32 hf_33 hf_34 hf_35 hf_36 hf_37 hn_38 hn_39 hn_40 hf_41 hn_42 hf_43 hf_44 hf_45 hf_46 hf_47 hn_48 hn_49 hf_50 hn_51 hf_52 hf_53 hn_54 hn_55 hn_56 hn_57 hn_58 hn_59 hn_60 hn_61 hn_62 hn_63 hf_64 hn_65 hf_66 hf_67 hf_68 hf_69 hf_70 hf_71 hn_72 hn_73 hn_74 hn_75 hn_76 hn_77 hn_78 hn_79 hn_80 hn_81 hf_82 hn_83 hf_84 hf_85 hf_86 hf_87 hf_88 hn_89 hn_90 hn_91 hn_92 hn_93 hn_94 hn_95 hn_96 hn_97 hn_98 hf_99 hn_100 hf_101 hf_102 hf_103 hf_104 hf_105 hn_106 hf_107 hn_108 hf_109 hf_110 hn_111 hn_112 hn_113 hn_114 hn_115 hn_116 hn_117 hn_118 hn_119) lk_X11_189 yd_X4_copyFrom hT h_3 rfl (by decide) hS (fun q => (fun h => h.elim (fun h => (Or.inl h)) (fun h => h.elim (fun h => (Or.inr (Or.inl h))) (fun h => h.elim (fun h => (Or.inr (Or.inr (Or.inl h)))) (fun h => h.elim (fun h => (Or.inr (Or.inr (Or.inr (Or.inl h))))) (fun h => h.elim (fun h => (Or.inr (Or.inr (Or.inr (Or.inr (Or.inl h)))))) (fun h => h.elim (fun h => (Or.inr (Or.inr (Or.inr (Or.inr (Or.inr (Or.inl h))))))) (fun h => h.elim (fun h => (Or.inr (Or.inr (Or.inr (Or.inr (Or.inr (Or.inr (Or.inl h)))))))) (fun h => h.elim (fun h => (Or.inr (Or.inr (Or.inr (Or.inr (Or.inr (Or.inr (Or.inr (Or.inl h))))))))) (fun h => h.elim (fun h => (Or.inr (Or.inr (Or.inr (Or.inr (Or.inr (Or.inr (Or.inr (Or.inr (Or.inl h)))))))))) (fun h => h.elim (fun h => (Or.inr (Or.inr (Or.inr (Or.inr (Or.inr (Or.inr (Or.inr (Or.inr (Or.inr (Or.inl h))))))))))) (fun h => h.elim (fun h => (Or.inr (Or.inr (Or.inr (Or.inr (Or.inr (Or.inr (Or.inr (Or.inr (Or.inr (Or.inr (Or.inl h)))))))))))) (fun h => h.elim (fun h => (Or.inr (Or.inr (Or.inr (Or.inr (Or.inr (Or.inr (Or.inr (Or.inr (Or.inr (Or.inr (Or.inr (Or.inl h))))))))))))) (fun h => h.elim (fun h => (Or.inr (Or.inr (Or.inr (Or.inr (Or.inr (Or.inr (Or.inr (Or.inr (Or.inr (Or.inr (Or.inr (Or.inr (Or.inl h)))))))))))))) (fun h => h.elim (fun h => (Or.inr (Or.inr (Or.inr (Or.inr (Or.inr (Or.inr (Or.inr (Or.inr (Or.inr (Or.inr (Or.inr (Or.inr (Or.inr (Or.inl h))))))))))))))) (fun h => h.elim (fun h => (Or.inr (Or.inr (Or.inr (Or.inr (Or.inr (Or.inr (Or.inr (Or.inr (Or.inr (Or.inr (Or.inr (Or.inr (Or.inr (Or.inr (Or.inl h)))))))))))))))) (fun h => h.elim (fun h => (Or.inr (Or.inr (Or.inr (Or.inr (Or.inr (Or.inr (Or.inr (Or.inr (Or.inr (Or.inr (Or.inr (Or.inr (Or.inr (Or.inr (Or.inr (Or.inl h))))))))))))))))) (fun h => h.elim (fun h => (Or.inr (Or.inr (Or.inr (Or.inr (Or.inr (Or.inr (Or.inr (Or.inr (Or.inr (Or.inr (Or.inr (Or.inr (Or.inr (Or.inr (Or.inr (Or.inr (Or.inl h)))))))))))))))))) (fun h => (Or.inr (Or.inr (Or.inr (Or.inr (Or.inr (Or.inr (Or.inr (Or.inr (Or.inr (Or.inr (Or.inr (Or.inr (Or.inr (Or.inr (Or.inr (Or.inr (Or.inr h)))))))))))))))))))))))))))))))))))) ⟨by decide, by decide⟩ (Nat.le_of_ble_eq_true rfl) ⟨by decide, by decide⟩ rfl dX11_calm_19 (fun H_5 locs_5 p_5 hT_5 hk_5 hS_5 => ?_)
  have p_5 : fi D 1 4 H_5 (ρ (ρ a0 3) 0) = 5 ∧ fi D 1 3 H_5 (ρ (ρ a0 3) 0) = 100 ∧ fi D 1 2 H_5 (ρ (ρ a0 3) 0) = 250 ∧ fi D 1 1 H_5 (ρ (ρ a0 3) 0) = 12 ∧ fi D 1 0 H_5 (ρ (ρ a0 3) 0) = 4 ∧ fi D 10 5 H_5 (ρ (ρ a0 3) 1) = 0 ∧ fi D 10 4 H_5 (ρ (ρ a0 3) 1) = 0 ∧ fi D 10 3 H_5 (ρ (ρ a0 3) 1) = 0 ∧ fi D 10 2 H_5 (ρ (ρ a0 3) 1) = 0 ∧ fi D 0 0 H_5 (ρ (ρ a0 3) 2) = 0 ∧ fi D 7 0 H_5 (ρ (ρ (ρ a0 3) 3) 6) = 6 ∧ fi D 7 1 H_5 (ρ (ρ (ρ a0 3) 3) 6) = 0 ∧ fi D 7 2 H_5 (ρ (ρ (ρ a0 3) 3) 6) = 0 ∧ fi D 7 3 H_5 (ρ (ρ (ρ a0 3) 3) 6) = (-4) ∧ fi D 7 4 H_5 (ρ (ρ (ρ a0 3) 3) 6) = 0 ∧ fi D 7 5 H_5 (ρ (ρ (ρ a0 3) 3) 6) = 0 ∧ fi D 3 0 H_5 (ρ (ρ (ρ a0 3) 3) 5) = 0 ∧ fi D 3 1 H_5 (ρ (ρ (ρ a0 3) 3) 5) = 1 ∧ fi D 3 2 H_5 (ρ (ρ (ρ a0 3) 3) 5) = 13 ∧ fi D 3 3 H_5 (ρ (ρ (ρ a0 3) 3) 5) = (-4) ∧ fi D 3 4 H_5 (ρ (ρ (ρ a0 3) 3) 5) = 0 ∧ fl D 3 5 H_5 (ρ (ρ (ρ a0 3) 3) 5) = 0 ∧ fi D 5 0 H_5 (ρ (ρ (ρ a0 3) 3) 4) = 0 ∧ fi D 5 1 H_5 (ρ (ρ (ρ a0 3) 3) 4) = 0 ∧ fi D 5 2 H_5 (ρ (ρ (ρ a0 3) 3) 4) = 1 ∧ fi D 5 3 H_5 (ρ (ρ (ρ a0 3) 3) 4) = 0 ∧ fi D 5 4 H_5 (ρ (ρ (ρ a0 3) 3) 4) = 0 ∧ fi D 5 5 H_5 (ρ (ρ (ρ a0 3) 3) 4) = 0 ∧ fl D 5 6 H_5 (ρ (ρ (ρ a0 3) 3) 4) = 0 ∧ fi D 2 9 H_5 (ρ (ρ a0 3) 3) = 0 ∧ fi D 2 8 H_5 (ρ (ρ a0 3) 3) = 0 ∧ fi D 2 7 H_5 (ρ (ρ a0 3) 3) = 0 ∧ fi D 7 0 H_5 (ρ (ρ (ρ a0 3) 4) 6) = 6 ∧ fi D 7 1 H_5 (ρ (ρ (ρ a0 3) 4) 6) = 0 ∧ fi D 7 2 H_5 (ρ (ρ (ρ a0 3) 4) 6) = 0 ∧ fi D 7 3 H_5 (ρ (ρ (ρ a0 3) 4) 6) = (-4) ∧ fi D 7 4 H_5 (ρ (ρ (ρ a0 3) 4) 6) = 0 ∧ fi D 7 5 H_5 (ρ (ρ (ρ a0 3) 4) 6) = 0 ∧ fi D 3 0 H_5 (ρ (ρ (ρ a0 3) 4) 5) = 0 ∧ fi D 3 1 H_5 (ρ (ρ (ρ a0 3) 4) 5) = 1 ∧ fi D 3 2 H_5 (ρ (ρ (ρ a0 3) 4) 5) = 13 ∧ fi D 3 3 H_5 (ρ (ρ (ρ a0 3) 4) 5) = (-4) ∧ fi D 3 4 H_5 (ρ (ρ (ρ a0 3) 4) 5) = 0 ∧ fl D 3 5 H_5 (ρ (ρ (ρ a0 3) 4) 5) = 0 ∧ fi D 5 0 H_5 (ρ (ρ (ρ a0 3) 4) 4) = 0 ∧ fi D 5 1 H_5 (ρ (ρ (ρ a0 3) 4) 4) = 0 ∧ fi D 5 2 H_5 (ρ (ρ (ρ a0 3) 4) 4) = 1 ∧ fi D 5 3 H_5 (ρ (ρ (ρ a0 3) 4) 4) = 0 ∧ fi D 5 4 H_5 (ρ (ρ (ρ a0 3) 4) 4) = 0 ∧ fi D 5 5 H_5 (ρ (ρ (ρ a0 3) 4) 4) = 0 ∧ fl D 5 6 H_5 (ρ (ρ (ρ a0 3) 4) 4) = 0 ∧ fi D 2 9 H_5 (ρ (ρ a0 3) 4) = 0 ∧ fi D 2 8 H_5 (ρ (ρ a0 3) 4) = 0 ∧ fi D 2 7 H_5 (ρ (ρ a0 3) 4) = 0 ∧ fi D 4 7 H_5 (ρ a0 3) = (-4) ∧ fi D 4 8 H_5 (ρ a0 3) = (-4) ∧ fi D 4 9 H_5 (ρ a0 3) = 0 := p_5
  obtain ⟨p_5_0, p_5_1, p_5_2, p_5_3, p_5_4, p_5_5, p_5_6, p_5_7, p_5_8, p_5_9, p_5_10, p_5_11, p_5_12, p_5_13, p_5_14, p_5_15, p_5_16, p_5_17, p_5_18, p_5_19, p_5_20, p_5_21, p_5_22, p_5_23, p_5_24, p_5_25, p_5_26, p_5_27, p_5_28, p_5_29, p_5_30, p_5_31, p_5_32, p_5_33, p_5_34, p_5_35, p_5_36, p_5_37, p_5_38, p_5_39, p_5_40, p_5_41, p_5_42, p_5_43, p_5_44, p_5_45, p_5_46, p_5_47, p_5_48, p_5_49, p_5_50, p_5_51, p_5_52, p_5_53, p_5_54, p_5_55, p_5_56⟩ := p_5
  refine lv_iconst (v := 0) hx hb dX11_calm_22 (by decide) ?_
  refine lv_istore_n (lv' := [(2, .int 0), (0, .ref a0), (1, .int 3)]) hx hb dX11_calm_23 rfl hl (by decide) rfl (fun ls hl => ?_)
  refine lv_iload_n hx hb dX11_calm_24 rfl (lv_at hl 0 rfl) ?_
  refine lv_sipush (v := 300) hx hb dX11_calm_25 (by decide) ?_
  refine lv_icmp_ge (tgt := 89) hx hb dX11_calm_28 (by decide) (fun c_6 => absurd c_6 (by decide)) (fun c_6 => ?_)
  refine lv_aload_n hx hb dX11_calm_31 rfl (lv_at hl 1 rfl) ?_
  refine gf_X11_30 E hT_5 hW ha0 dX11_calm_32 (fun h_7 => ?_)
  refine th_Vi (As := []) (rest := []) E hml hl.1 (c_X4_isBusy l D cI cS τ ρ hW H_5 hT_5 (ρ a0 3) h_3 p_5_8 p_5_30 p_5_31 p_5_52 p_5_53) lk_X11_193 yd_X4_isBusy hT_5 h_3 rfl (by decide) hS_5 (fun _ h => h.elim) ⟨by decide, by decide⟩ (Nat.le_of_ble_eq_true rfl) ⟨by decide, by decide⟩ rfl dX11_calm_35 (fun r_8 H_8 locs_8 p_8 hT_8 hk_8 hS_8 => ?_)
  have p_8 : H_5 = H_8 ∧ 0 = r_8 := p_8
  obtain ⟨rfl, rfl⟩ := p_8
  refine lv_if_eq (tgt := 89) hx hb dX11_calm_38 (by decide) (fun c_9 => ?_) (fun c_9 => absurd (by decide) c_9)
  refine lv_iload_n hx hb dX11_calm_89 rfl (lv_at hl 2 rfl) ?_
  refine lv_tableIn (tgt := 148) hx hb dX11_calm_90 (by decide) (by decide) rfl (by decide) ?_
  refine lv_aload_n hx hb dX11_calm_148 rfl (lv_at hl 1 rfl) ?_
  refine gf_X11_30 E hT_8 hW ha0 dX11_calm_149 (fun h_10 => ?_)
  refine gf_X11_196 E hT_8 hW h_3 dX11_calm_152 (fun h_11 => ?_)
  refine gf_X11_143 E hT_8 hW (hW _ 4 3 h_3 (by decide) (by decide) (by decide)) dX11_calm_155 (fun h_12 => ?_)
  refine th_Vi (As := []) (rest := []) E hml hl.1 (c_X3_consumable l D cI cS τ ρ hW H_5 hT_8 (ρ (ρ (ρ a0 3) 3) 5) (hW _ 2 5 (hW _ 4 3 h_3 (by decide) (by decide) (by decide)) (by decide) (by decide) (by decide)) p_5_19 p_5_17 p_5_16) lk_X11_147 yd_X3_consumable hT_8 (hW _ 2 5 (hW _ 4 3 h_3 (by decide) (by decide) (by decide)) (by decide) (by decide) (by decide)) rfl (by decide) hS_8 (fun _ h => h.elim) ⟨by decide, by decide⟩ (Nat.le_of_ble_eq_true rfl) ⟨by decide, by decide⟩ rfl dX11_calm_158 (fun r_13 H_13 locs_13 p_13 hT_13 hk_13 hS_13 => ?_)
  have p_13 : H_5 = H_13 ∧ 0 = r_13 := p_13
  obtain ⟨rfl, rfl⟩ := p_13
  exact th_iret E hr hlk hs hT_13 hS_13 ⟨rfl, p_5_56, p_5_55, p_5_54, p_5_53, p_5_52, p_5_51, p_5_50, p_5_49, p_5_48, p_5_47, p_5_46, p_5_45, p_5_44, p_5_43, p_5_42, p_5_41, p_5_40, p_5_39, p_5_38, p_5_37, p_5_36, p_5_35, p_5_34, p_5_33, p_5_32, p_5_31, p_5_30, p_5_29, p_5_28, p_5_27, p_5_26, p_5_25, p_5_24, p_5_23, p_5_22, p_5_21, p_5_20, p_5_19, p_5_18, p_5_17, p_5_16, p_5_15, p_5_14, p_5_13, p_5_12, p_5_11, p_5_10, p_5_9, p_5_8, p_5_7, p_5_6, p_5_5, p_5_4, p_5_3, p_5_2, p_5_1, p_5_0⟩ dX11_calm_161
set_option maxHeartbeats 4000000 in
set_option maxRecDepth 100000 in
/-- StreamEnds.calm -/
theorem c_X11_calm_v6 (l : Launch) (D : va_G) (cI cS : ClassId) (τ : Nat → Option Nat) (ρ : Nat → Nat → Nat) (hW : WF τ ρ) (H : Heap) (hT : TH D cI cS τ ρ H) (a0 : Nat) (ha0 : τ a0 = some 11) (hf_1 : fi D 1 0 H (ρ (ρ a0 2) 0) = 4) (hn_2 : ρ (ρ a0 2) 0 ≠ ρ (ρ a0 3) 0) (hf_3 : fi D 1 1 H (ρ (ρ a0 2) 0) = 12) (hf_4 : fi D 1 2 H (ρ (ρ a0 2) 0) = 250) (hf_5 : fi D 1 3 H (ρ (ρ a0 2) 0) = 100) (hf_6 : fi D 1 4 H (ρ (ρ a0 2) 0) = 5) (hf_7 : fi D 10 2 H (ρ (ρ a0 2) 1) = 0) (hn_8 : ρ (ρ a0 2) 1 ≠ ρ (ρ a0 3) 1) (hf_9 : fi D 10 3 H (ρ (ρ a0 2) 1) = 0) (hf_10 : fi D 10 4 H (ρ (ρ a0 2) 1) = 0) (hf_11 : fi D 10 5 H (ρ (ρ a0 2) 1) = 0) (hf_12 : fi D 0 0 H (ρ (ρ a0 2) 2) = 0) (hf_13 : fi D 2 7 H (ρ (ρ a0 2) 3) = 0) (hn_14 : ρ (ρ a0 2) 3 ≠ ρ (ρ a0 3) 3) (hf_15 : fi D 2 8 H (ρ (ρ a0 2) 3) = 0) (hf_16 : fi D 2 9 H (ρ (ρ a0 2) 3) = 0) (hn_17 : ρ (ρ (ρ a0 2) 3) 4 ≠ ρ (ρ a0 3) 2) (hn_18 : ρ (ρ (ρ a0 2) 3) 4 ≠ ρ (ρ a0 3) 1) (hn_19 : ρ (ρ (ρ a0 2) 3) 4 ≠ ρ (ρ a0 3) 0) (hf_20 : fi D 5 0 H (ρ (ρ (ρ a0 2) 3) 4) = 0) (hn_21 : ρ (ρ (ρ a0 2) 3) 4 ≠ ρ (ρ (ρ a0 3) 3) 4) (hf_22 : fi D 5 1 H (ρ (ρ (ρ a0 2) 3) 4) = 0) (hf_23 : fi D 5 2 H (ρ (ρ (ρ a0 2) 3) 4) = 1) (hf_24 : fi D 5 3 H (ρ (ρ (ρ a0 2) 3) 4) = 0) (hf_25 : fi D 5 4 H (ρ (ρ (ρ a0 2) 3) 4) = 0) (hf_26 : fi D 5 5 H (ρ (ρ (ρ a0 2) 3) 4) = 0) (hf_27 : fl D 5 6 H (ρ (ρ (ρ a0 2) 3) 4) = 0) (hn_28 : ρ (ρ (ρ a0 2) 3) 5 ≠ ρ (ρ a0 3) 2) (hn_29 : ρ (ρ (ρ a0 2) 3) 5 ≠ ρ (ρ a0 3) 1) (hn_30 : ρ (ρ (ρ a0 2) 3) 5 ≠ ρ (ρ a0 3) 0) (hf_31 : fi D 3 0 H (ρ (ρ (ρ a0 2) 3) 5) = 0) (hn_32 : ρ (ρ (ρ a0 2) 3) 5 ≠ ρ (ρ (ρ a0 3) 3) 5) (hf_33 : fi D 3 1 H (ρ (ρ (ρ a0 2) 3) 5) = 1) (hf_34 : fi D 3 2 H (ρ (ρ (ρ a0 2) 3) 5) = 13) (hf_35 : fi D 3 3 H (ρ (ρ (ρ a0 2) 3) 5) = (-4)) (hf_36 : fi D 3 4 H (ρ (ρ (ρ a0 2) 3) 5) = 0) (hf_37 : fl D 3 5 H (ρ (ρ (ρ a0 2) 3) 5) = 0) (hn_38 : ρ (ρ (ρ a0 2) 3) 6 ≠ ρ (ρ a0 3) 2) (hn_39 : ρ (ρ (ρ a0 2) 3) 6 ≠ ρ (ρ a0 3) 1) (hn_40 : ρ (ρ (ρ a0 2) 3) 6 ≠ ρ (ρ a0 3) 0) (hf_41 : fi D 7 0 H (ρ (ρ (ρ a0 2) 3) 6) = 6) (hn_42 : ρ (ρ (ρ a0 2) 3) 6 ≠ ρ (ρ (ρ a0 3) 3) 6) (hf_43 : fi D 7 1 H (ρ (ρ (ρ a0 2) 3) 6) = 0) (hf_44 : fi D 7 2 H (ρ (ρ (ρ a0 2) 3) 6) = 0) (hf_45 : fi D 7 3 H (ρ (ρ (ρ a0 2) 3) 6) = (-4)) (hf_46 : fi D 7 4 H (ρ (ρ (ρ a0 2) 3) 6) = 0) (hf_47 : fi D 7 5 H (ρ (ρ (ρ a0 2) 3) 6) = 0) (hn_48 : ρ (ρ (ρ (ρ a0 3) 3) 4) 7 ≠ ρ (ρ (ρ (ρ a0 3) 3) 5) 6) (hn_49 : ρ (ρ a0 2) 4 ≠ ρ (ρ a0 3) 3) (hf_50 : fi D 2 7 H (ρ (ρ a0 2) 4) = 0) (hn_51 : ρ (ρ a0 2) 4 ≠ ρ (ρ a0 3) 4) (hf_52 : fi D 2 8 H (ρ (ρ a0 2) 4) = 0) (hf_53 : fi D 2 9 H (ρ (ρ a0 2) 4) = 0) (hn_54 : ρ (ρ (ρ a0 2) 4) 4 ≠ ρ (ρ a0 3) 3) (hn_55 : ρ (ρ (ρ a0 2) 4) 4 ≠ ρ (ρ (ρ a0 3) 3) 4) (hn_56 : ρ (ρ (ρ a0 2) 4) 4 ≠ ρ (ρ (ρ (ρ a0 3) 3) 4) 7) (hn_57 : ρ (ρ (ρ a0 2) 4) 4 ≠ ρ (ρ (ρ a0 3) 3) 5) (hn_58 : ρ (ρ (ρ a0 2) 4) 4 ≠ ρ (ρ (ρ (ρ a0 3) 3) 5) 6) (hn_59 : ρ (ρ (ρ a0 2) 4) 4 ≠ ρ (ρ (ρ a0 3) 3) 6) (hn_60 : ρ (ρ (ρ a0 2) 4) 4 ≠ ρ (ρ (ρ (ρ a0 3) 3) 6) 6) (hn_61 : ρ (ρ (ρ a0 2) 4) 4 ≠ ρ (ρ a0 3) 2) (hn_62 : ρ (ρ (ρ a0 2) 4) 4 ≠ ρ (ρ a0 3) 1) (hn_63 : ρ (ρ (ρ a0 2) 4) 4 ≠ ρ (ρ a0 3) 0) (hf_64 : fi D 5 0 H (ρ (ρ (ρ a0 2) 4) 4) = 0) (hn_65 : ρ (ρ (ρ a0 2) 4) 4 ≠ ρ (ρ (ρ a0 3) 4) 4) (hf_66 : fi D 5 1 H (ρ (ρ (ρ a0 2) 4) 4) = 0) (hf_67 : fi D 5 2 H (ρ (ρ (ρ a0 2) 4) 4) = 1) (hf_68 : fi D 5 3 H (ρ (ρ (ρ a0 2) 4) 4) = 0) (hf_69 : fi D 5 4 H (ρ (ρ (ρ a0 2) 4) 4) = 0) (hf_70 : fi D 5 5 H (ρ (ρ (ρ a0 2) 4) 4) = 0) (hf_71 : fl D 5 6 H (ρ (ρ (ρ a0 2) 4) 4) = 0) (hn_72 : ρ (ρ (ρ a0 2) 4) 5 ≠ ρ (ρ a0 3) 3) (hn_73 : ρ (ρ (ρ a0 2) 4) 5 ≠ ρ (ρ (ρ a0 3) 3) 4) (hn_74 : ρ (ρ (ρ a0 2) 4) 5 ≠ ρ (ρ (ρ (ρ a0 3) 3) 4) 7) (hn_75 : ρ (ρ (ρ a0 2) 4) 5 ≠ ρ (ρ (ρ a0 3) 3) 5) (hn_76 : ρ (ρ (ρ a0 2) 4) 5 ≠ ρ (ρ (ρ (ρ a0 3) 3) 5) 6) (hn_77 : ρ (ρ (ρ a0 2) 4) 5 ≠ ρ (ρ (ρ a0 3) 3) 6) (hn_78 : ρ (ρ (ρ a0 2) 4) 5 ≠ ρ (ρ (ρ (ρ a0 3) 3) 6) 6) (hn_79 : ρ (ρ (ρ a0 2) 4) 5 ≠ ρ (ρ a0 3) 2) (hn_80 : ρ (ρ (ρ a0 2) 4) 5 ≠ ρ (ρ a0 3) 1) (hn_81 : ρ (ρ (ρ a0 2) 4) 5 ≠ ρ (ρ a0 3) 0) (hf_82 : fi D 3 0 H (ρ (ρ (ρ a0 2) 4) 5) = 0) (hn_83 : ρ (ρ (ρ a0 2) 4) 5 ≠ ρ (ρ (ρ a0 3) 4) 5) (hf_84 : fi D 3 1 H (ρ (ρ (ρ a0 2) 4) 5) = 1) (hf_85 : fi D 3 2 H (ρ (ρ (ρ a0 2) 4) 5) = 13) (hf_86 : fi D 3 3 H (ρ (ρ (ρ a0 2) 4) 5) = (-4)) (hf_87 : fi D 3 4 H (ρ (ρ (ρ a0 2) 4) 5) = 0) (hf_88 : fl D 3 5 H (ρ (ρ (ρ a0 2) 4) 5) = 0) (hn_89 : ρ (ρ (ρ a0 2) 4) 6 ≠ ρ (ρ a0 3) 3) (hn_90 : ρ (ρ (ρ a0 2) 4) 6 ≠ ρ (ρ (ρ a0 3) 3) 4) (hn_91 : ρ (ρ (ρ a0 2) 4) 6 ≠ ρ (ρ (ρ (ρ a0 3) 3) 4) 7) (hn_92 : ρ (ρ (ρ a0 2) 4) 6 ≠ ρ (ρ (ρ a0 3) 3) 5) (hn_93 : ρ (ρ (ρ a0 2) 4) 6 ≠ ρ (ρ (ρ (ρ a0 3) 3) 5) 6) (hn_94 : ρ (ρ (ρ a0 2) 4) 6 ≠ ρ (ρ (ρ a0 3) 3) 6) (hn_95 : ρ (ρ (ρ a0 2) 4) 6 ≠ ρ (ρ (ρ (ρ a0 3) 3) 6) 6) (hn_96 : ρ (ρ (ρ a0 2) 4) 6 ≠ ρ (ρ a0 3) 2) (hn_97 : ρ (ρ (ρ a0 2) 4) 6 ≠ ρ (ρ a0 3) 1) (hn_98 : ρ (ρ (ρ a0 2) 4) 6 ≠ ρ (ρ a0 3) 0) (hf_99 : fi D 7 0 H (ρ (ρ (ρ a0 2) 4) 6) = 6) (hn_100 : ρ (ρ (ρ a0 2) 4) 6 ≠ ρ (ρ (ρ a0 3) 4) 6) (hf_101 : fi D 7 1 H (ρ (ρ (ρ a0 2) 4) 6) = 0) (hf_102 : fi D 7 2 H (ρ (ρ (ρ a0 2) 4) 6) = 0) (hf_103 : fi D 7 3 H (ρ (ρ (ρ a0 2) 4) 6) = (-4)) (hf_104 : fi D 7 4 H (ρ (ρ (ρ a0 2) 4) 6) = 0) (hf_105 : fi D 7 5 H (ρ (ρ (ρ a0 2) 4) 6) = 0) (hn_106 : ρ (ρ (ρ (ρ a0 3) 4) 4) 7 ≠ ρ (ρ (ρ (ρ a0 3) 4) 5) 6) (hf_107 : fi D 4 7 H (ρ a0 2) = (-4)) (hn_108 : ρ a0 2 ≠ ρ a0 3) (hf_109 : fi D 4 8 H (ρ a0 2) = (-4)) (hf_110 : fi D 4 9 H (ρ a0 2) = 0) (hn_111 : ρ (ρ (ρ a0 3) 3) 6 ≠ ρ (ρ (ρ a0 3) 4) 6) (hn_112 : ρ (ρ (ρ a0 3) 3) 5 ≠ ρ (ρ (ρ a0 3) 4) 5) (hn_113 : ρ (ρ (ρ a0 3) 3) 4 ≠ ρ (ρ (ρ a0 3) 4) 4) (hn_114 : ρ (ρ a0 3) 3 ≠ ρ (ρ a0 3) 4) (hn_115 : ρ (ρ (ρ (ρ a0 3) 3) 4) 7 ≠ ρ (ρ (ρ (ρ a0 3) 4) 4) 7) (hn_116 : ρ (ρ (ρ (ρ a0 3) 3) 4) 7 ≠ ρ (ρ (ρ (ρ a0 3) 4) 5) 6) (hn_117 : ρ (ρ (ρ (ρ a0 3) 3) 5) 6 ≠ ρ (ρ (ρ (ρ a0 3) 4) 4) 7) (hn_118 : ρ (ρ (ρ (ρ a0 3) 3) 5) 6 ≠ ρ (ρ (ρ (ρ a0 3) 4) 5) 6) (hn_119 : ρ (ρ (ρ (ρ a0 3) 3) 6) 6 ≠ ρ (ρ (ρ (ρ a0 3) 4) 6) 6) : MI l D cI cS τ ρ yX11_calm cX11_calm 5 (some .int) 4 103 H [.ref a0, .int 4] (fun (r : Int32) (u : Heap) => 0 = r ∧ fi D 4 9 u (ρ a0 3) = 0 ∧ fi D 4 8 u (ρ a0 3) = (-4) ∧ fi D 4 7 u (ρ a0 3) = (-4) ∧ fi D 2 7 u (ρ (ρ a0 3) 4) = 0 ∧ fi D 2 8 u (ρ (ρ a0 3) 4) = 0 ∧ fi D 2 9 u (ρ (ρ a0 3) 4) = 0 ∧ fl D 5 6 u (ρ (ρ (ρ a0 3) 4) 4) = 0 ∧ fi D 5 5 u (ρ (ρ (ρ a0 3) 4) 4) = 0 ∧ fi D 5 4 u (ρ (ρ (ρ a0 3) 4) 4) = 0 ∧ fi D 5 3 u (ρ (ρ (ρ a0 3) 4) 4) = 0 ∧ fi D 5 2 u (ρ (ρ (ρ a0 3) 4) 4) = 1 ∧ fi D 5 1 u (ρ (ρ (ρ a0 3) 4) 4) = 0 ∧ fi D 5 0 u (ρ (ρ (ρ a0 3) 4) 4) = 0 ∧ fl D 3 5 u (ρ (ρ (ρ a0 3) 4) 5) = 0 ∧ fi D 3 4 u (ρ (ρ (ρ a0 3) 4) 5) = 0 ∧ fi D 3 3 u (ρ (ρ (ρ a0 3) 4) 5) = (-4) ∧ fi D 3 2 u (ρ (ρ (ρ a0 3) 4) 5) = 13 ∧ fi D 3 1 u (ρ (ρ (ρ a0 3) 4) 5) = 1 ∧ fi D 3 0 u (ρ (ρ (ρ a0 3) 4) 5) = 0 ∧ fi D 7 5 u (ρ (ρ (ρ a0 3) 4) 6) = 0 ∧ fi D 7 4 u (ρ (ρ (ρ a0 3) 4) 6) = 0 ∧ fi D 7 3 u (ρ (ρ (ρ a0 3) 4) 6) = (-4) ∧ fi D 7 2 u (ρ (ρ (ρ a0 3) 4) 6) = 0 ∧ fi D 7 1 u (ρ (ρ (ρ a0 3) 4) 6) = 0 ∧ fi D 7 0 u (ρ (ρ (ρ a0 3) 4) 6) = 6 ∧ fi D 2 7 u (ρ (ρ a0 3) 3) = 0 ∧ fi D 2 8 u (ρ (ρ a0 3) 3) = 0 ∧ fi D 2 9 u (ρ (ρ a0 3) 3) = 0 ∧ fl D 5 6 u (ρ (ρ (ρ a0 3) 3) 4) = 0 ∧ fi D 5 5 u (ρ (ρ (ρ a0 3) 3) 4) = 0 ∧ fi D 5 4 u (ρ (ρ (ρ a0 3) 3) 4) = 0 ∧ fi D 5 3 u (ρ (ρ (ρ a0 3) 3) 4) = 0 ∧ fi D 5 2 u (ρ (ρ (ρ a0 3) 3) 4) = 1 ∧ fi D 5 1 u (ρ (ρ (ρ a0 3) 3) 4) = 0 ∧ fi D 5 0 u (ρ (ρ (ρ a0 3) 3) 4) = 0 ∧ fl D 3 5 u (ρ (ρ (ρ a0 3) 3) 5) = 0 ∧ fi D 3 4 u (ρ (ρ (ρ a0 3) 3) 5) = 0 ∧ fi D 3 3 u (ρ (ρ (ρ a0 3) 3) 5) = (-4) ∧ fi D 3 2 u (ρ (ρ (ρ a0 3) 3) 5) = 13 ∧ fi D 3 1 u (ρ (ρ (ρ a0 3) 3) 5) = 1 ∧ fi D 3 0 u (ρ (ρ (ρ a0 3) 3) 5) = 0 ∧ fi D 7 5 u (ρ (ρ (ρ a0 3) 3) 6) = 0 ∧ fi D 7 4 u (ρ (ρ (ρ a0 3) 3) 6) = 0 ∧ fi D 7 3 u (ρ (ρ (ρ a0 3) 3) 6) = (-4) ∧ fi D 7 2 u (ρ (ρ (ρ a0 3) 3) 6) = 0 ∧ fi D 7 1 u (ρ (ρ (ρ a0 3) 3) 6) = 0 ∧ fi D 7 0 u (ρ (ρ (ρ a0 3) 3) 6) = 6 ∧ fi D 0 0 u (ρ (ρ a0 3) 2) = 0 ∧ fi D 10 2 u (ρ (ρ a0 3) 1) = 0 ∧ fi D 10 3 u (ρ (ρ a0 3) 1) = 0 ∧ fi D 10 4 u (ρ (ρ a0 3) 1) = 0 ∧ fi D 10 5 u (ρ (ρ a0 3) 1) = 0 ∧ fi D 1 0 u (ρ (ρ a0 3) 0) = 4 ∧ fi D 1 1 u (ρ (ρ a0 3) 0) = 12 ∧ fi D 1 2 u (ρ (ρ a0 3) 0) = 250 ∧ fi D 1 3 u (ρ (ρ a0 3) 0) = 100 ∧ fi D 1 4 u (ρ (ρ a0 3) 0) = 5) (fun q => q = ρ (ρ a0 3) 0 ∨ q = ρ (ρ a0 3) 1 ∨ q = ρ (ρ a0 3) 2 ∨ q = ρ (ρ a0 3) 3 ∨ q = ρ (ρ (ρ a0 3) 3) 4 ∨ q = ρ (ρ (ρ (ρ a0 3) 3) 4) 7 ∨ q = ρ (ρ (ρ a0 3) 3) 5 ∨ q = ρ (ρ (ρ (ρ a0 3) 3) 5) 6 ∨ q = ρ (ρ (ρ a0 3) 3) 6 ∨ q = ρ (ρ (ρ (ρ a0 3) 3) 6) 6 ∨ q = ρ (ρ a0 3) 4 ∨ q = ρ (ρ (ρ a0 3) 4) 4 ∨ q = ρ (ρ (ρ (ρ a0 3) 4) 4) 7 ∨ q = ρ (ρ (ρ a0 3) 4) 5 ∨ q = ρ (ρ (ρ (ρ a0 3) 4) 5) 6 ∨ q = ρ (ρ (ρ a0 3) 4) 6 ∨ q = ρ (ρ (ρ (ρ a0 3) 4) 6) 6 ∨ q = ρ a0 3) := by
  refine MI.of (by decide) (Nat.le_of_ble_eq_true rfl) ?_
  intro p e s m args below meth c E hml hr hlk hs ls hl
  have hx := E.1
  have hb := E.2.1
  have hown := E.2.2.1
  have hts := E.2.2.2.1
  have hS : SS (fun q => q = ρ (ρ a0 3) 0 ∨ q = ρ (ρ a0 3) 1 ∨ q = ρ (ρ a0 3) 2 ∨ q = ρ (ρ a0 3) 3 ∨ q = ρ (ρ (ρ a0 3) 3) 4 ∨ q = ρ (ρ (ρ (ρ a0 3) 3) 4) 7 ∨ q = ρ (ρ (ρ a0 3) 3) 5 ∨ q = ρ (ρ (ρ (ρ a0 3) 3) 5) 6 ∨ q = ρ (ρ (ρ a0 3) 3) 6 ∨ q = ρ (ρ (ρ (ρ a0 3) 3) 6) 6 ∨ q = ρ (ρ a0 3) 4 ∨ q = ρ (ρ (ρ a0 3) 4) 4 ∨ q = ρ (ρ (ρ (ρ a0 3) 4) 4) 7 ∨ q = ρ (ρ (ρ a0 3) 4) 5 ∨ q = ρ (ρ (ρ (ρ a0 3) 4) 5) 6 ∨ q = ρ (ρ (ρ a0 3) 4) 6 ∨ q = ρ (ρ (ρ (ρ a0 3) 4) 6) 6 ∨ q = ρ a0 3) H H [] := SS.rf
  have hl : lv_has ls 5 [(0, .ref a0), (1, .int 4)] := hl
  refine lv_iload_n hx hb dX11_calm_0 rfl (lv_at hl 1 rfl) ?_
  refine lv_if_lt (tgt := 9) hx hb dX11_calm_1 (by decide) (fun c_1 => absurd c_1 (by decide)) (fun c_1 => ?_)
  refine lv_iload_n hx hb dX11_calm_4 rfl (lv_at hl 1 rfl) ?_
  refine lv_iconst (v := 5) hx hb dX11_calm_5 (by decide) ?_
  refine lv_icmp_le (tgt := 11) hx hb dX11_calm_6 (by decide) (fun c_2 => ?_) (fun c_2 => absurd (by decide) c_2)
  refine lv_aload_n hx hb dX11_calm_11 rfl (lv_at hl 0 rfl) ?_
  refine gf_X11_30 E hT hW ha0 dX11_calm_12 (fun h_3 => ?_)
  refine lv_aload_n hx hb dX11_calm_15 rfl (lv_at hl 0 rfl) ?_
  refine gf_X11_26 E hT hW ha0 dX11_calm_16 (fun h_4 => ?_)
  refine th_Vv (As := [.ref (ρ a0 2)]) (rest := []) E hml hl.1 (c_X4_copyFrom l D cI cS τ ρ hW H hT (ρ a0 3) (ρ a0 2) h_3 h_4 hf_1 hn_2 hf_3 hf_4 hf_5 hf_6 hf_7 hn_8 hf_9 hf_10 hf_11 hf_12 hf_13 hn_14 hf_15 hf_16 hn_17 hn_18 hn_19 hf_20 hn_21 hf_22 hf_23 hf_24 hf_25 hf_26 hf_27 hn_28 hn_29 hn_30 hf_31 hn_32 hf_33 hf_34 hf_35 hf_36 hf_37 hn_38 hn_39 hn_40 hf_41 hn_42 hf_43 hf_44 hf_45 hf_46 hf_47 hn_48 hn_49 hf_50 hn_51 hf_52 hf_53 hn_54 hn_55 hn_56 hn_57 hn_58 hn_59 hn_60 hn_61 hn_62 hn_63 hf_64 hn_65 hf_66 hf_67 hf_68 hf_69 hf_70 hf_71 hn_72 hn_73 hn_74 hn_75 hn_76 hn_77 hn_78 hn_79 hn_80 hn_81 hf_82 hn_83 hf_84 hf_85 hf_86 hf_87 hf_88 hn_89 hn_90 hn_91 hn_92 hn_93 hn_94 hn_95 hn_96 hn_97 hn_98 hf_99 hn_100 hf_101 hf_102 hf_103 hf_104 hf_105 hn_106 hf_107 hn_108 hf_109 hf_110 hn_111 hn_112 hn_113 hn_114 hn_115 hn_116 hn_117 hn_118 hn_119) lk_X11_189 yd_X4_copyFrom hT h_3 rfl (by decide) hS (fun q => (fun h => h.elim (fun h => (Or.inl h)) (fun h => h.elim (fun h => (Or.inr (Or.inl h))) (fun h => h.elim (fun h => (Or.inr (Or.inr (Or.inl h)))) (fun h => h.elim (fun h => (Or.inr (Or.inr (Or.inr (Or.inl h))))) (fun h => h.elim (fun h => (Or.inr (Or.inr (Or.inr (Or.inr (Or.inl h)))))) (fun h => h.elim (fun h => (Or.inr (Or.inr (Or.inr (Or.inr (Or.inr (Or.inl h))))))) (fun h => h.elim (fun h => (Or.inr (Or.inr (Or.inr (Or.inr (Or.inr (Or.inr (Or.inl h)))))))) (fun h => h.elim (fun h => (Or.inr (Or.inr (Or.inr (Or.inr (Or.inr (Or.inr (Or.inr (Or.inl h))))))))) (fun h => h.elim (fun h => (Or.inr (Or.inr (Or.inr (Or.inr (Or.inr (Or.inr (Or.inr (Or.inr (Or.inl h)))))))))) (fun h => h.elim (fun h => (Or.inr (Or.inr (Or.inr (Or.inr (Or.inr (Or.inr (Or.inr (Or.inr (Or.inr (Or.inl h))))))))))) (fun h => h.elim (fun h => (Or.inr (Or.inr (Or.inr (Or.inr (Or.inr (Or.inr (Or.inr (Or.inr (Or.inr (Or.inr (Or.inl h)))))))))))) (fun h => h.elim (fun h => (Or.inr (Or.inr (Or.inr (Or.inr (Or.inr (Or.inr (Or.inr (Or.inr (Or.inr (Or.inr (Or.inr (Or.inl h))))))))))))) (fun h => h.elim (fun h => (Or.inr (Or.inr (Or.inr (Or.inr (Or.inr (Or.inr (Or.inr (Or.inr (Or.inr (Or.inr (Or.inr (Or.inr (Or.inl h)))))))))))))) (fun h => h.elim (fun h => (Or.inr (Or.inr (Or.inr (Or.inr (Or.inr (Or.inr (Or.inr (Or.inr (Or.inr (Or.inr (Or.inr (Or.inr (Or.inr (Or.inl h))))))))))))))) (fun h => h.elim (fun h => (Or.inr (Or.inr (Or.inr (Or.inr (Or.inr (Or.inr (Or.inr (Or.inr (Or.inr (Or.inr (Or.inr (Or.inr (Or.inr (Or.inr (Or.inl h)))))))))))))))) (fun h => h.elim (fun h => (Or.inr (Or.inr (Or.inr (Or.inr (Or.inr (Or.inr (Or.inr (Or.inr (Or.inr (Or.inr (Or.inr (Or.inr (Or.inr (Or.inr (Or.inr (Or.inl h))))))))))))))))) (fun h => h.elim (fun h => (Or.inr (Or.inr (Or.inr (Or.inr (Or.inr (Or.inr (Or.inr (Or.inr (Or.inr (Or.inr (Or.inr (Or.inr (Or.inr (Or.inr (Or.inr (Or.inr (Or.inl h)))))))))))))))))) (fun h => (Or.inr (Or.inr (Or.inr (Or.inr (Or.inr (Or.inr (Or.inr (Or.inr (Or.inr (Or.inr (Or.inr (Or.inr (Or.inr (Or.inr (Or.inr (Or.inr (Or.inr h)))))))))))))))))))))))))))))))))))) ⟨by decide, by decide⟩ (Nat.le_of_ble_eq_true rfl) ⟨by decide, by decide⟩ rfl dX11_calm_19 (fun H_5 locs_5 p_5 hT_5 hk_5 hS_5 => ?_)
  have p_5 : fi D 1 4 H_5 (ρ (ρ a0 3) 0) = 5 ∧ fi D 1 3 H_5 (ρ (ρ a0 3) 0) = 100 ∧ fi D 1 2 H_5 (ρ (ρ a0 3) 0) = 250 ∧ fi D 1 1 H_5 (ρ (ρ a0 3) 0) = 12 ∧ fi D 1 0 H_5 (ρ (ρ a0 3) 0) = 4 ∧ fi D 10 5 H_5 (ρ (ρ a0 3) 1) = 0 ∧ fi D 10 4 H_5 (ρ (ρ a0 3) 1) = 0 ∧ fi D 10 3 H_5 (ρ (ρ a0 3) 1) = 0 ∧ fi D 10 2 H_5 (ρ (ρ a0 3) 1) = 0 ∧ fi D 0 0 H_5 (ρ (ρ a0 3) 2) = 0 ∧ fi D 7 0 H_5 (ρ (ρ (ρ a0 3) 3) 6) = 6 ∧ fi D 7 1 H_5 (ρ (ρ (ρ a0 3) 3) 6) = 0 ∧ fi D 7 2 H_5 (ρ (ρ (ρ a0 3) 3) 6) = 0 ∧ fi D 7 3 H_5 (ρ (ρ (ρ a0 3) 3) 6) = (-4) ∧ fi D 7 4 H_5 (ρ (ρ (ρ a0 3) 3) 6) = 0 ∧ fi D 7 5 H_5 (ρ (ρ (ρ a0 3) 3) 6) = 0 ∧ fi D 3 0 H_5 (ρ (ρ (ρ a0 3) 3) 5) = 0 ∧ fi D 3 1 H_5 (ρ (ρ (ρ a0 3) 3) 5) = 1 ∧ fi D 3 2 H_5 (ρ (ρ (ρ a0 3) 3) 5) = 13 ∧ fi D 3 3 H_5 (ρ (ρ (ρ a0 3) 3) 5) = (-4) ∧ fi D 3 4 H_5 (ρ (ρ (ρ a0 3) 3) 5) = 0 ∧ fl D 3 5 H_5 (ρ (ρ (ρ a0 3) 3) 5) = 0 ∧ fi D 5 0 H_5 (ρ (ρ (ρ a0 3) 3) 4) = 0 ∧ fi D 5 1 H_5 (ρ (ρ (ρ a0 3) 3) 4) = 0 ∧ fi D 5 2 H_5 (ρ (ρ (ρ a0 3) 3) 4) = 1 ∧ fi D 5 3 H_5 (ρ (ρ (ρ a0 3) 3) 4) = 0 ∧ fi D 5 4 H_5 (ρ (ρ (ρ a0 3) 3) 4) = 0 ∧ fi D 5 5 H_5 (ρ (ρ (ρ a0 3) 3) 4) = 0 ∧ fl D 5 6 H_5 (ρ (ρ (ρ a0 3) 3) 4) = 0 ∧ fi D 2 9 H_5 (ρ (ρ a0 3) 3) = 0 ∧ fi D 2 8 H_5 (ρ (ρ a0 3) 3) = 0 ∧ fi D 2 7 H_5 (ρ (ρ a0 3) 3) = 0 ∧ fi D 7 0 H_5 (ρ (ρ (ρ a0 3) 4) 6) = 6 ∧ fi D 7 1 H_5 (ρ (ρ (ρ a0 3) 4) 6) = 0 ∧ fi D 7 2 H_5 (ρ (ρ (ρ a0 3) 4) 6) = 0 ∧ fi D 7 3 H_5 (ρ (ρ (ρ a0 3) 4) 6) = (-4) ∧ fi D 7 4 H_5 (ρ (ρ (ρ a0 3) 4) 6) = 0 ∧ fi D 7 5 H_5 (ρ (ρ (ρ a0 3) 4) 6) = 0 ∧ fi D 3 0 H_5 (ρ (ρ (ρ a0 3) 4) 5) = 0 ∧ fi D 3 1 H_5 (ρ (ρ (ρ a0 3) 4) 5) = 1 ∧ fi D 3 2 H_5 (ρ (ρ (ρ a0 3) 4) 5) = 13 ∧ fi D 3 3 H_5 (ρ (ρ (ρ a0 3) 4) 5) = (-4) ∧ fi D 3 4 H_5 (ρ (ρ (ρ a0 3) 4) 5) = 0 ∧ fl D 3 5 H_5 (ρ (ρ (ρ a0 3) 4) 5) = 0 ∧ fi D 5 0 H_5 (ρ (ρ (ρ a0 3) 4) 4) = 0 ∧ fi D 5 1 H_5 (ρ (ρ (ρ a0 3) 4) 4) = 0 ∧ fi D 5 2 H_5 (ρ (ρ (ρ a0 3) 4) 4) = 1 ∧ fi D 5 3 H_5 (ρ (ρ (ρ a0 3) 4) 4) = 0 ∧ fi D 5 4 H_5 (ρ (ρ (ρ a0 3) 4) 4) = 0 ∧ fi D 5 5 H_5 (ρ (ρ (ρ a0 3) 4) 4) = 0 ∧ fl D 5 6 H_5 (ρ (ρ (ρ a0 3) 4) 4) = 0 ∧ fi D 2 9 H_5 (ρ (ρ a0 3) 4) = 0 ∧ fi D 2 8 H_5 (ρ (ρ a0 3) 4) = 0 ∧ fi D 2 7 H_5 (ρ (ρ a0 3) 4) = 0 ∧ fi D 4 7 H_5 (ρ a0 3) = (-4) ∧ fi D 4 8 H_5 (ρ a0 3) = (-4) ∧ fi D 4 9 H_5 (ρ a0 3) = 0 := p_5
  obtain ⟨p_5_0, p_5_1, p_5_2, p_5_3, p_5_4, p_5_5, p_5_6, p_5_7, p_5_8, p_5_9, p_5_10, p_5_11, p_5_12, p_5_13, p_5_14, p_5_15, p_5_16, p_5_17, p_5_18, p_5_19, p_5_20, p_5_21, p_5_22, p_5_23, p_5_24, p_5_25, p_5_26, p_5_27, p_5_28, p_5_29, p_5_30, p_5_31, p_5_32, p_5_33, p_5_34, p_5_35, p_5_36, p_5_37, p_5_38, p_5_39, p_5_40, p_5_41, p_5_42, p_5_43, p_5_44, p_5_45, p_5_46, p_5_47, p_5_48, p_5_49, p_5_50, p_5_51, p_5_52, p_5_53, p_5_54, p_5_55, p_5_56⟩ := p_5
  refine lv_iconst (v := 0) hx hb dX11_calm_22 (by decide) ?_
  refine lv_istore_n (lv' := [(2, .int 0), (0, .ref a0), (1, .int 4)]) hx hb dX11_calm_23 rfl hl (by decide) rfl (fun ls hl => ?_)
  refine lv_iload_n hx hb dX11_calm_24 rfl (lv_at hl 0 rfl) ?_
  refine lv_sipush (v := 300) hx hb dX11_calm_25 (by decide) ?_
  refine lv_icmp_ge (tgt := 89) hx hb dX11_calm_28 (by decide) (fun c_6 => absurd c_6 (by decide)) (fun c_6 => ?_)
  refine lv_aload_n hx hb dX11_calm_31 rfl (lv_at hl 1 rfl) ?_
  refine gf_X11_30 E hT_5 hW ha0 dX11_calm_32 (fun h_7 => ?_)
  refine th_Vi (As := []) (rest := []) E hml hl.1 (c_X4_isBusy l D cI cS τ ρ hW H_5 hT_5 (ρ a0 3) h_3 p_5_8 p_5_30 p_5_31 p_5_52 p_5_53) lk_X11_193 yd_X4_isBusy hT_5 h_3 rfl (by decide) hS_5 (fun _ h => h.elim) ⟨by decide, by decide⟩ (Nat.le_of_ble_eq_true rfl) ⟨by decide, by decide⟩ rfl dX11_calm_35 (fun r_8 H_8 locs_8 p_8 hT_8 hk_8 hS_8 => ?_)
  have p_8 : H_5 = H_8 ∧ 0 = r_8 := p_8
  obtain ⟨rfl, rfl⟩ := p_8
  refine lv_if_eq (tgt := 89) hx hb dX11_calm_38 (by decide) (fun c_9 => ?_) (fun c_9 => absurd (by decide) c_9)
  refine lv_iload_n hx hb dX11_calm_89 rfl (lv_at hl 2 rfl) ?_
  refine lv_tableIn (tgt := 162) hx hb dX11_calm_90 (by decide) (by decide) rfl (by decide) ?_
  refine lv_aload_n hx hb dX11_calm_162 rfl (lv_at hl 1 rfl) ?_
  refine gf_X11_30 E hT_8 hW ha0 dX11_calm_163 (fun h_10 => ?_)
  refine gf_X11_200 E hT_8 hW h_3 dX11_calm_166 (fun h_11 => ?_)
  refine gf_X11_143 E hT_8 hW (hW _ 4 4 h_3 (by decide) (by decide) (by decide)) dX11_calm_169 (fun h_12 => ?_)
  refine th_Vi (As := []) (rest := []) E hml hl.1 (c_X3_consumable l D cI cS τ ρ hW H_5 hT_8 (ρ (ρ (ρ a0 3) 4) 5) (hW _ 2 5 (hW _ 4 4 h_3 (by decide) (by decide) (by decide)) (by decide) (by decide) (by decide)) p_5_41 p_5_39 p_5_38) lk_X11_147 yd_X3_consumable hT_8 (hW _ 2 5 (hW _ 4 4 h_3 (by decide) (by decide) (by decide)) (by decide) (by decide) (by decide)) rfl (by decide) hS_8 (fun _ h => h.elim) ⟨by decide, by decide⟩ (Nat.le_of_ble_eq_true rfl) ⟨by decide, by decide⟩ rfl dX11_calm_172 (fun r_13 H_13 locs_13 p_13 hT_13 hk_13 hS_13 => ?_)
  have p_13 : H_5 = H_13 ∧ 0 = r_13 := p_13
  obtain ⟨rfl, rfl⟩ := p_13
  exact th_iret E hr hlk hs hT_13 hS_13 ⟨rfl, p_5_56, p_5_55, p_5_54, p_5_53, p_5_52, p_5_51, p_5_50, p_5_49, p_5_48, p_5_47, p_5_46, p_5_45, p_5_44, p_5_43, p_5_42, p_5_41, p_5_40, p_5_39, p_5_38, p_5_37, p_5_36, p_5_35, p_5_34, p_5_33, p_5_32, p_5_31, p_5_30, p_5_29, p_5_28, p_5_27, p_5_26, p_5_25, p_5_24, p_5_23, p_5_22, p_5_21, p_5_20, p_5_19, p_5_18, p_5_17, p_5_16, p_5_15, p_5_14, p_5_13, p_5_12, p_5_11, p_5_10, p_5_9, p_5_8, p_5_7, p_5_6, p_5_5, p_5_4, p_5_3, p_5_2, p_5_1, p_5_0⟩ dX11_calm_175
set_option maxHeartbeats 4000000 in
set_option maxRecDepth 100000 in
/-- StreamEnds.calm -/
theorem c_X11_calm_v7 (l : Launch) (D : va_G) (cI cS : ClassId) (τ : Nat → Option Nat) (ρ : Nat → Nat → Nat) (hW : WF τ ρ) (H : Heap) (hT : TH D cI cS τ ρ H) (a0 : Nat) (ha0 : τ a0 = some 11) (hf_1 : fi D 1 0 H (ρ (ρ a0 2) 0) = 4) (hn_2 : ρ (ρ a0 2) 0 ≠ ρ (ρ a0 3) 0) (hf_3 : fi D 1 1 H (ρ (ρ a0 2) 0) = 12) (hf_4 : fi D 1 2 H (ρ (ρ a0 2) 0) = 250) (hf_5 : fi D 1 3 H (ρ (ρ a0 2) 0) = 100) (hf_6 : fi D 1 4 H (ρ (ρ a0 2) 0) = 5) (hf_7 : fi D 10 2 H (ρ (ρ a0 2) 1) = 0) (hn_8 : ρ (ρ a0 2) 1 ≠ ρ (ρ a0 3) 1) (hf_9 : fi D 10 3 H (ρ (ρ a0 2) 1) = 0) (hf_10 : fi D 10 4 H (ρ (ρ a0 2) 1) = 0) (hf_11 : fi D 10 5 H (ρ (ρ a0 2) 1) = 0) (hf_12 : fi D 0 0 H (ρ (ρ a0 2) 2) = 0) (hf_13 : fi D 2 7 H (ρ (ρ a0 2) 3) = 0) (hn_14 : ρ (ρ a0 2) 3 ≠ ρ (ρ a0 3) 3) (hf_15 : fi D 2 8 H (ρ (ρ a0 2) 3) = 0) (hf_16 : fi D 2 9 H (ρ (ρ a0 2) 3) = 0) (hn_17 : ρ (ρ (ρ a0 2) 3) 4 ≠ ρ (ρ a0 3) 2) (hn_18 : ρ (ρ (ρ a0 2) 3) 4 ≠ ρ (ρ a0 3) 1) (hn_19 : ρ (ρ (ρ a0 2) 3) 4 ≠ ρ (ρ a0 3) 0) (hf_20 : fi D 5 0 H (ρ (ρ (ρ a0 2) 3) 4) = 0) (hn_21 : ρ (ρ (ρ a0 2) 3) 4 ≠ ρ (ρ (ρ a0 3) 3) 4) (hf_22 : fi D 5 1 H (ρ (ρ (ρ a0 2) 3) 4) = 0) (hf_23 : fi D 5 2 H (ρ (ρ (ρ a0 2) 3) 4) = 1) (hf_24 : fi D 5 3 H (ρ (ρ (ρ a0 2) 3) 4) = 0) (hf_25 : fi D 5 4 H (ρ (ρ (ρ a0 2) 3) 4) = 0) (hf_26 : fi D 5 5 H (ρ (ρ (ρ a0 2) 3) 4) = 0) (hf_27 : fl D 5 6 H (ρ (ρ (ρ a0 2) 3) 4) = 0) (hn_28 : ρ (ρ (ρ a0 2) 3) 5 ≠ ρ (ρ a0 3) 2) (hn_29 : ρ (ρ (ρ a0 2) 3) 5 ≠ ρ (ρ a0 3) 1) (hn_30 : ρ (ρ (ρ a0 2) 3) 5 ≠ ρ (ρ a0 3) 0) (hf_31 : fi D 3 0 H (ρ (ρ (ρ a0 2) 3) 5) = 0) (hn_32 : ρ (ρ (ρ a0 2) 3) 5 ≠ ρ (ρ (ρ a0 3) 3) 5) (hf_33 : fi D 3 1 H (ρ (ρ (ρ a0 2) 3) 5) = 1) (hf_34 : fi D 3 2 H (ρ (ρ (ρ a0 2) 3) 5) = 13) (hf_35 : fi D 3 3 H (ρ (ρ (ρ a0 2) 3) 5) = (-4)) (hf_36 : fi D 3 4 H (ρ (ρ (ρ a0 2) 3) 5) = 0) (hf_37 : fl D 3 5 H (ρ (ρ (ρ a0 2) 3) 5) = 0) (hn_38 : ρ (ρ (ρ a0 2) 3) 6 ≠ ρ (ρ a0 3) 2) (hn_39 : ρ (ρ (ρ a0 2) 3) 6 ≠ ρ (ρ a0 3) 1) (hn_40 : ρ (ρ (ρ a0 2) 3) 6 ≠ ρ (ρ a0 3) 0) (hf_41 : fi D 7 0 H (ρ (ρ (ρ a0 2) 3) 6) = 6) (hn_42 : ρ (ρ (ρ a0 2) 3) 6 ≠ ρ (ρ (ρ a0 3) 3) 6) (hf_43 : fi D 7 1 H (ρ (ρ (ρ a0 2) 3) 6) = 0) (hf_44 : fi D 7 2 H (ρ (ρ (ρ a0 2) 3) 6) = 0) (hf_45 : fi D 7 3 H (ρ (ρ (ρ a0 2) 3) 6) = (-4)) (hf_46 : fi D 7 4 H (ρ (ρ (ρ a0 2) 3) 6) = 0) (hf_47 : fi D 7 5 H (ρ (ρ (ρ a0 2) 3) 6) = 0) (hn_48 : ρ (ρ (ρ (ρ a0 3) 3) 4) 7 ≠ ρ (ρ (ρ (ρ a0 3) 3) 5) 6) (hn_49 : ρ (ρ a0 2) 4 ≠ ρ (ρ a0 3) 3) (hf_50 : fi D 2 7 H (ρ (ρ a0 2) 4) = 0) (hn_51 : ρ (ρ a0 2) 4 ≠ ρ (ρ a0 3) 4) (hf_52 : fi D 2 8 H (ρ (ρ a0 2) 4) = 0) (hf_53 : fi D 2 9 H (ρ (ρ a0 2) 4) = 0) (hn_54 : ρ (ρ (ρ a0 2) 4) 4 ≠ ρ (ρ a0 3) 3) (hn_55 : ρ (ρ (ρ a0 2) 4) 4 ≠ ρ (ρ (ρ a0 3) 3) 4) (hn_56 : ρ (ρ (ρ a0 2) 4) 4 ≠ ρ (ρ (ρ (ρ a0 3) 3) 4) 7) (hn_57 : ρ (ρ (ρ a0 2) 4) 4 ≠ ρ (ρ (ρ a0 3) 3) 5) (hn_58 : ρ (ρ (ρ a0 2) 4) 4 ≠ ρ (ρ (ρ (ρ a0 3) 3) 5) 6) (hn_59 : ρ (ρ (ρ a0 2) 4) 4 ≠ ρ (ρ (ρ a0 3) 3) 6) (hn_60 : ρ (ρ (ρ a0 2) 4) 4 ≠ ρ (ρ (ρ (ρ a0 3) 3) 6) 6) (hn_61 : ρ (ρ (ρ a0 2) 4) 4 ≠ ρ (ρ a0 3) 2) (hn_62 : ρ (ρ (ρ a0 2) 4) 4 ≠ ρ (ρ a0 3) 1) (hn_63 : ρ (ρ (ρ a0 2) 4) 4 ≠ ρ (ρ a0 3) 0) (hf_64 : fi D 5 0 H (ρ (ρ (ρ a0 2) 4) 4) = 0) (hn_65 : ρ (ρ (ρ a0 2) 4) 4 ≠ ρ (ρ (ρ a0 3) 4) 4) (hf_66 : fi D 5 1 H (ρ (ρ (ρ a0 2) 4) 4) = 0) (hf_67 : fi D 5 2 H (ρ (ρ (ρ a0 2) 4) 4) = 1) (hf_68 : fi D 5 3 H (ρ (ρ (ρ a0 2) 4) 4) = 0) (hf_69 : fi D 5 4 H (ρ (ρ (ρ a0 2) 4) 4) = 0) (hf_70 : fi D 5 5 H (ρ (ρ (ρ a0 2) 4) 4) = 0) (hf_71 : fl D 5 6 H (ρ (ρ (ρ a0 2) 4) 4) = 0) (hn_72 : ρ (ρ (ρ a0 2) 4) 5 ≠ ρ (ρ a0 3) 3) (hn_73 : ρ (ρ (ρ a0 2) 4) 5 ≠ ρ (ρ (ρ a0 3) 3) 4) (hn_74 : ρ (ρ (ρ a0 2) 4) 5 ≠ ρ (ρ (ρ (ρ a0 3) 3) 4) 7) (hn_75 : ρ (ρ (ρ a0 2) 4) 5 ≠ ρ (ρ (ρ a0 3) 3) 5) (hn_76 : ρ (ρ (ρ a0 2) 4) 5 ≠ ρ (ρ (ρ (ρ a0 3) 3) 5) 6) (hn_77 : ρ (ρ (ρ a0 2) 4) 5 ≠ ρ (ρ (ρ a0 3) 3) 6) (hn_78 : ρ (ρ (ρ a0 2) 4) 5 ≠ ρ (ρ (ρ (ρ a0 3) 3) 6) 6) (hn_79 : ρ (ρ (ρ a0 2) 4) 5 ≠ ρ (ρ a0 3) 2) (hn_80 : ρ (ρ (ρ a0 2) 4) 5 ≠ ρ (ρ a0 3) 1) (hn_81 : ρ (ρ (ρ a0 2) 4) 5 ≠ ρ (ρ a0 3) 0) (hf_82 : fi D 3 0 H (ρ (ρ (ρ a0 2) 4) 5) = 0) (hn_83 : ρ (ρ (ρ a0 2) 4) 5 ≠ ρ (ρ (ρ a0 3) 4) 5) (hf_84 : fi D 3 1 H (ρ (ρ (ρ a0 2) 4) 5) = 1) (hf_85 : fi D 3 2 H (ρ (ρ (ρ a0 2) 4) 5) = 13) (hf_86 : fi D 3 3 H (ρ (ρ (ρ a0 2) 4) 5) = (-4)) (hf_87 : fi D 3 4 H (ρ (ρ (ρ a0 2) 4) 5) = 0) (hf_88 : fl D 3 5 H (ρ (ρ (ρ a0 2) 4) 5) = 0) (hn_89 : ρ (ρ (ρ a0 2) 4) 6 ≠ ρ (ρ a0 3) 3) (hn_90 : ρ (ρ (ρ a0 2) 4) 6 ≠ ρ (ρ (ρ a0 3) 3) 4) (hn_91 : ρ (ρ (ρ a0 2) 4) 6 ≠ ρ (ρ (ρ (ρ a0 3) 3) 4) 7) (hn_92 : ρ (ρ (ρ a0 2) 4) 6 ≠ ρ (ρ (ρ a0 3) 3) 5) (hn_93 : ρ (ρ (ρ a0 2) 4) 6 ≠ ρ (ρ (ρ (ρ a0 3) 3) 5) 6) (hn_94 : ρ (ρ (ρ a0 2) 4) 6 ≠ ρ (ρ (ρ a0 3) 3) 6) (hn_95 : ρ (ρ (ρ a0 2) 4) 6 ≠ ρ (ρ (ρ (ρ a0 3) 3) 6) 6) (hn_96 : ρ (ρ (ρ a0 2) 4) 6 ≠ ρ (ρ a0 3) 2) (hn_97 : ρ (ρ (ρ a0 2) 4) 6 ≠ ρ (ρ a0 3) 1) (hn_98 : ρ (ρ (ρ a0 2) 4) 6 ≠ ρ (ρ a0 3) 0) (hf_99 : fi D 7 0 H (ρ (ρ (ρ a0 2) 4) 6) = 6) (hn_100 : ρ (ρ (ρ a0 2) 4) 6 ≠ ρ (ρ (ρ a0 3) 4) 6) (hf_101 : fi D 7 1 H (ρ (ρ (ρ a0 2) 4) 6) = 0) (hf_102 : fi D 7 2 H (ρ (ρ (ρ a0 2) 4) 6) = 0) (hf_103 : fi D 7 3 H (ρ (ρ (ρ a0 2) 4) 6) = (-4)) (hf_104 : fi D 7 4 H (ρ (ρ (ρ a0 2) 4) 6) = 0) (hf_105 : fi D 7 5 H (ρ (ρ (ρ a0 2) 4) 6) = 0) (hn_106 : ρ (ρ (ρ (ρ a0 3) 4) 4) 7 ≠ ρ (ρ (ρ (ρ a0 3) 4) 5) 6) (hf_107 : fi D 4 7 H (ρ a0 2) = (-4)) (hn_108 : ρ a0 2 ≠ ρ a0 3) (hf_109 : fi D 4 8 H (ρ a0 2) = (-4)) (hf_110 : fi D 4 9 H (ρ a0 2) = 0) (hn_111 : ρ (ρ (ρ a0 3) 3) 6 ≠ ρ (ρ (ρ a0 3) 4) 6) (hn_112 : ρ (ρ (ρ a0 3) 3) 5 ≠ ρ (ρ (ρ a0 3) 4) 5) (hn_113 : ρ (ρ (ρ a0 3) 3) 4 ≠ ρ (ρ (ρ a0 3) 4) 4) (hn_114 : ρ (ρ a0 3) 3 ≠ ρ (ρ a0 3) 4) (hn_115 : ρ (ρ (ρ (ρ a0 3) 3) 4) 7 ≠ ρ (ρ (ρ (ρ a0 3) 4) 4) 7) (hn_116 : ρ (ρ (ρ (ρ a0 3) 3) 4) 7 ≠ ρ (ρ (ρ (ρ a0 3) 4) 5) 6) (hn_117 : ρ (ρ (ρ (ρ a0 3) 3) 5) 6 ≠ ρ (ρ (ρ (ρ a0 3) 4) 4) 7) (hn_118 : ρ (ρ (ρ (ρ a0 3) 3) 5) 6 ≠ ρ (ρ (ρ (ρ a0 3) 4) 5) 6) (hn_119 : ρ (ρ (ρ (ρ a0 3) 3) 6) 6 ≠ ρ (ρ (ρ (ρ a0 3) 4) 6) 6) : MI l D cI cS τ ρ yX11_calm cX11_calm 5 (some .int) 4 103 H [.ref a0, .int 5] (fun (r : Int32) (u : Heap) => 0 = r ∧ fi D 4 9 u (ρ a0 3) = 0 ∧ fi D 4 8 u (ρ a0 3) = (-4) ∧ fi D 4 7 u (ρ a0 3) = (-4) ∧ fi D 2 7 u (ρ (ρ a0 3) 4) = 0 ∧ fi D 2 8 u (ρ (ρ a0 3) 4) = 0 ∧ fi D 2 9 u (ρ (ρ a0 3) 4) = 0 ∧ fl D 5 6 u (ρ (ρ (ρ a0 3) 4) 4) = 0 ∧ fi D 5 5 u (ρ (ρ (ρ a0 3) 4) 4) = 0 ∧ fi D 5 4 u (ρ (ρ (ρ a0 3) 4) 4) = 0 ∧ fi D 5 3 u (ρ (ρ (ρ a0 3) 4) 4) = 0 ∧ fi D 5 2 u (ρ (ρ (ρ a0 3) 4) 4) = 1 ∧ fi D 5 1 u (ρ (ρ (ρ a0 3) 4) 4) = 0 ∧ fi D 5 0 u (ρ (ρ (ρ a0 3) 4) 4) = 0 ∧ fl D 3 5 u (ρ (ρ (ρ a0 3) 4) 5) = 0 ∧ fi D 3 4 u (ρ (ρ (ρ a0 3) 4) 5) = 0 ∧ fi D 3 3 u (ρ (ρ (ρ a0 3) 4) 5) = (-4) ∧ fi D 3 2 u (ρ (ρ (ρ a0 3) 4) 5) = 13 ∧ fi D 3 1 u (ρ (ρ (ρ a0 3) 4) 5) = 1 ∧ fi D 3 0 u (ρ (ρ (ρ a0 3) 4) 5) = 0 ∧ fi D 7 5 u (ρ (ρ (ρ a0 3) 4) 6) = 0 ∧ fi D 7 4 u (ρ (ρ (ρ a0 3) 4) 6) = 0 ∧ fi D 7 3 u (ρ (ρ (ρ a0 3) 4) 6) = (-4) ∧ fi D 7 2 u (ρ (ρ (ρ a0 3) 4) 6) = 0 ∧ fi D 7 1 u (ρ (ρ (ρ a0 3) 4) 6) = 0 ∧ fi D 7 0 u (ρ (ρ (ρ a0 3) 4) 6) = 6 ∧ fi D 2 7 u (ρ (ρ a0 3) 3) = 0 ∧ fi D 2 8 u (ρ (ρ a0 3) 3) = 0 ∧ fi D 2 9 u (ρ (ρ a0 3) 3) = 0 ∧ fl D 5 6 u (ρ (ρ (ρ a0 3) 3) 4) = 0 ∧ fi D 5 5 u (ρ (ρ (ρ a0 3) 3) 4) = 0 ∧ fi D 5 4 u (ρ (ρ (ρ a0 3) 3) 4) = 0 ∧ fi D 5 3 u (ρ (ρ (ρ a0 3) 3) 4) = 0 ∧ fi D 5 2 u (ρ (ρ (ρ a0 3) 3) 4) = 1 ∧ fi D 5 1 u (ρ (ρ (ρ a0 3) 3) 4) = 0 ∧ fi D 5 0 u (ρ (ρ (ρ a0 3) 3) 4) = 0 ∧ fl D 3 5 u (ρ (ρ (ρ a0 3) 3) 5) = 0 ∧ fi D 3 4 u (ρ (ρ (ρ a0 3) 3) 5) = 0 ∧ fi D 3 3 u (ρ (ρ (ρ a0 3) 3) 5) = (-4) ∧ fi D 3 2 u (ρ (ρ (ρ a0 3) 3) 5) = 13 ∧ fi D 3 1 u (ρ (ρ (ρ a0 3) 3) 5) = 1 ∧ fi D 3 0 u (ρ (ρ (ρ a0 3) 3) 5) = 0 ∧ fi D 7 5 u (ρ (ρ (ρ a0 3) 3) 6) = 0 ∧ fi D 7 4 u (ρ (ρ (ρ a0 3) 3) 6) = 0 ∧ fi D 7 3 u (ρ (ρ (ρ a0 3) 3) 6) = (-4) ∧ fi D 7 2 u (ρ (ρ (ρ a0 3) 3) 6) = 0 ∧ fi D 7 1 u (ρ (ρ (ρ a0 3) 3) 6) = 0 ∧ fi D 7 0 u (ρ (ρ (ρ a0 3) 3) 6) = 6 ∧ fi D 0 0 u (ρ (ρ a0 3) 2) = 0 ∧ fi D 10 2 u (ρ (ρ a0 3) 1) = 0 ∧ fi D 10 3 u (ρ (ρ a0 3) 1) = 0 ∧ fi D 10 4 u (ρ (ρ a0 3) 1) = 0 ∧ fi D 10 5 u (ρ (ρ a0 3) 1) = 0 ∧ fi D 1 0 u (ρ (ρ a0 3) 0) = 4 ∧ fi D 1 1 u (ρ (ρ a0 3) 0) = 12 ∧ fi D 1 2 u (ρ (ρ a0 3) 0) = 250 ∧ fi D 1 3 u (ρ (ρ a0 3) 0) = 100 ∧ fi D 1 4 u (ρ (ρ a0 3) 0) = 5) (fun q => q = ρ (ρ a0 3) 0 ∨ q = ρ (ρ a0 3) 1 ∨ q = ρ (ρ a0 3) 2 ∨ q = ρ (ρ a0 3) 3 ∨ q = ρ (ρ (ρ a0 3) 3) 4 ∨ q = ρ (ρ (ρ (ρ a0 3) 3) 4) 7 ∨ q = ρ (ρ (ρ a0 3) 3) 5 ∨ q = ρ (ρ (ρ (ρ a0 3) 3) 5) 6 ∨ q = ρ (ρ (ρ a0 3) 3) 6 ∨ q = ρ (ρ (ρ (ρ a0 3) 3) 6) 6 ∨ q = ρ (ρ a0 3) 4 ∨ q = ρ (ρ (ρ a0 3) 4) 4 ∨ q = ρ (ρ (ρ (ρ a0 3) 4) 4) 7 ∨ q = ρ (ρ (ρ a0 3) 4) 5 ∨ q = ρ (ρ (ρ (ρ a0 3) 4) 5) 6 ∨ q = ρ (ρ (ρ a0 3) 4) 6 ∨ q = ρ (ρ (ρ (ρ a0 3) 4) 6) 6 ∨ q = ρ a0 3) := by
  refine MI.of (by decide) (Nat.le_of_ble_eq_true rfl) ?_
  intro p e s m args below meth c E hml hr hlk hs ls hl
  have hx := E.1
  have hb := E.2.1
  have hown := E.2.2.1
  have hts := E.2.2.2.1
  have hS : SS (fun q => q = ρ (ρ a0 3) 0 ∨ q = ρ (ρ a0 3) 1 ∨ q = ρ (ρ a0 3) 2 ∨ q = ρ (ρ a0 3) 3 ∨ q = ρ (ρ (ρ a0 3) 3) 4 ∨ q = ρ (ρ (ρ (ρ a0 3) 3) 4) 7 ∨ q = ρ (ρ (ρ a0 3) 3) 5 ∨ q = ρ (ρ (ρ (ρ a0 3) 3) 5) 6 ∨ q = ρ (ρ (ρ a0 3) 3) 6 ∨ q = ρ (ρ (ρ (ρ a0 3) 3) 6) 6 ∨ q = ρ (ρ a0 3) 4 ∨ q = ρ (ρ (ρ a0 3) 4) 4 ∨ q = ρ (ρ (ρ (ρ a0 3) 4) 4) 7 ∨ q = ρ (ρ (ρ a0 3) 4) 5 ∨ q = ρ (ρ (ρ (ρ a0 3) 4) 5) 6 ∨ q = ρ (ρ (ρ a0 3) 4) 6 ∨ q = ρ (ρ (ρ (ρ a0 3) 4) 6) 6 ∨ q = ρ a0 3) H H [] := SS.rf
  have hl : lv_has ls 5 [(0, .ref a0), (1, .int 5)] := hl
  refine lv_iload_n hx hb dX11_calm_0 rfl (lv_at hl 1 rfl) ?_
  refine lv_if_lt (tgt := 9) hx hb dX11_calm_1 (by decide) (fun c_1 => absurd c_1 (by decide)) (fun c_1 => ?_)
  refine lv_iload_n hx hb dX11_calm_4 rfl (lv_at hl 1 rfl) ?_
  refine lv_iconst (v := 5) hx hb dX11_calm_5 (by decide) ?_
  refine lv_icmp_le (tgt := 11) hx hb dX11_calm_6 (by decide) (fun c_2 => ?_) (fun c_2 => absurd (by decide) c_2)
  refine lv_aload_n hx hb dX11_calm_11 rfl (lv_at hl 0 rfl) ?_
  refine gf_X11_30 E hT hW ha0 dX11_calm_12 (fun h_3 => ?_)
  refine lv_aload_n hx hb dX11_calm_15 rfl (lv_at hl 0 rfl) ?_
  refine gf_X11_26 E hT hW ha0 dX11_calm_16 (fun h_4 => ?_)
  refine th_Vv (As := [.ref (ρ a0 2)]) (rest := []) E hml hl.1 (c_X4_copyFrom l D cI cS τ ρ hW H hT (ρ a0 3) (ρ a0 2) h_3 h_4 hf_1 hn_2 hf_3 hf_4 hf_5 hf_6 hf_7 hn_8 hf_9 hf_10 hf_11 hf_12 hf_13 hn_14 hf_15 hf_16 hn_17 hn_18 hn_19 hf_20 hn_21 hf_22 hf_23 hf_24 hf_25 hf_26 hf_27 hn_28 hn_29 hn_30 hf_31 hn_32 hf_33 hf_34 hf_35 hf_36 hf_37 hn_38 hn_39 hn_40 hf_41 hn_42 hf_43 hf_44 hf_45 hf_46 hf_47 hn_48 hn_49 hf_50 hn_51 hf_52 hf_53 hn_54 hn_55 hn_56 hn_57 hn_58 hn_59 hn_60 hn_61 hn_62 hn_63 hf_64 hn_65 hf_66 hf_67 hf_68 hf_69 hf_70 hf_71 hn_72 hn_73 hn_74 hn_75 hn_76 hn_77 hn_78 hn_79 hn_80 hn_81 hf_82 hn_83 hf_84 hf_85 hf_86 hf_87 hf_88 hn_89 hn_90 hn_91 hn_92 hn_93 hn_94 hn_95 hn_96 hn_97 hn_98 hf_99 hn_100 hf_101 hf_102 hf_103 hf_104 hf_105 hn_106 hf_107 hn_108 hf_109 hf_110 hn_111 hn_112 hn_113 hn_114 hn_115 hn_116 hn_117 hn_118 hn_119) lk_X11_189 yd_X4_copyFrom hT h_3 rfl (by decide) hS (fun q => (fun h => h.elim (fun h => (Or.inl h)) (fun h => h.elim (fun h => (Or.inr (Or.inl h))) (fun h => h.elim (fun h => (Or.inr (Or.inr (Or.inl h)))) (fun h => h.elim (fun h => (Or.inr (Or.inr (Or.inr (Or.inl h))))) (fun h => h.elim (fun h => (Or.inr (Or.inr (Or.inr (Or.inr (Or.inl h)))))) (fun h => h.elim (fun h => (Or.inr (Or.inr (Or.inr (Or.inr (Or.inr (Or.inl h))))))) (fun h => h.elim (fun h => (Or.inr (Or.inr (Or.inr (Or.inr (Or.inr (Or.inr (Or.inl h)))))))) (fun h => h.elim (fun h => (Or.inr (Or.inr (Or.inr (Or.inr (Or.inr (Or.inr (Or.inr (Or.inl h))))))))) (fun h => h.elim (fun h => (Or.inr (Or.inr (Or.inr (Or.inr (Or.inr (Or.inr (Or.inr (Or.inr (Or.inl h)))))))))) (fun h => h.elim (fun h => (Or.inr (Or.inr (Or.inr (Or.inr (Or.inr (Or.inr (Or.inr (Or.inr (Or.inr (Or.inl h))))))))))) (fun h => h.elim (fun h => (Or.inr (Or.inr (Or.inr (Or.inr (Or.inr (Or.inr (Or.inr (Or.inr (Or.inr (Or.inr (Or.inl h)))))))))))) (fun h => h.elim (fun h => (Or.inr (Or.inr (Or.inr (Or.inr (Or.inr (Or.inr (Or.inr (Or.inr (Or.inr (Or.inr (Or.inr (Or.inl h))))))))))))) (fun h => h.elim (fun h => (Or.inr (Or.inr (Or.inr (Or.inr (Or.inr (Or.inr (Or.inr (Or.inr (Or.inr (Or.inr (Or.inr (Or.inr (Or.inl h)))))))))))))) (fun h => h.elim (fun h => (Or.inr (Or.inr (Or.inr (Or.inr (Or.inr (Or.inr (Or.inr (Or.inr (Or.inr (Or.inr (Or.inr (Or.inr (Or.inr (Or.inl h))))))))))))))) (fun h => h.elim (fun h => (Or.inr (Or.inr (Or.inr (Or.inr (Or.inr (Or.inr (Or.inr (Or.inr (Or.inr (Or.inr (Or.inr (Or.inr (Or.inr (Or.inr (Or.inl h)))))))))))))))) (fun h => h.elim (fun h => (Or.inr (Or.inr (Or.inr (Or.inr (Or.inr (Or.inr (Or.inr (Or.inr (Or.inr (Or.inr (Or.inr (Or.inr (Or.inr (Or.inr (Or.inr (Or.inl h))))))))))))))))) (fun h => h.elim (fun h => (Or.inr (Or.inr (Or.inr (Or.inr (Or.inr (Or.inr (Or.inr (Or.inr (Or.inr (Or.inr (Or.inr (Or.inr (Or.inr (Or.inr (Or.inr (Or.inr (Or.inl h)))))))))))))))))) (fun h => (Or.inr (Or.inr (Or.inr (Or.inr (Or.inr (Or.inr (Or.inr (Or.inr (Or.inr (Or.inr (Or.inr (Or.inr (Or.inr (Or.inr (Or.inr (Or.inr (Or.inr h)))))))))))))))))))))))))))))))))))) ⟨by decide, by decide⟩ (Nat.le_of_ble_eq_true rfl) ⟨by decide, by decide⟩ rfl dX11_calm_19 (fun H_5 locs_5 p_5 hT_5 hk_5 hS_5 => ?_)
  have p_5 : fi D 1 4 H_5 (ρ (ρ a0 3) 0) = 5 ∧ fi D 1 3 H_5 (ρ (ρ a0 3) 0) = 100 ∧ fi D 1 2 H_5 (ρ (ρ a0 3) 0) = 250 ∧ fi D 1 1 H_5 (ρ (ρ a0 3) 0) = 12 ∧ fi D 1 0 H_5 (ρ (ρ a0 3) 0) = 4 ∧ fi D 10 5 H_5 (ρ (ρ a0 3) 1) = 0 ∧ fi D 10 4 H_5 (ρ (ρ a0 3) 1) = 0 ∧ fi D 10 3 H_5 (ρ (ρ a0 3) 1) = 0 ∧ fi D 10 2 H_5 (ρ (ρ a0 3) 1) = 0 ∧ fi D 0 0 H_5 (ρ (ρ a0 3) 2) = 0 ∧ fi D 7 0 H_5 (ρ (ρ (ρ a0 3) 3) 6) = 6 ∧ fi D 7 1 H_5 (ρ (ρ (ρ a0 3) 3) 6) = 0 ∧ fi D 7 2 H_5 (ρ (ρ (ρ a0 3) 3) 6) = 0 ∧ fi D 7 3 H_5 (ρ (ρ (ρ a0 3) 3) 6) = (-4) ∧ fi D 7 4 H_5 (ρ (ρ (ρ a0 3) 3) 6) = 0 ∧ fi D 7 5 H_5 (ρ (ρ (ρ a0 3) 3) 6) = 0 ∧ fi D 3 0 H_5 (ρ (ρ (ρ a0 3) 3) 5) = 0 ∧ fi D 3 1 H_5 (ρ (ρ (ρ a0 3) 3) 5) = 1 ∧ fi D 3 2 H_5 (ρ (ρ (ρ a0 3) 3) 5) = 13 ∧ fi D 3 3 H_5 (ρ (ρ (ρ a0 3) 3) 5) = (-4) ∧ fi D 3 4 H_5 (ρ (ρ (ρ a0 3) 3) 5) = 0 ∧ fl D 3 5 H_5 (ρ (ρ (ρ a0 3) 3) 5) = 0 ∧ fi D 5 0 H_5 (ρ (ρ (ρ a0 3) 3) 4) = 0 ∧ fi D 5 1 H_5 (ρ (ρ (ρ a0 3) 3) 4) = 0 ∧ fi D 5 2 H_5 (ρ (ρ (ρ a0 3) 3) 4) = 1 ∧ fi D 5 3 H_5 (ρ (ρ (ρ a0 3) 3) 4) = 0 ∧ fi D 5 4 H_5 (ρ (ρ (ρ a0 3) 3) 4) = 0 ∧ fi D 5 5 H_5 (ρ (ρ (ρ a0 3) 3) 4) = 0 ∧ fl D 5 6 H_5 (ρ (ρ (ρ a0 3) 3) 4) = 0 ∧ fi D 2 9 H_5 (ρ (ρ a0 3) 3) = 0 ∧ fi D 2 8 H_5 (ρ (ρ a0 3) 3) = 0 ∧ fi D 2 7 H_5 (ρ (ρ a0 3) 3) = 0 ∧ fi D 7 0 H_5 (ρ (ρ (ρ a0 3) 4) 6) = 6 ∧ fi D 7 1 H_5 (ρ (ρ (ρ a0 3) 4) 6) = 0 ∧ fi D 7 2 H_5 (ρ (ρ (ρ a0 3) 4) 6) = 0 ∧ fi D 7 3 H_5 (ρ (ρ (ρ a0 3) 4) 6) = (-4) ∧ fi D 7 4 H_5 (ρ (ρ (ρ a0 3) 4) 6) = 0 ∧ fi D 7 5 H_5 (ρ (ρ (ρ a0 3) 4) 6) = 0 ∧ fi D 3 0 H_5 (ρ (ρ (ρ a0 3) 4) 5) = 0 ∧ fi D 3 1 H_5 (ρ (ρ (ρ a0 3) 4) 5) = 1 ∧ fi D 3 2 H_5 (ρ (ρ (ρ a0 3) 4) 5) = 13 ∧ fi D 3 3 H_5 (ρ (ρ (ρ a0 3) 4) 5) = (-4) ∧ fi D 3 4 H_5 (ρ (ρ (ρ a0 3) 4) 5) = 0 ∧ fl D 3 5 H_5 (ρ (ρ (ρ a0 3) 4) 5) = 0 ∧ fi D 5 0 H_5 (ρ (ρ (ρ a0 3) 4) 4) = 0 ∧ fi D 5 1 H_5 (ρ (ρ (ρ a0 3) 4) 4) = 0 ∧ fi D 5 2 H_5 (ρ (ρ (ρ a0 3) 4) 4) = 1 ∧ fi D 5 3 H_5 (ρ (ρ (ρ a0 3) 4) 4) = 0 ∧ fi D 5 4 H_5 (ρ (ρ (ρ a0 3) 4) 4) = 0 ∧ fi D 5 5 H_5 (ρ (ρ (ρ a0 3) 4) 4) = 0 ∧ fl D 5 6 H_5 (ρ (ρ (ρ a0 3) 4) 4) = 0 ∧ fi D 2 9 H_5 (ρ (ρ a0 3) 4) = 0 ∧ fi D 2 8 H_5 (ρ (ρ a0 3) 4) = 0 ∧ fi D 2 7 H_5 (ρ (ρ a0 3) 4) = 0 ∧ fi D 4 7 H_5 (ρ a0 3) = (-4) ∧ fi D 4 8 H_5 (ρ a0 3) = (-4) ∧ fi D 4 9 H_5 (ρ a0 3) = 0 := p_5
  obtain ⟨p_5_0, p_5_1, p_5_2, p_5_3, p_5_4, p_5_5, p_5_6, p_5_7, p_5_8, p_5_9, p_5_10, p_5_11, p_5_12, p_5_13, p_5_14, p_5_15, p_5_16, p_5_17, p_5_18, p_5_19, p_5_20, p_5_21, p_5_22, p_5_23, p_5_24, p_5_25, p_5_26, p_5_27, p_5_28, p_5_29, p_5_30, p_5_31, p_5_32, p_5_33, p_5_34, p_5_35, p_5_36, p_5_37, p_5_38, p_5_39, p_5_40, p_5_41, p_5_42, p_5_43, p_5_44, p_5_45, p_5_46, p_5_47, p_5_48, p_5_49, p_5_50, p_5_51, p_5_52, p_5_53, p_5_54, p_5_55, p_5_56⟩ := p_5
  refine lv_iconst (v := 0) hx hb dX11_calm_22 (by decide) ?_
  refine lv_istore_n (lv' := [(2, .int 0), (0, .ref a0), (1, .int 5)]) hx hb dX11_calm_23 rfl hl (by decide) rfl (fun ls hl => ?_)
  refine lv_iload_n hx hb dX11_calm_24 rfl (lv_at hl 0 rfl) ?_
  refine lv_sipush (v := 300) hx hb dX11_calm_25 (by decide) ?_
  refine lv_icmp_ge (tgt := 89) hx hb dX11_calm_28 (by decide) (fun c_6 => absurd c_6 (by decide)) (fun c_6 => ?_)
  refine lv_aload_n hx hb dX11_calm_31 rfl (lv_at hl 1 rfl) ?_
  refine gf_X11_30 E hT_5 hW ha0 dX11_calm_32 (fun h_7 => ?_)
  refine th_Vi (As := []) (rest := []) E hml hl.1 (c_X4_isBusy l D cI cS τ ρ hW H_5 hT_5 (ρ a0 3) h_3 p_5_8 p_5_30 p_5_31 p_5_52 p_5_53) lk_X11_193 yd_X4_isBusy hT_5 h_3 rfl (by decide) hS_5 (fun _ h => h.elim) ⟨by decide, by decide⟩ (Nat.le_of_ble_eq_true rfl) ⟨by decide, by decide⟩ rfl dX11_calm_35 (fun r_8 H_8 locs_8 p_8 hT_8 hk_8 hS_8 => ?_)
  have p_8 : H_5 = H_8 ∧ 0 = r_8 := p_8
  obtain ⟨rfl, rfl⟩ := p_8
  refine lv_if_eq (tgt := 89) hx hb dX11_calm_38 (by decide) (fun c_9 => ?_) (fun c_9 => absurd (by decide) c_9)
  refine lv_iload_n hx hb dX11_calm_89 rfl (lv_at hl 2 rfl) ?_
  refine lv_tableOut (tgt := 176) hx hb dX11_calm_90 (by decide) (by decide) ?_
  refine lv_aload_n hx hb dX11_calm_176 rfl (lv_at hl 1 rfl) ?_
  refine gf_X11_30 E hT_8 hW ha0 dX11_calm_177 (fun h_10 => ?_)
  refine gf_X11_86 E hT_8 hW h_3 dX11_calm_180 (fun h_11 => ?_)
  refine gf_X11_203 E hT_8 (hW _ 4 1 h_3 (by decide) (by decide) (by decide)) dX11_calm_183 ?_
  refine th_topi (y := 0) p_5_7 ?_
  refine lv_aload_n hx hb dX11_calm_186 rfl (lv_at hl 1 rfl) ?_
  refine gf_X11_26 E hT_8 hW ha0 dX11_calm_187 (fun h_12 => ?_)
  refine gf_X11_86 E hT_8 hW h_4 dX11_calm_190 (fun h_13 => ?_)
  refine gf_X11_203 E hT_8 h_13 dX11_calm_193 ?_
  refine th_topi (y := 0) (Eq.trans (fi_q (hk_5 _ (fun h => h.elim (th_ne h_13 (hW _ 4 0 h_3 (by decide) (by decide) (by decide)) (by decide)) (fun h => h.elim hn_8 (fun h => h.elim (th_ne h_13 (hW _ 4 2 h_3 (by decide) (by decide) (by decide)) (by decide)) (fun h => h.elim (th_ne h_13 (hW _ 4 3 h_3 (by decide) (by decide) (by decide)) (by decide)) (fun h => h.elim (th_ne h_13 (hW _ 2 4 (hW _ 4 3 h_3 (by decide) (by decide) (by decide)) (by decide) (by decide) (by decide)) (by decide)) (fun h => h.elim (th_ne h_13 (hW _ 5 7 (hW _ 2 4 (hW _ 4 3 h_3 (by decide) (by decide) (by decide)) (by decide) (by decide) (by decide)) (by decide) (by decide) (by decide)) (by decide)) (fun h => h.elim (th_ne h_13 (hW _ 2 5 (hW _ 4 3 h_3 (by decide) (by decide) (by decide)) (by decide) (by decide) (by decide)) (by decide)) (fun h => h.elim (th_ne h_13 (hW _ 3 6 (hW _ 2 5 (hW _ 4 3 h_3 (by decide) (by decide) (by decide)) (by decide) (by decide) (by decide)) (by decide) (by decide) (by decide)) (by decide)) (fun h => h.elim (th_ne h_13 (hW _ 2 6 (hW _ 4 3 h_3 (by decide) (by decide) (by decide)) (by decide) (by decide) (by decide)) (by decide)) (fun h => h.elim (th_ne h_13 (hW _ 7 6 (hW _ 2 6 (hW _ 4 3 h_3 (by decide) (by decide) (by decide)) (by decide) (by decide) (by decide)) (by decide) (by decide) (by decide)) (by decide)) (fun h => h.elim (th_ne h_13 (hW _ 4 4 h_3 (by decide) (by decide) (by decide)) (by decide)) (fun h => h.elim (th_ne h_13 (hW _ 2 4 (hW _ 4 4 h_3 (by decide) (by decide) (by decide)) (by decide) (by decide) (by decide)) (by decide)) (fun h => h.elim (th_ne h_13 (hW _ 5 7 (hW _ 2 4 (hW _ 4 4 h_3 (by decide) (by decide) (by decide)) (by decide) (by decide) (by decide)) (by decide) (by decide) (by decide)) (by decide)) (fun h => h.elim (th_ne h_13 (hW _ 2 5 (hW _ 4 4 h_3 (by decide) (by decide) (by decide)) (by decide) (by decide) (by decide)) (by decide)) (fun h => h.elim (th_ne h_13 (hW _ 3 6 (hW _ 2 5 (hW _ 4 4 h_3 (by decide) (by decide) (by decide)) (by decide) (by decide) (by decide)) (by decide) (by decide) (by decide)) (by decide)) (fun h => h.elim (th_ne h_13 (hW _ 2 6 (hW _ 4 4 h_3 (by decide) (by decide) (by decide)) (by decide) (by decide) (by decide)) (by decide)) (fun h => h.elim (th_ne h_13 (hW _ 7 6 (hW _ 2 6 (hW _ 4 4 h_3 (by decide) (by decide) (by decide)) (by decide) (by decide) (by decide)) (by decide) (by decide) (by decide)) (by decide)) (th_ne h_13 h_3 (by decide))))))))))))))))))))) hf_9) ?_
  refine lv_isub hx hb dX11_calm_196 ?_
  refine th_topi (y := 0) (by decide) ?_
  exact th_iret E hr hlk hs hT_8 hS_8 ⟨rfl, p_5_56, p_5_55, p_5_54, p_5_53, p_5_52, p_5_51, p_5_50, p_5_49, p_5_48, p_5_47, p_5_46, p_5_45, p_5_44, p_5_43, p_5_42, p_5_41, p_5_40, p_5_39, p_5_38, p_5_37, p_5_36, p_5_35, p_5_34, p_5_33, p_5_32, p_5_31, p_5_30, p_5_29, p_5_28, p_5_27, p_5_26, p_5_25, p_5_24, p_5_23, p_5_22, p_5_21, p_5_20, p_5_19, p_5_18, p_5_17, p_5_16, p_5_15, p_5_14, p_5_13, p_5_12, p_5_11, p_5_10, p_5_9, p_5_8, p_5_7, p_5_6, p_5_5, p_5_4, p_5_3, p_5_2, p_5_1, p_5_0⟩ dX11_calm_197
set_option maxHeartbeats 4000000 in
set_option maxRecDepth 100000 in
/-- StreamEnds.calm -/
theorem c_X11_calm_v8 (l : Launch) (D : va_G) (cI cS : ClassId) (τ : Nat → Option Nat) (ρ : Nat → Nat → Nat) (hW : WF τ ρ) (H : Heap) (hT : TH D cI cS τ ρ H) (a0 : Nat) (x0 : Int32) (ha0 : τ a0 = some 11) (bl_x0 : 6 ≤ x0.toInt) : MI l D cI cS τ ρ yX11_calm cX11_calm 5 (some .int) 0 0 H [.ref a0, .int x0] (fun (r : Int32) (u : Heap) => H = u ∧ (-1) = r) (fun q => False) := by
  refine MI.of (by decide) (Nat.le_of_ble_eq_true rfl) ?_
  intro p e s m args below meth c E hml hr hlk hs ls hl
  have hx := E.1
  have hb := E.2.1
  have hown := E.2.2.1
  have hts := E.2.2.2.1
  have hS : SS (fun q => False) H H [] := SS.rf
  have hl : lv_has ls 5 [(0, .ref a0), (1, .int x0)] := hl
  refine lv_iload_n hx hb dX11_calm_0 rfl (lv_at hl 1 rfl) ?_
  refine lv_if_lt (tgt := 9) hx hb dX11_calm_1 (by decide) (fun c_1 => False.elim (by (have : (0 : Int32).toInt = 0 := (by decide); have : x0.toInt < (0 : Int32).toInt := Int32.lt_iff_toInt_lt.mp c_1; omega))) (fun c_1 => ?_)
  refine lv_iload_n hx hb dX11_calm_4 rfl (lv_at hl 1 rfl) ?_
  refine lv_iconst (v := 5) hx hb dX11_calm_5 (by decide) ?_
  refine lv_icmp_le (tgt := 11) hx hb dX11_calm_6 (by decide) (fun c_2 => False.elim (by (have : (5 : Int32).toInt = 5 := (by decide); have : x0.toInt ≤ (5 : Int32).toInt := Int32.le_iff_toInt_le.mp c_2; omega))) (fun c_2 => ?_)
  refine lv_iconst (v := (-1)) hx hb dX11_calm_9 (by decide) ?_
  exact th_iret E hr hlk hs hT hS ⟨rfl, rfl⟩ dX11_calm_10
set_option maxHeartbeats 4000000 in
set_option maxRecDepth 100000 in
/-- StreamEnds.cause -/
theorem c_X11_cause (l : Launch) (D : va_G) (cI cS : ClassId) (τ : Nat → Option Nat) (ρ : Nat → Nat → Nat) (hW : WF τ ρ) (H : Heap) (hT : TH D cI cS τ ρ H) (a0 : Nat) (x0 : Int32) (ha0 : τ a0 = some 11) (bh_x0 : x0.toInt ≤ -1) : MI l D cI cS τ ρ yX11_cause cX11_cause 2 (some .int) 0 0 H [.ref a0, .int x0] (fun (r : Int32) (u : Heap) => H = u ∧ (-1) = r) (fun q => False) := by
  refine MI.of (by decide) (Nat.le_of_ble_eq_true rfl) ?_
  intro p e s m args below meth c E hml hr hlk hs ls hl
  have hx := E.1
  have hb := E.2.1
  have hown := E.2.2.1
  have hts := E.2.2.2.1
  have hS : SS (fun q => False) H H [] := SS.rf
  have hl : lv_has ls 2 [(0, .ref a0), (1, .int x0)] := hl
  refine lv_iload_n hx hb dX11_cause_0 rfl (lv_at hl 1 rfl) ?_
  refine lv_if_ge (tgt := 6) hx hb dX11_cause_1 (by decide) (fun c_1 => False.elim (by (have : (0 : Int32).toInt = 0 := (by decide); have : (0 : Int32).toInt ≤ x0.toInt := Int32.le_iff_toInt_le.mp c_1; omega))) (fun c_1 => ?_)
  refine lv_iconst (v := (-1)) hx hb dX11_cause_4 (by decide) ?_
  exact th_iret E hr hlk hs hT hS ⟨rfl, rfl⟩ dX11_cause_5
set_option maxHeartbeats 4000000 in
set_option maxRecDepth 100000 in
/-- StreamEnds.cause -/
theorem c_X11_cause_v2 (l : Launch) (D : va_G) (cI cS : ClassId) (τ : Nat → Option Nat) (ρ : Nat → Nat → Nat) (hW : WF τ ρ) (H : Heap) (hT : TH D cI cS τ ρ H) (a0 : Nat) (ha0 : τ a0 = some 11) (hf_1 : fi D 4 7 H (ρ a0 2) = (-4)) : MI l D cI cS τ ρ yX11_cause cX11_cause 2 (some .int) 0 0 H [.ref a0, .int 0] (fun (r : Int32) (u : Heap) => H = u ∧ (-4) = r) (fun q => False) := by
  refine MI.of (by decide) (Nat.le_of_ble_eq_true rfl) ?_
  intro p e s m args below meth c E hml hr hlk hs ls hl
  have hx := E.1
  have hb := E.2.1
  have hown := E.2.2.1
  have hts := E.2.2.2.1
  have hS : SS (fun q => False) H H [] := SS.rf
  have hl : lv_has ls 2 [(0, .ref a0), (1, .int 0)] := hl
  refine lv_iload_n hx hb dX11_cause_0 rfl (lv_at hl 1 rfl) ?_
  refine lv_if_ge (tgt := 6) hx hb dX11_cause_1 (by decide) (fun c_1 => ?_) (fun c_1 => absurd (by decide) c_1)
  refine lv_iload_n hx hb dX11_cause_6 rfl (lv_at hl 1 rfl) ?_
  refine lv_if_ne (tgt := 18) hx hb dX11_cause_7 (by decide) (fun c_2 => absurd (by decide) c_2) (fun c_2 => ?_)
  refine lv_aload_n hx hb dX11_cause_10 rfl (lv_at hl 0 rfl) ?_
  refine gf_X11_26 E hT hW ha0 dX11_cause_11 (fun h_3 => ?_)
  refine gf_X11_243 E hT h_3 dX11_cause_14 ?_
  refine th_topi (y := (-4)) hf_1 ?_
  exact th_iret E hr hlk hs hT hS ⟨rfl, rfl⟩ dX11_cause_17
set_option maxHeartbeats 4000000 in
set_option maxRecDepth 100000 in
/-- StreamEnds.cause -/
theorem c_X11_cause_v3 (l : Launch) (D : va_G) (cI cS : ClassId) (τ : Nat → Option Nat) (ρ : Nat → Nat → Nat) (hW : WF τ ρ) (H : Heap) (hT : TH D cI cS τ ρ H) (a0 : Nat) (ha0 : τ a0 = some 11) (hf_1 : fi D 4 8 H (ρ a0 2) = (-4)) : MI l D cI cS τ ρ yX11_cause cX11_cause 2 (some .int) 0 0 H [.ref a0, .int 1] (fun (r : Int32) (u : Heap) => H = u ∧ (-4) = r) (fun q => False) := by
  refine MI.of (by decide) (Nat.le_of_ble_eq_true rfl) ?_
  intro p e s m args below meth c E hml hr hlk hs ls hl
  have hx := E.1
  have hb := E.2.1
  have hown := E.2.2.1
  have hts := E.2.2.2.1
  have hS : SS (fun q => False) H H [] := SS.rf
  have hl : lv_has ls 2 [(0, .ref a0), (1, .int 1)] := hl
  refine lv_iload_n hx hb dX11_cause_0 rfl (lv_at hl 1 rfl) ?_
  refine lv_if_ge (tgt := 6) hx hb dX11_cause_1 (by decide) (fun c_1 => ?_) (fun c_1 => absurd (by decide) c_1)
  refine lv_iload_n hx hb dX11_cause_6 rfl (lv_at hl 1 rfl) ?_
  refine lv_if_ne (tgt := 18) hx hb dX11_cause_7 (by decide) (fun c_2 => ?_) (fun c_2 => absurd c_2 (by decide))
  refine lv_iload_n hx hb dX11_cause_18 rfl (lv_at hl 1 rfl) ?_
  refine lv_iconst (v := 1) hx hb dX11_cause_19 (by decide) ?_
  refine lv_icmp_ne (tgt := 33) hx hb dX11_cause_20 (by decide) (fun c_3 => absurd (by decide) c_3) (fun c_3 => ?_)
  refine lv_aload_n hx hb dX11_cause_23 rfl (lv_at hl 0 rfl) ?_
  refine gf_X11_26 E hT hW ha0 dX11_cause_24 (fun h_4 => ?_)
  refine gf_X11_246 E hT h_4 dX11_cause_27 ?_
  refine th_topi (y := (-4)) hf_1 ?_
  refine lv_goto (tgt := 35) hx hb dX11_cause_30 (by decide) ?_
  exact th_iret E hr hlk hs hT hS ⟨rfl, rfl⟩ dX11_cause_35
set_option maxHeartbeats 4000000 in
set_option maxRecDepth 100000 in
/-- StreamEnds.cause -/
theorem c_X11_cause_v4 (l : Launch) (D : va_G) (cI cS : ClassId) (τ : Nat → Option Nat) (ρ : Nat → Nat → Nat) (hW : WF τ ρ) (H : Heap) (hT : TH D cI cS τ ρ H) (a0 : Nat) (x0 : Int32) (ha0 : τ a0 = some 11) (bl_x0 : 2 ≤ x0.toInt) : MI l D cI cS τ ρ yX11_cause cX11_cause 2 (some .int) 0 0 H [.ref a0, .int x0] (fun (r : Int32) (u : Heap) => H = u ∧ (-4) = r) (fun q => False) := by
  refine MI.of (by decide) (Nat.le_of_ble_eq_true rfl) ?_
  intro p e s m args below meth c E hml hr hlk hs ls hl
  have hx := E.1
  have hb := E.2.1
  have hown := E.2.2.1
  have hts := E.2.2.2.1
  have hS : SS (fun q => False) H H [] := SS.rf
  have hl : lv_has ls 2 [(0, .ref a0), (1, .int x0)] := hl
  refine lv_iload_n hx hb dX11_cause_0 rfl (lv_at hl 1 rfl) ?_
  refine lv_if_ge (tgt := 6) hx hb dX11_cause_1 (by decide) (fun c_1 => ?_) (fun c_1 => False.elim (by (have : (0 : Int32).toInt = 0 := (by decide); have : ¬ (0 : Int32).toInt ≤ x0.toInt := fun q => c_1 (Int32.le_iff_toInt_le.mpr q); omega)))
  refine lv_iload_n hx hb dX11_cause_6 rfl (lv_at hl 1 rfl) ?_
  refine lv_if_ne (tgt := 18) hx hb dX11_cause_7 (by decide) (fun c_2 => ?_) (fun c_2 => False.elim (by (have : (0 : Int32).toInt = 0 := (by decide); have := congrArg Int32.toInt c_2; omega)))
  refine lv_iload_n hx hb dX11_cause_18 rfl (lv_at hl 1 rfl) ?_
  refine lv_iconst (v := 1) hx hb dX11_cause_19 (by decide) ?_
  refine lv_icmp_ne (tgt := 33) hx hb dX11_cause_20 (by decide) (fun c_3 => ?_) (fun c_3 => False.elim (by (have : (1 : Int32).toInt = 1 := (by decide); have := congrArg Int32.toInt c_3; omega)))
  refine lv_bipush (v := (-4)) hx hb dX11_cause_33 (by decide) ?_
  exact th_iret E hr hlk hs hT hS ⟨rfl, rfl⟩ dX11_cause_35
set_option maxHeartbeats 4000000 in
set_option maxRecDepth 100000 in
/-- StreamEnds.count -/
theorem c_X11_count (l : Launch) (D : va_G) (cI cS : ClassId) (τ : Nat → Option Nat) (ρ : Nat → Nat → Nat) (hW : WF τ ρ) (H : Heap) (hT : TH D cI cS τ ρ H) (a0 : Nat) (x0 : Int32) (ha0 : τ a0 = some 11) (bh_x0 : x0.toInt ≤ -1) : MI l D cI cS τ ρ yX11_count cX11_count 2 (some .int) 0 0 H [.ref a0, .int x0] (fun (r : Int32) (u : Heap) => H = u ∧ (-1) = r) (fun q => False) := by
  refine MI.of (by decide) (Nat.le_of_ble_eq_true rfl) ?_
  intro p e s m args below meth c E hml hr hlk hs ls hl
  have hx := E.1
  have hb := E.2.1
  have hown := E.2.2.1
  have hts := E.2.2.2.1
  have hS : SS (fun q => False) H H [] := SS.rf
  have hl : lv_has ls 2 [(0, .ref a0), (1, .int x0)] := hl
  refine lv_iload_n hx hb dX11_count_0 rfl (lv_at hl 1 rfl) ?_
  refine lv_tableOut (tgt := 190) hx hb dX11_count_1 (Or.inl (by (omega))) (by decide) ?_
  refine lv_iconst (v := (-1)) hx hb dX11_count_190 (by decide) ?_
  exact th_iret E hr hlk hs hT hS ⟨rfl, rfl⟩ dX11_count_191
set_option maxHeartbeats 4000000 in
set_option maxRecDepth 100000 in
/-- StreamEnds.count -/
theorem c_X11_count_v2 (l : Launch) (D : va_G) (cI cS : ClassId) (τ : Nat → Option Nat) (ρ : Nat → Nat → Nat) (hW : WF τ ρ) (H : Heap) (hT : TH D cI cS τ ρ H) (a0 : Nat) (ha0 : τ a0 = some 11) (hf_1 : fi D 1 0 H (ρ (ρ a0 2) 0) = 4) : MI l D cI cS τ ρ yX11_count cX11_count 2 (some .int) 0 0 H [.ref a0, .int 0] (fun (r : Int32) (u : Heap) => H = u ∧ 4 = r) (fun q => False) := by
  refine MI.of (by decide) (Nat.le_of_ble_eq_true rfl) ?_
  intro p e s m args below meth c E hml hr hlk hs ls hl
  have hx := E.1
  have hb := E.2.1
  have hown := E.2.2.1
  have hts := E.2.2.2.1
  have hS : SS (fun q => False) H H [] := SS.rf
  have hl : lv_has ls 2 [(0, .ref a0), (1, .int 0)] := hl
  refine lv_iload_n hx hb dX11_count_0 rfl (lv_at hl 1 rfl) ?_
  refine lv_tableIn (tgt := 64) hx hb dX11_count_1 (by decide) (by decide) rfl (by decide) ?_
  refine lv_aload_n hx hb dX11_count_64 rfl (lv_at hl 0 rfl) ?_
  refine gf_X11_26 E hT hW ha0 dX11_count_65 (fun h_1 => ?_)
  refine gf_X11_130 E hT hW h_1 dX11_count_68 (fun h_2 => ?_)
  refine gf_X11_62 E hT h_2 dX11_count_71 ?_
  refine th_topi (y := 4) hf_1 ?_
  exact th_iret E hr hlk hs hT hS ⟨rfl, rfl⟩ dX11_count_74
set_option maxHeartbeats 4000000 in
set_option maxRecDepth 100000 in
/-- StreamEnds.count -/
theorem c_X11_count_v3 (l : Launch) (D : va_G) (cI cS : ClassId) (τ : Nat → Option Nat) (ρ : Nat → Nat → Nat) (hW : WF τ ρ) (H : Heap) (hT : TH D cI cS τ ρ H) (a0 : Nat) (ha0 : τ a0 = some 11) (hf_1 : fi D 1 1 H (ρ (ρ a0 2) 0) = 12) : MI l D cI cS τ ρ yX11_count cX11_count 2 (some .int) 0 0 H [.ref a0, .int 1] (fun (r : Int32) (u : Heap) => H = u ∧ 12 = r) (fun q => False) := by
  refine MI.of (by decide) (Nat.le_of_ble_eq_true rfl) ?_
  intro p e s m args below meth c E hml hr hlk hs ls hl
  have hx := E.1
  have hb := E.2.1
  have hown := E.2.2.1
  have hts := E.2.2.2.1
  have hS : SS (fun q => False) H H [] := SS.rf
  have hl : lv_has ls 2 [(0, .ref a0), (1, .int 1)] := hl
  refine lv_iload_n hx hb dX11_count_0 rfl (lv_at hl 1 rfl) ?_
  refine lv_tableIn (tgt := 75) hx hb dX11_count_1 (by decide) (by decide) rfl (by decide) ?_
  refine lv_aload_n hx hb dX11_count_75 rfl (lv_at hl 0 rfl) ?_
  refine gf_X11_26 E hT hW ha0 dX11_count_76 (fun h_1 => ?_)
  refine gf_X11_130 E hT hW h_1 dX11_count_79 (fun h_2 => ?_)
  refine gf_X11_33 E hT h_2 dX11_count_82 ?_
  refine th_topi (y := 12) hf_1 ?_
  exact th_iret E hr hlk hs hT hS ⟨rfl, rfl⟩ dX11_count_85
set_option maxHeartbeats 4000000 in
set_option maxRecDepth 100000 in
/-- StreamEnds.count -/
theorem c_X11_count_v4 (l : Launch) (D : va_G) (cI cS : ClassId) (τ : Nat → Option Nat) (ρ : Nat → Nat → Nat) (hW : WF τ ρ) (H : Heap) (hT : TH D cI cS τ ρ H) (a0 : Nat) (ha0 : τ a0 = some 11) (hf_1 : fi D 1 2 H (ρ (ρ a0 2) 0) = 250) : MI l D cI cS τ ρ yX11_count cX11_count 2 (some .int) 0 0 H [.ref a0, .int 2] (fun (r : Int32) (u : Heap) => H = u ∧ 250 = r) (fun q => False) := by
  refine MI.of (by decide) (Nat.le_of_ble_eq_true rfl) ?_
  intro p e s m args below meth c E hml hr hlk hs ls hl
  have hx := E.1
  have hb := E.2.1
  have hown := E.2.2.1
  have hts := E.2.2.2.1
  have hS : SS (fun q => False) H H [] := SS.rf
  have hl : lv_has ls 2 [(0, .ref a0), (1, .int 2)] := hl
  refine lv_iload_n hx hb dX11_count_0 rfl (lv_at hl 1 rfl) ?_
  refine lv_tableIn (tgt := 86) hx hb dX11_count_1 (by decide) (by decide) rfl (by decide) ?_
  refine lv_aload_n hx hb dX11_count_86 rfl (lv_at hl 0 rfl) ?_
  refine gf_X11_26 E hT hW ha0 dX11_count_87 (fun h_1 => ?_)
  refine gf_X11_130 E hT hW h_1 dX11_count_90 (fun h_2 => ?_)
  refine gf_X11_37 E hT h_2 dX11_count_93 ?_
  refine th_topi (y := 250) hf_1 ?_
  exact th_iret E hr hlk hs hT hS ⟨rfl, rfl⟩ dX11_count_96
set_option maxHeartbeats 4000000 in
set_option maxRecDepth 100000 in
/-- StreamEnds.count -/
theorem c_X11_count_v5 (l : Launch) (D : va_G) (cI cS : ClassId) (τ : Nat → Option Nat) (ρ : Nat → Nat → Nat) (hW : WF τ ρ) (H : Heap) (hT : TH D cI cS τ ρ H) (a0 : Nat) (ha0 : τ a0 = some 11) (hf_1 : fi D 1 3 H (ρ (ρ a0 2) 0) = 100) : MI l D cI cS τ ρ yX11_count cX11_count 2 (some .int) 0 0 H [.ref a0, .int 3] (fun (r : Int32) (u : Heap) => H = u ∧ 100 = r) (fun q => False) := by
  refine MI.of (by decide) (Nat.le_of_ble_eq_true rfl) ?_
  intro p e s m args below meth c E hml hr hlk hs ls hl
  have hx := E.1
  have hb := E.2.1
  have hown := E.2.2.1
  have hts := E.2.2.2.1
  have hS : SS (fun q => False) H H [] := SS.rf
  have hl : lv_has ls 2 [(0, .ref a0), (1, .int 3)] := hl
  refine lv_iload_n hx hb dX11_count_0 rfl (lv_at hl 1 rfl) ?_
  refine lv_tableIn (tgt := 97) hx hb dX11_count_1 (by decide) (by decide) rfl (by decide) ?_
  refine lv_aload_n hx hb dX11_count_97 rfl (lv_at hl 0 rfl) ?_
  refine gf_X11_26 E hT hW ha0 dX11_count_98 (fun h_1 => ?_)
  refine gf_X11_130 E hT hW h_1 dX11_count_101 (fun h_2 => ?_)
  refine gf_X11_40 E hT h_2 dX11_count_104 ?_
  refine th_topi (y := 100) hf_1 ?_
  exact th_iret E hr hlk hs hT hS ⟨rfl, rfl⟩ dX11_count_107
set_option maxHeartbeats 4000000 in
set_option maxRecDepth 100000 in
/-- StreamEnds.count -/
theorem c_X11_count_v6 (l : Launch) (D : va_G) (cI cS : ClassId) (τ : Nat → Option Nat) (ρ : Nat → Nat → Nat) (hW : WF τ ρ) (H : Heap) (hT : TH D cI cS τ ρ H) (a0 : Nat) (ha0 : τ a0 = some 11) (hf_1 : fi D 1 4 H (ρ (ρ a0 2) 0) = 5) : MI l D cI cS τ ρ yX11_count cX11_count 2 (some .int) 0 0 H [.ref a0, .int 4] (fun (r : Int32) (u : Heap) => H = u ∧ 5 = r) (fun q => False) := by
  refine MI.of (by decide) (Nat.le_of_ble_eq_true rfl) ?_
  intro p e s m args below meth c E hml hr hlk hs ls hl
  have hx := E.1
  have hb := E.2.1
  have hown := E.2.2.1
  have hts := E.2.2.2.1
  have hS : SS (fun q => False) H H [] := SS.rf
  have hl : lv_has ls 2 [(0, .ref a0), (1, .int 4)] := hl
  refine lv_iload_n hx hb dX11_count_0 rfl (lv_at hl 1 rfl) ?_
  refine lv_tableIn (tgt := 108) hx hb dX11_count_1 (by decide) (by decide) rfl (by decide) ?_
  refine lv_aload_n hx hb dX11_count_108 rfl (lv_at hl 0 rfl) ?_
  refine gf_X11_26 E hT hW ha0 dX11_count_109 (fun h_1 => ?_)
  refine gf_X11_130 E hT hW h_1 dX11_count_112 (fun h_2 => ?_)
  refine gf_X11_249 E hT h_2 dX11_count_115 ?_
  refine th_topi (y := 5) hf_1 ?_
  exact th_iret E hr hlk hs hT hS ⟨rfl, rfl⟩ dX11_count_118
set_option maxHeartbeats 4000000 in
set_option maxRecDepth 100000 in
/-- StreamEnds.count -/
theorem c_X11_count_v7 (l : Launch) (D : va_G) (cI cS : ClassId) (τ : Nat → Option Nat) (ρ : Nat → Nat → Nat) (hW : WF τ ρ) (H : Heap) (hT : TH D cI cS τ ρ H) (a0 : Nat) (ha0 : τ a0 = some 11) (hf_1 : fi D 10 2 H (ρ (ρ a0 2) 1) = 0) : MI l D cI cS τ ρ yX11_count cX11_count 2 (some .int) 0 0 H [.ref a0, .int 5] (fun (r : Int32) (u : Heap) => H = u ∧ 0 = r) (fun q => False) := by
  refine MI.of (by decide) (Nat.le_of_ble_eq_true rfl) ?_
  intro p e s m args below meth c E hml hr hlk hs ls hl
  have hx := E.1
  have hb := E.2.1
  have hown := E.2.2.1
  have hts := E.2.2.2.1
  have hS : SS (fun q => False) H H [] := SS.rf
  have hl : lv_has ls 2 [(0, .ref a0), (1, .int 5)] := hl
  refine lv_iload_n hx hb dX11_count_0 rfl (lv_at hl 1 rfl) ?_
  refine lv_tableIn (tgt := 119) hx hb dX11_count_1 (by decide) (by decide) rfl (by decide) ?_
  refine lv_aload_n hx hb dX11_count_119 rfl (lv_at hl 0 rfl) ?_
  refine gf_X11_26 E hT hW ha0 dX11_count_120 (fun h_1 => ?_)
  refine gf_X11_86 E hT hW h_1 dX11_count_123 (fun h_2 => ?_)
  refine gf_X11_90 E hT h_2 dX11_count_126 ?_
  refine th_topi (y := 0) hf_1 ?_
  exact th_iret E hr hlk hs hT hS ⟨rfl, rfl⟩ dX11_count_129
set_option maxHeartbeats 4000000 in
set_option maxRecDepth 100000 in
/-- StreamEnds.count -/
theorem c_X11_count_v8 (l : Launch) (D : va_G) (cI cS : ClassId) (τ : Nat → Option Nat) (ρ : Nat → Nat → Nat) (hW : WF τ ρ) (H : Heap) (hT : TH D cI cS τ ρ H) (a0 : Nat) (ha0 : τ a0 = some 11) (hf_1 : fi D 0 0 H (ρ (ρ a0 2) 2) = 0) : MI l D cI cS τ ρ yX11_count cX11_count 2 (some .int) 0 0 H [.ref a0, .int 6] (fun (r : Int32) (u : Heap) => H = u ∧ 0 = r) (fun q => False) := by
  refine MI.of (by decide) (Nat.le_of_ble_eq_true rfl) ?_
  intro p e s m args below meth c E hml hr hlk hs ls hl
  have hx := E.1
  have hb := E.2.1
  have hown := E.2.2.1
  have hts := E.2.2.2.1
  have hS : SS (fun q => False) H H [] := SS.rf
  have hl : lv_has ls 2 [(0, .ref a0), (1, .int 6)] := hl
  refine lv_iload_n hx hb dX11_count_0 rfl (lv_at hl 1 rfl) ?_
  refine lv_tableIn (tgt := 130) hx hb dX11_count_1 (by decide) (by decide) rfl (by decide) ?_
  refine lv_aload_n hx hb dX11_count_130 rfl (lv_at hl 0 rfl) ?_
  refine gf_X11_26 E hT hW ha0 dX11_count_131 (fun h_1 => ?_)
  refine gf_X11_174 E hT hW h_1 dX11_count_134 (fun h_2 => ?_)
  refine gf_X11_178 E hT h_2 dX11_count_137 ?_
  refine th_topi (y := 0) hf_1 ?_
  exact th_iret E hr hlk hs hT hS ⟨rfl, rfl⟩ dX11_count_140
set_option maxHeartbeats 4000000 in
set_option maxRecDepth 100000 in
/-- StreamEnds.count -/
theorem c_X11_count_v9 (l : Launch) (D : va_G) (cI cS : ClassId) (τ : Nat → Option Nat) (ρ : Nat → Nat → Nat) (hW : WF τ ρ) (H : Heap) (hT : TH D cI cS τ ρ H) (a0 : Nat) (ha0 : τ a0 = some 11) (hf_1 : fi D 10 3 H (ρ (ρ a0 2) 1) = 0) : MI l D cI cS τ ρ yX11_count cX11_count 2 (some .int) 0 0 H [.ref a0, .int 7] (fun (r : Int32) (u : Heap) => H = u ∧ 0 = r) (fun q => False) := by
  refine MI.of (by decide) (Nat.le_of_ble_eq_true rfl) ?_
  intro p e s m args below meth c E hml hr hlk hs ls hl
  have hx := E.1
  have hb := E.2.1
  have hown := E.2.2.1
  have hts := E.2.2.2.1
  have hS : SS (fun q => False) H H [] := SS.rf
  have hl : lv_has ls 2 [(0, .ref a0), (1, .int 7)] := hl
  refine lv_iload_n hx hb dX11_count_0 rfl (lv_at hl 1 rfl) ?_
  refine lv_tableIn (tgt := 141) hx hb dX11_count_1 (by decide) (by decide) rfl (by decide) ?_
  refine lv_aload_n hx hb dX11_count_141 rfl (lv_at hl 0 rfl) ?_
  refine gf_X11_26 E hT hW ha0 dX11_count_142 (fun h_1 => ?_)
  refine gf_X11_86 E hT hW h_1 dX11_count_145 (fun h_2 => ?_)
  refine gf_X11_203 E hT h_2 dX11_count_148 ?_
  refine th_topi (y := 0) hf_1 ?_
  exact th_iret E hr hlk hs hT hS ⟨rfl, rfl⟩ dX11_count_151
set_option maxHeartbeats 4000000 in
set_option maxRecDepth 100000 in
/-- StreamEnds.count -/
theorem c_X11_count_v10 (l : Launch) (D : va_G) (cI cS : ClassId) (τ : Nat → Option Nat) (ρ : Nat → Nat → Nat) (hW : WF τ ρ) (H : Heap) (hT : TH D cI cS τ ρ H) (a0 : Nat) (ha0 : τ a0 = some 11) (hf_1 : fi D 10 4 H (ρ (ρ a0 2) 1) = 0) : MI l D cI cS τ ρ yX11_count cX11_count 2 (some .int) 0 0 H [.ref a0, .int 8] (fun (r : Int32) (u : Heap) => H = u ∧ 0 = r) (fun q => False) := by
  refine MI.of (by decide) (Nat.le_of_ble_eq_true rfl) ?_
  intro p e s m args below meth c E hml hr hlk hs ls hl
  have hx := E.1
  have hb := E.2.1
  have hown := E.2.2.1
  have hts := E.2.2.2.1
  have hS : SS (fun q => False) H H [] := SS.rf
  have hl : lv_has ls 2 [(0, .ref a0), (1, .int 8)] := hl
  refine lv_iload_n hx hb dX11_count_0 rfl (lv_at hl 1 rfl) ?_
  refine lv_tableIn (tgt := 152) hx hb dX11_count_1 (by decide) (by decide) rfl (by decide) ?_
  refine lv_aload_n hx hb dX11_count_152 rfl (lv_at hl 0 rfl) ?_
  refine gf_X11_26 E hT hW ha0 dX11_count_153 (fun h_1 => ?_)
  refine gf_X11_86 E hT hW h_1 dX11_count_156 (fun h_2 => ?_)
  refine gf_X11_252 E hT h_2 dX11_count_159 ?_
  refine th_topi (y := 0) hf_1 ?_
  exact th_iret E hr hlk hs hT hS ⟨rfl, rfl⟩ dX11_count_162
set_option maxHeartbeats 4000000 in
set_option maxRecDepth 100000 in
/-- StreamEnds.count -/
theorem c_X11_count_v11 (l : Launch) (D : va_G) (cI cS : ClassId) (τ : Nat → Option Nat) (ρ : Nat → Nat → Nat) (hW : WF τ ρ) (H : Heap) (hT : TH D cI cS τ ρ H) (a0 : Nat) (ha0 : τ a0 = some 11) (hf_1 : fi D 10 5 H (ρ (ρ a0 2) 1) = 0) : MI l D cI cS τ ρ yX11_count cX11_count 2 (some .int) 0 0 H [.ref a0, .int 9] (fun (r : Int32) (u : Heap) => H = u ∧ 0 = r) (fun q => False) := by
  refine MI.of (by decide) (Nat.le_of_ble_eq_true rfl) ?_
  intro p e s m args below meth c E hml hr hlk hs ls hl
  have hx := E.1
  have hb := E.2.1
  have hown := E.2.2.1
  have hts := E.2.2.2.1
  have hS : SS (fun q => False) H H [] := SS.rf
  have hl : lv_has ls 2 [(0, .ref a0), (1, .int 9)] := hl
  refine lv_iload_n hx hb dX11_count_0 rfl (lv_at hl 1 rfl) ?_
  refine lv_tableIn (tgt := 163) hx hb dX11_count_1 (by decide) (by decide) rfl (by decide) ?_
  refine lv_aload_n hx hb dX11_count_163 rfl (lv_at hl 0 rfl) ?_
  refine gf_X11_26 E hT hW ha0 dX11_count_164 (fun h_1 => ?_)
  refine gf_X11_86 E hT hW h_1 dX11_count_167 (fun h_2 => ?_)
  refine gf_X11_255 E hT h_2 dX11_count_170 ?_
  refine th_topi (y := 0) hf_1 ?_
  exact th_iret E hr hlk hs hT hS ⟨rfl, rfl⟩ dX11_count_173
set_option maxHeartbeats 4000000 in
set_option maxRecDepth 100000 in
/-- StreamEnds.count -/
theorem c_X11_count_v12 (l : Launch) (D : va_G) (cI cS : ClassId) (τ : Nat → Option Nat) (ρ : Nat → Nat → Nat) (hW : WF τ ρ) (H : Heap) (hT : TH D cI cS τ ρ H) (a0 : Nat) (ha0 : τ a0 = some 11) (hf_1 : fi D 4 9 H (ρ a0 2) = 0) : MI l D cI cS τ ρ yX11_count cX11_count 2 (some .int) 0 0 H [.ref a0, .int 10] (fun (r : Int32) (u : Heap) => H = u ∧ 0 = r) (fun q => False) := by
  refine MI.of (by decide) (Nat.le_of_ble_eq_true rfl) ?_
  intro p e s m args below meth c E hml hr hlk hs ls hl
  have hx := E.1
  have hb := E.2.1
  have hown := E.2.2.1
  have hts := E.2.2.2.1
  have hS : SS (fun q => False) H H [] := SS.rf
  have hl : lv_has ls 2 [(0, .ref a0), (1, .int 10)] := hl
  refine lv_iload_n hx hb dX11_count_0 rfl (lv_at hl 1 rfl) ?_
  refine lv_tableIn (tgt := 174) hx hb dX11_count_1 (by decide) (by decide) rfl (by decide) ?_
  refine lv_aload_n hx hb dX11_count_174 rfl (lv_at hl 0 rfl) ?_
  refine gf_X11_26 E hT hW ha0 dX11_count_175 (fun h_1 => ?_)
  refine gf_X11_258 E hT h_1 dX11_count_178 ?_
  refine th_topi (y := 0) hf_1 ?_
  exact th_iret E hr hlk hs hT hS ⟨rfl, rfl⟩ dX11_count_181
set_option maxHeartbeats 4000000 in
set_option maxRecDepth 100000 in
/-- StreamEnds.count -/
theorem c_X11_count_v13 (l : Launch) (D : va_G) (cI cS : ClassId) (τ : Nat → Option Nat) (ρ : Nat → Nat → Nat) (hW : WF τ ρ) (H : Heap) (hT : TH D cI cS τ ρ H) (a0 : Nat) (ha0 : τ a0 = some 11) (hf_1 : fi D 9 1 H (ρ a0 0) = 0) : MI l D cI cS τ ρ yX11_count cX11_count 2 (some .int) 0 0 H [.ref a0, .int 11] (fun (r : Int32) (u : Heap) => H = u ∧ 0 = r) (fun q => False) := by
  refine MI.of (by decide) (Nat.le_of_ble_eq_true rfl) ?_
  intro p e s m args below meth c E hml hr hlk hs ls hl
  have hx := E.1
  have hb := E.2.1
  have hown := E.2.2.1
  have hts := E.2.2.2.1
  have hS : SS (fun q => False) H H [] := SS.rf
  have hl : lv_has ls 2 [(0, .ref a0), (1, .int 11)] := hl
  refine lv_iload_n hx hb dX11_count_0 rfl (lv_at hl 1 rfl) ?_
  refine lv_tableIn (tgt := 182) hx hb dX11_count_1 (by decide) (by decide) rfl (by decide) ?_
  refine lv_aload_n hx hb dX11_count_182 rfl (lv_at hl 0 rfl) ?_
  refine gf_X11_10 E hT hW ha0 dX11_count_183 (fun h_1 => ?_)
  refine gf_X11_51 E hT h_1 dX11_count_186 ?_
  refine th_topi (y := 0) hf_1 ?_
  exact th_iret E hr hlk hs hT hS ⟨rfl, rfl⟩ dX11_count_189
set_option maxHeartbeats 4000000 in
set_option maxRecDepth 100000 in
/-- StreamEnds.count -/
theorem c_X11_count_v14 (l : Launch) (D : va_G) (cI cS : ClassId) (τ : Nat → Option Nat) (ρ : Nat → Nat → Nat) (hW : WF τ ρ) (H : Heap) (hT : TH D cI cS τ ρ H) (a0 : Nat) (x0 : Int32) (ha0 : τ a0 = some 11) (bl_x0 : 12 ≤ x0.toInt) : MI l D cI cS τ ρ yX11_count cX11_count 2 (some .int) 0 0 H [.ref a0, .int x0] (fun (r : Int32) (u : Heap) => H = u ∧ (-1) = r) (fun q => False) := by
  refine MI.of (by decide) (Nat.le_of_ble_eq_true rfl) ?_
  intro p e s m args below meth c E hml hr hlk hs ls hl
  have hx := E.1
  have hb := E.2.1
  have hown := E.2.2.1
  have hts := E.2.2.2.1
  have hS : SS (fun q => False) H H [] := SS.rf
  have hl : lv_has ls 2 [(0, .ref a0), (1, .int x0)] := hl
  refine lv_iload_n hx hb dX11_count_0 rfl (lv_at hl 1 rfl) ?_
  refine lv_tableOut (tgt := 190) hx hb dX11_count_1 (Or.inr (by (omega))) (by decide) ?_
  refine lv_iconst (v := (-1)) hx hb dX11_count_190 (by decide) ?_
  exact th_iret E hr hlk hs hT hS ⟨rfl, rfl⟩ dX11_count_191
