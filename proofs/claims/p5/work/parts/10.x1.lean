/-! one contract that a constructor calls -/
set_option maxHeartbeats 4000000 in
set_option maxRecDepth 100000 in
/-- StreamEnds$Config.setDefaults -/
theorem c_X1_setDefaults (l : Launch) (D : va_G) (cI cS : ClassId) (τ : Nat → Option Nat) (ρ : Nat → Nat → Nat) (hW : WF τ ρ) (H : Heap) (hT : TH D cI cS τ ρ H) (a0 : Nat) (ha0 : τ a0 = some 1) : MV l D cI cS τ ρ yX1_setDefaults cX1_setDefaults 1 none 0 0 H [.ref a0] (fun (u : Heap) => fi D 1 0 u a0 = 4 ∧ fi D 1 1 u a0 = 16 ∧ fi D 1 2 u a0 = 0 ∧ fi D 1 3 u a0 = 0 ∧ fi D 1 4 u a0 = 5) (fun q => q = a0) := by
  refine MV.of (by decide) (Nat.le_of_ble_eq_true rfl) ?_
  intro p e s m args below meth c E hml hr hlk hs ls hl
  have hx := E.1
  have hb := E.2.1
  have hown := E.2.2.1
  have hts := E.2.2.2.1
  have hS : SS (fun q => q = a0) H H [] := SS.rf
  have hl : lv_has ls 1 [(0, .ref a0)] := hl
  refine lv_aload_n hx hb dX1_setDefaults_0 rfl (lv_at hl 0 rfl) ?_
  refine lv_iconst (v := 4) hx hb dX1_setDefaults_1 (by decide) ?_
  refine pf_X1_14 E hT hS ha0 rfl dX1_setDefaults_2 (fun H_1 locs_1 hT_1 hU_1 hS_1 => ?_)
  refine lv_aload_n hx hb dX1_setDefaults_5 rfl (lv_at hl 0 rfl) ?_
  refine lv_bipush (v := 16) hx hb dX1_setDefaults_6 (by decide) ?_
  refine pf_X1_18 E hT_1 hS_1 ha0 rfl dX1_setDefaults_8 (fun H_2 locs_2 hT_2 hU_2 hS_2 => ?_)
  refine lv_aload_n hx hb dX1_setDefaults_11 rfl (lv_at hl 0 rfl) ?_
  refine lv_iconst (v := 0) hx hb dX1_setDefaults_12 (by decide) ?_
  refine pf_X1_21 E hT_2 hS_2 ha0 rfl dX1_setDefaults_13 (fun H_3 locs_3 hT_3 hU_3 hS_3 => ?_)
  refine lv_aload_n hx hb dX1_setDefaults_16 rfl (lv_at hl 0 rfl) ?_
  refine lv_iconst (v := 0) hx hb dX1_setDefaults_17 (by decide) ?_
  refine pf_X1_24 E hT_3 hS_3 ha0 rfl dX1_setDefaults_18 (fun H_4 locs_4 hT_4 hU_4 hS_4 => ?_)
  refine lv_aload_n hx hb dX1_setDefaults_21 rfl (lv_at hl 0 rfl) ?_
  refine lv_iconst (v := 5) hx hb dX1_setDefaults_22 (by decide) ?_
  refine pf_X1_27 E hT_4 hS_4 ha0 rfl dX1_setDefaults_23 (fun H_5 locs_5 hT_5 hU_5 hS_5 => ?_)
  exact th_vret E hr hlk hs hT_5 hS_5 ⟨(Eq.trans (PU.io hU_5 (j := 0) (by decide) (by decide)) (Eq.trans (PU.io hU_4 (j := 0) (by decide) (by decide)) (Eq.trans (PU.io hU_3 (j := 0) (by decide) (by decide)) (Eq.trans (PU.io hU_2 (j := 0) (by decide) (by decide)) (PU.i hU_1))))), (Eq.trans (PU.io hU_5 (j := 1) (by decide) (by decide)) (Eq.trans (PU.io hU_4 (j := 1) (by decide) (by decide)) (Eq.trans (PU.io hU_3 (j := 1) (by decide) (by decide)) (PU.i hU_2)))), (Eq.trans (PU.io hU_5 (j := 2) (by decide) (by decide)) (Eq.trans (PU.io hU_4 (j := 2) (by decide) (by decide)) (PU.i hU_3))), (Eq.trans (PU.io hU_5 (j := 3) (by decide) (by decide)) (PU.i hU_4)), (PU.i hU_5)⟩ dX1_setDefaults_26
