/-! THE REFERENCE: weak contracts (written by wip/gen) -/
set_option maxHeartbeats 4000000 in
set_option maxRecDepth 100000 in
/-- the reference: posts -/
theorem y_posts (l : Launch) (D : va_G) (cI cS : ClassId) (τ : Nat → Option Nat) (ρ : Nat → Nat → Nat) (hW : WF τ ρ) (H : Heap) (hT : TH D cI cS τ ρ H) (a0 : Nat) (ha0 : τ a0 = some 12) (N : Int) (hN0 : 0 ≤ N) (hN1 : N ≤ 600) (hI : IM D ρ N H a0) : MV l D cI cS τ ρ yX12_posts cX12_posts 2 none 0 0 H [.ref a0] (fun (u : Heap) => (IM D ρ N u a0) ∧ ((ai H (ρ a0 0) 976).toInt ≤ (ai u (ρ a0 0) 976).toInt)) (fun q => q = ρ a0 0) := by
  refine MV.of (by decide) (Nat.le_of_ble_eq_true rfl) ?_
  intro p e s m args below meth c E hml hr hlk hs ls hl
  have hx := E.1
  have hb := E.2.1
  have hown := E.2.2.1
  have hts := E.2.2.2.1
  have hS : SS (fun q => q = ρ a0 0) H H [] := SS.rf
  have hl : lv_has ls 2 [(0, .ref a0)] := hl
  have n01 := hI.2.2.2.2.2.1
  have n23 := hI.2.2.2.2.2.2.1
  have L_40 : ∀ (n : Nat) (H_c40 : Heap) (lc_c40 : List Loc) (ls : Array Slot) (y40_1 : Int32), TH D cI cS τ ρ H_c40 → SS (fun q => q = ρ a0 0) H H_c40 lc_c40 → lv_has ls 2 [(0, .ref a0), (1, .int y40_1)] → 0 ≤ y40_1.toInt → 0 ≤ (ai H (ρ a0 0) 976).toInt → (ai H (ρ a0 0) 976).toInt ≤ 19 → ai H_c40 (ρ a0 0) 976 = ai H (ρ a0 0) 976 → IM D ρ N H_c40 a0 → (ai H (ρ a0 0) 976).toInt ≤ (ai H_c40 (ρ a0 0) 976).toInt → (20 - y40_1.toInt).toNat < n → W p l e (rmO 0 0) s m args below meth c H_c40 lc_c40 0 0 (MQ below (va_Qv (fun (u : Heap) => (IM D ρ N u a0) ∧ ((ai H (ρ a0 0) 976).toInt ≤ (ai u (ρ a0 0) 976).toInt)) (Bt D cI cS τ ρ H) (fun q => q = ρ a0 0)) args s 0 0 (fun q => q = ρ a0 0)) (F0 m 40 ls []) := by
    intro n
    induction n with
    | zero => intro H_c40 lc_c40 ls y40_1 hT_c40 hS_c40 hl ly40_1 lg40_0 ug40_0 hg40_0 hI_c40 hmn_c40 hm; exact absurd hm (Nat.not_lt_zero _)
    | succ n ih_40 =>
      intro H_c40 lc_c40 ls y40_1 hT_c40 hS_c40 hl ly40_1 lg40_0 ug40_0 hg40_0 hI_c40 hmn_c40 hm_40
      have bb_g40_0 : 0 ≤ (ai H (ρ a0 0) 976).toInt ∧ (ai H (ρ a0 0) 976).toInt ≤ 20 := by rw [← hg40_0]; exact hI_c40.1 976 (by decide)
      have cg_g40_0 := congrArg Int32.toInt hg40_0
      refine lv_iload_n hx hb dX12_posts_40 rfl (lv_at hl 1 rfl) ?_
      refine lv_bipush (v := 20) hx hb dX12_posts_41 (by decide) ?_
      refine lv_icmp_ge (tgt := 80) hx hb dX12_posts_43 (by decide) (fun c_1 => ?_) (fun c_1 => ?_)
      · have f_1 : 20 ≤ y40_1.toInt := r_le (by decide) rfl c_1
        refine lv_aload_n hx hb dX12_posts_80 rfl (lv_at hl 0 rfl) ?_
        refine gf_X12_7 E hT_c40 hW ha0 dX12_posts_81 (fun h_2 => ?_)
        refine lv_sipush (v := 976) hx hb dX12_posts_84 (by decide) ?_
        refine lv_dup2_11 hx hb dX12_posts_87 rfl rfl ?_
        refine th_iald E hT_c40 h_2 (by decide) (vp_in_iff.mpr ⟨by decide, by decide⟩) dX12_posts_88 ?_
        refine th_topi (y := ai H_c40 (ρ a0 0) 976) rfl ?_
        refine th_topi (y := ai H (ρ a0 0) 976) hg40_0 ?_
        refine lv_topi (fun x_3 ex_3 => ?_)
        have b_x_3 : 0 ≤ x_3.toInt ∧ x_3.toInt ≤ 20 := by rw [← ex_3.symm]; exact hI.1 976 (by decide)
        have c_x_3 := congrArg Int32.toInt ex_3.symm
        refine lv_iconst (v := 1) hx hb dX12_posts_89 (by decide) ?_
        refine lv_iadd hx hb dX12_posts_90 ?_
        refine lv_topi (fun x_4 ex_4 => ?_)
        have q_4 : x_4.toInt = x_3.toInt + 1 := i_pl rfl (by decide) ex_4 (by omega) (by omega)
        refine th_iast E hT_c40 hS_c40 h_2 rfl (by decide) (vp_in_iff.mpr ⟨by decide, by decide⟩) dX12_posts_91 (fun H_5 locs_5 hT_5 hU_5 hS_5 => ?_)
        have hU_5 : AU 985 H_c40 H_5 (ρ a0 0) 976 x_4 := hU_5
        have hW_5 : PW N H_5 (ρ a0 0) := PW.put hI_c40.1 hU_5 (by show (0 : Int) ≤ x_4.toInt; omega) (by show x_4.toInt ≤ (20 : Int); omega)
        exact th_vret E hr hlk hs hT_5 hS_5 ⟨⟨hW_5, (QS.same (AU.o hU_5 (by decide) (by decide)) (AU.o hU_5 (by decide) (by decide)) hI_c40.2.1), (QS.same (AU.o hU_5 (by decide) (by decide)) (AU.o hU_5 (by decide) (by decide)) hI_c40.2.2.1), (PL.q (hU_5.2 _ (th_ne (hW _ 12 2 ha0 (by decide) (by decide) (by decide)) (hW _ 12 0 ha0 (by decide) (by decide) (by decide)) (by decide))) hI_c40.2.2.2.1), (PL.q (hU_5.2 _ (th_ne (hW _ 12 3 ha0 (by decide) (by decide) (by decide)) (hW _ 12 0 ha0 (by decide) (by decide) (by decide)) (by decide))) hI_c40.2.2.2.2.1), (IF.q (hU_5.2 _ (th_ne ha0 (hW _ 12 0 ha0 (by decide) (by decide) (by decide)) (by decide))) hI_c40.2.2.2.2.2)⟩, (by rw [(AU.s hU_5 (by decide))]; have : (ai H_c40 (ρ a0 0) 976).toInt = (x_3 : Int32).toInt := congrArg Int32.toInt (hg40_0.trans ex_3.symm); have : (ai H (ρ a0 0) 976).toInt = (x_3 : Int32).toInt := congrArg Int32.toInt ex_3.symm; omega)⟩ dX12_posts_92
      · have f_1 : y40_1.toInt < 20 := r_nle (by decide) rfl c_1
        refine lv_aload_n hx hb dX12_posts_46 rfl (lv_at hl 0 rfl) ?_
        refine gf_X12_7 E hT_c40 hW ha0 dX12_posts_47 (fun h_6 => ?_)
        refine lv_sipush (v := 576) hx hb dX12_posts_50 (by decide) ?_
        refine lv_bipush (v := 20) hx hb dX12_posts_53 (by decide) ?_
        refine lv_aload_n hx hb dX12_posts_55 rfl (lv_at hl 0 rfl) ?_
        refine gf_X12_7 E hT_c40 hW ha0 dX12_posts_56 (fun h_7 => ?_)
        refine lv_sipush (v := 976) hx hb dX12_posts_59 (by decide) ?_
        refine th_iald E hT_c40 h_7 (by decide) (vp_in_iff.mpr ⟨by decide, by decide⟩) dX12_posts_62 ?_
        refine th_topi (y := ai H_c40 (ρ a0 0) 976) rfl ?_
        refine th_topi (y := ai H (ρ a0 0) 976) hg40_0 ?_
        refine lv_topi (fun x_8 ex_8 => ?_)
        have b_x_8 : 0 ≤ x_8.toInt ∧ x_8.toInt ≤ 20 := by rw [← ex_8.symm]; exact hI.1 976 (by decide)
        have c_x_8 := congrArg Int32.toInt ex_8.symm
        refine lv_imul hx hb dX12_posts_63 ?_
        refine lv_topi (fun x_9 ex_9 => ?_)
        have q_9 : x_9.toInt = 20 * x_8.toInt := i_ml (by decide) rfl ex_9 (by omega) (by omega)
        refine lv_iadd hx hb dX12_posts_64 ?_
        refine lv_topi (fun x_10 ex_10 => ?_)
        have q_10 : x_10.toInt = 576 + x_9.toInt := i_pl (by decide) rfl ex_10 (by omega) (by omega)
        refine lv_iload_n hx hb dX12_posts_65 rfl (lv_at hl 1 rfl) ?_
        refine lv_iadd hx hb dX12_posts_66 ?_
        refine lv_topi (fun x_11 ex_11 => ?_)
        have q_11 : x_11.toInt = x_10.toInt + y40_1.toInt := i_pl rfl rfl ex_11 (by omega) (by omega)
        refine lv_aload_n hx hb dX12_posts_67 rfl (lv_at hl 0 rfl) ?_
        refine gf_X12_16 E hT_c40 hW ha0 dX12_posts_68 (fun h_12 => ?_)
        refine lv_iload_n hx hb dX12_posts_71 rfl (lv_at hl 1 rfl) ?_
        refine th_iald E hT_c40 h_12 (by decide) (vp_in_iff.mpr ⟨by omega, by omega⟩) dX12_posts_72 ?_
        refine th_topi (y := ai H_c40 (ρ a0 2) y40_1.toInt.toNat) rfl ?_
        refine lv_topi (fun x_13 ex_13 => ?_)
        have cl_13 : bL (y40_1.toInt.toNat) ≤ x_13.toInt ∧ x_13.toInt ≤ uL (y40_1.toInt.toNat) := by rw [ex_13]; exact hI_c40.2.2.2.1 _ (by omega)
        refine th_iast E hT_c40 hS_c40 h_6 rfl (by decide) (vp_in_iff.mpr ⟨by omega, by omega⟩) dX12_posts_73 (fun H_14 locs_14 hT_14 hU_14 hS_14 => ?_)
        have hU_14 : AU 985 H_c40 H_14 (ρ a0 0) x_11.toInt.toNat x_13 := hU_14
        have hW_14 : PW N H_14 (ρ a0 0) := PW.let hI_c40.1 hU_14 (by omega) (by omega) cl_13
        obtain ⟨x_15, ex_15⟩ : ∃ y : Int32, y40_1 + 1 = y := ⟨_, rfl⟩
        have q_x_15 : x_15.toInt = y40_1.toInt + 1 := i_add (k := 1) (by decide) ex_15 (by have := i_min y40_1; omega) (by have := i_max y40_1; omega)
        refine lv_iinc (v := x_15) (lv' := [(1, .int x_15), (0, .ref a0)]) hx hb dX12_posts_74 hl (k := 1) rfl (by rw [← ex_15]; rfl) (by decide) rfl (fun ls hl => ?_)
        refine lv_goto (tgt := 40) hx hb dX12_posts_77 (by decide) ?_
        exact ih_40 H_14 locs_14 _ x_15 hT_14 hS_14 (lv_sub hl [1, 0] rfl) (by omega) (by have b9 : 0 ≤ (ai H (ρ a0 0) 976 : Int32).toInt ∧ (ai H (ρ a0 0) 976 : Int32).toInt ≤ 20 := (by rw [← ((Eq.trans (AU.o hU_14 (by decide) (by omega)) (hg40_0.trans ex_8.symm)).trans ex_8.symm.symm)]; exact hW_14 976 (by decide)); omega) (by have b9 : 0 ≤ (ai H (ρ a0 0) 976 : Int32).toInt ∧ (ai H (ρ a0 0) 976 : Int32).toInt ≤ 20 := (by rw [← ((Eq.trans (AU.o hU_14 (by decide) (by omega)) (hg40_0.trans ex_8.symm)).trans ex_8.symm.symm)]; exact hW_14 976 (by decide)); omega) ((Eq.trans (AU.o hU_14 (by decide) (by omega)) (hg40_0.trans ex_8.symm)).trans ex_8.symm.symm) ⟨hW_14, (QS.same (AU.o hU_14 (by decide) (by omega)) (AU.o hU_14 (by decide) (by omega)) hI_c40.2.1), (QS.same (AU.o hU_14 (by decide) (by omega)) (AU.o hU_14 (by decide) (by omega)) hI_c40.2.2.1), (PL.q (hU_14.2 _ (th_ne (hW _ 12 2 ha0 (by decide) (by decide) (by decide)) (hW _ 12 0 ha0 (by decide) (by decide) (by decide)) (by decide))) hI_c40.2.2.2.1), (PL.q (hU_14.2 _ (th_ne (hW _ 12 3 ha0 (by decide) (by decide) (by decide)) (hW _ 12 0 ha0 (by decide) (by decide) (by decide)) (by decide))) hI_c40.2.2.2.2.1), (IF.q (hU_14.2 _ (th_ne ha0 (hW _ 12 0 ha0 (by decide) (by decide) (by decide)) (by decide))) hI_c40.2.2.2.2.2)⟩ (by rw [(Eq.trans (AU.o hU_14 (by decide) (by omega)) (hg40_0.trans ex_8.symm))]; have : (ai H_c40 (ρ a0 0) 976).toInt = (x_8 : Int32).toInt := congrArg Int32.toInt (hg40_0.trans ex_8.symm); have : (ai H (ρ a0 0) 976).toInt = (x_8 : Int32).toInt := congrArg Int32.toInt ex_8.symm; omega) (by omega)
  refine lv_aload_n hx hb dX12_posts_0 rfl (lv_at hl 0 rfl) ?_
  refine gf_X12_7 E hT hW ha0 dX12_posts_1 (fun h_16 => ?_)
  refine lv_sipush (v := 978) hx hb dX12_posts_4 (by decide) ?_
  refine lv_dup2_11 hx hb dX12_posts_7 rfl rfl ?_
  refine th_iald E hT h_16 (by decide) (vp_in_iff.mpr ⟨by decide, by decide⟩) dX12_posts_8 ?_
  refine th_topi (y := ai H (ρ a0 0) 978) rfl ?_
  refine lv_topi (fun x_17 ex_17 => ?_)
  have c_x_17 := congrArg Int32.toInt ex_17.symm
  refine lv_iconst (v := 1) hx hb dX12_posts_9 (by decide) ?_
  refine lv_iadd hx hb dX12_posts_10 ?_
  refine lv_topi (fun x_18 ex_18 => ?_)
  refine th_iast E hT hS h_16 rfl (by decide) (vp_in_iff.mpr ⟨by decide, by decide⟩) dX12_posts_11 (fun H_19 locs_19 hT_19 hU_19 hS_19 => ?_)
  have hU_19 : AU 985 H H_19 (ρ a0 0) 978 x_18 := hU_19
  have hW_19 : PW N H_19 (ρ a0 0) := PW.put hI.1 hU_19 (by show (-2147483648 : Int) ≤ _; exact i_min _) (by show _ ≤ (2147483647 : Int); exact i_max _)
  refine lv_aload_n hx hb dX12_posts_12 rfl (lv_at hl 0 rfl) ?_
  refine gf_X12_7 E hT_19 hW ha0 dX12_posts_13 (fun h_20 => ?_)
  refine lv_sipush (v := 976) hx hb dX12_posts_16 (by decide) ?_
  refine th_iald E hT_19 h_20 (by decide) (vp_in_iff.mpr ⟨by decide, by decide⟩) dX12_posts_19 ?_
  refine th_topi (y := ai H_19 (ρ a0 0) 976) rfl ?_
  refine th_topi (y := ai H (ρ a0 0) 976) (AU.o hU_19 (by decide) (by decide)) ?_
  refine lv_topi (fun x_21 ex_21 => ?_)
  have b_x_21 : 0 ≤ x_21.toInt ∧ x_21.toInt ≤ 20 := by rw [← ex_21.symm]; exact hI.1 976 (by decide)
  have c_x_21 := congrArg Int32.toInt ex_21.symm
  refine lv_bipush (v := 20) hx hb dX12_posts_20 (by decide) ?_
  refine lv_icmp_ne (tgt := 38) hx hb dX12_posts_22 (by decide) (fun c_22 => ?_) (fun c_22 => ?_)
  · have f_22 : ¬ x_21.toInt = 20 := r_ne rfl (by decide) c_22
    refine lv_iconst (v := 0) hx hb dX12_posts_38 (by decide) ?_
    refine lv_istore_n (lv' := [(1, .int 0), (0, .ref a0)]) hx hb dX12_posts_39 rfl hl (by decide) rfl (fun ls hl => ?_)
    exact L_40 _ H_19 locs_19 _ 0 hT_19 hS_19 (lv_sub hl [1, 0] rfl) (by decide) (by have b9 : 0 ≤ (ai H (ρ a0 0) 976 : Int32).toInt ∧ (ai H (ρ a0 0) 976 : Int32).toInt ≤ 20 := (by rw [← (((AU.o hU_19 (by decide) (by decide)).trans ex_21.symm).trans ex_21.symm.symm)]; exact hW_19 976 (by decide)); omega) (by have b9 : 0 ≤ (ai H (ρ a0 0) 976 : Int32).toInt ∧ (ai H (ρ a0 0) 976 : Int32).toInt ≤ 20 := (by rw [← (((AU.o hU_19 (by decide) (by decide)).trans ex_21.symm).trans ex_21.symm.symm)]; exact hW_19 976 (by decide)); omega) (((AU.o hU_19 (by decide) (by decide)).trans ex_21.symm).trans ex_21.symm.symm) ⟨hW_19, (QS.same (AU.o hU_19 (by decide) (by decide)) (AU.o hU_19 (by decide) (by decide)) hI.2.1), (QS.same (AU.o hU_19 (by decide) (by decide)) (AU.o hU_19 (by decide) (by decide)) hI.2.2.1), (PL.q (hU_19.2 _ (th_ne (hW _ 12 2 ha0 (by decide) (by decide) (by decide)) (hW _ 12 0 ha0 (by decide) (by decide) (by decide)) (by decide))) hI.2.2.2.1), (PL.q (hU_19.2 _ (th_ne (hW _ 12 3 ha0 (by decide) (by decide) (by decide)) (hW _ 12 0 ha0 (by decide) (by decide) (by decide)) (by decide))) hI.2.2.2.2.1), (IF.q (hU_19.2 _ (th_ne ha0 (hW _ 12 0 ha0 (by decide) (by decide) (by decide)) (by decide))) hI.2.2.2.2.2)⟩ (by rw [((AU.o hU_19 (by decide) (by decide)).trans ex_21.symm)]; have : (ai H (ρ a0 0) 976).toInt = (x_21 : Int32).toInt := congrArg Int32.toInt ex_21.symm; omega) (Nat.lt_succ_self _)
  · have f_22 : x_21.toInt = 20 := r_eq rfl (by decide) c_22
    refine lv_aload_n hx hb dX12_posts_25 rfl (lv_at hl 0 rfl) ?_
    refine gf_X12_7 E hT_19 hW ha0 dX12_posts_26 (fun h_23 => ?_)
    refine lv_sipush (v := 979) hx hb dX12_posts_29 (by decide) ?_
    refine lv_dup2_11 hx hb dX12_posts_32 rfl rfl ?_
    refine th_iald E hT_19 h_23 (by decide) (vp_in_iff.mpr ⟨by decide, by decide⟩) dX12_posts_33 ?_
    refine th_topi (y := ai H_19 (ρ a0 0) 979) rfl ?_
    refine th_topi (y := ai H (ρ a0 0) 979) (AU.o hU_19 (by decide) (by decide)) ?_
    refine lv_topi (fun x_24 ex_24 => ?_)
    have c_x_24 := congrArg Int32.toInt ex_24.symm
    refine lv_iconst (v := 1) hx hb dX12_posts_34 (by decide) ?_
    refine lv_iadd hx hb dX12_posts_35 ?_
    refine lv_topi (fun x_25 ex_25 => ?_)
    refine th_iast E hT_19 hS_19 h_23 rfl (by decide) (vp_in_iff.mpr ⟨by decide, by decide⟩) dX12_posts_36 (fun H_26 locs_26 hT_26 hU_26 hS_26 => ?_)
    have hU_26 : AU 985 H_19 H_26 (ρ a0 0) 979 x_25 := hU_26
    have hW_26 : PW N H_26 (ρ a0 0) := PW.put hW_19 hU_26 (by show (-2147483648 : Int) ≤ _; exact i_min _) (by show _ ≤ (2147483647 : Int); exact i_max _)
    exact th_vret E hr hlk hs hT_26 hS_26 ⟨⟨hW_26, (QS.same (Eq.trans (AU.o hU_26 (by decide) (by decide)) (AU.o hU_19 (by decide) (by decide))) (Eq.trans (AU.o hU_26 (by decide) (by decide)) (AU.o hU_19 (by decide) (by decide))) hI.2.1), (QS.same (Eq.trans (AU.o hU_26 (by decide) (by decide)) (AU.o hU_19 (by decide) (by decide))) (Eq.trans (AU.o hU_26 (by decide) (by decide)) (AU.o hU_19 (by decide) (by decide))) hI.2.2.1), (PL.q (hU_26.2 _ (th_ne (hW _ 12 2 ha0 (by decide) (by decide) (by decide)) (hW _ 12 0 ha0 (by decide) (by decide) (by decide)) (by decide))) (PL.q (hU_19.2 _ (th_ne (hW _ 12 2 ha0 (by decide) (by decide) (by decide)) (hW _ 12 0 ha0 (by decide) (by decide) (by decide)) (by decide))) hI.2.2.2.1)), (PL.q (hU_26.2 _ (th_ne (hW _ 12 3 ha0 (by decide) (by decide) (by decide)) (hW _ 12 0 ha0 (by decide) (by decide) (by decide)) (by decide))) (PL.q (hU_19.2 _ (th_ne (hW _ 12 3 ha0 (by decide) (by decide) (by decide)) (hW _ 12 0 ha0 (by decide) (by decide) (by decide)) (by decide))) hI.2.2.2.2.1)), (IF.q (hU_26.2 _ (th_ne ha0 (hW _ 12 0 ha0 (by decide) (by decide) (by decide)) (by decide))) (IF.q (hU_19.2 _ (th_ne ha0 (hW _ 12 0 ha0 (by decide) (by decide) (by decide)) (by decide))) hI.2.2.2.2.2))⟩, (by rw [(Eq.trans (AU.o hU_26 (by decide) (by decide)) ((AU.o hU_19 (by decide) (by decide)).trans ex_21.symm))]; have : (ai H (ρ a0 0) 976).toInt = (x_21 : Int32).toInt := congrArg Int32.toInt ex_21.symm; omega)⟩ dX12_posts_37
set_option maxHeartbeats 4000000 in
set_option maxRecDepth 100000 in
/-- the reference: removes -/
theorem y_removes (l : Launch) (D : va_G) (cI cS : ClassId) (τ : Nat → Option Nat) (ρ : Nat → Nat → Nat) (hW : WF τ ρ) (H : Heap) (hT : TH D cI cS τ ρ H) (a0 : Nat) (x0 : Int32) (ha0 : τ a0 = some 12) (N : Int) (hN0 : 0 ≤ N) (hN1 : N ≤ 600) (hI : IM D ρ N H a0) (hp0 : 0 ≤ x0.toInt ∧ x0.toInt + 1 ≤ (ai H (ρ a0 0) 976).toInt) : MV l D cI cS τ ρ yX12_removes cX12_removes 3 none 0 0 H [.ref a0, .int x0] (fun (u : Heap) => (IM D ρ N u a0) ∧ ((ai u (ρ a0 0) 976).toInt = (ai H (ρ a0 0) 976).toInt - 1)) (fun q => q = ρ a0 0) := by
  refine MV.of (by decide) (Nat.le_of_ble_eq_true rfl) ?_
  intro p e s m args below meth c E hml hr hlk hs ls hl
  have hx := E.1
  have hb := E.2.1
  have hown := E.2.2.1
  have hts := E.2.2.2.1
  have hS : SS (fun q => q = ρ a0 0) H H [] := SS.rf
  have hl : lv_has ls 3 [(0, .ref a0), (1, .int x0)] := hl
  have n01 := hI.2.2.2.2.2.1
  have n23 := hI.2.2.2.2.2.2.1
  have L_21 : ∀ (n : Nat) (H_c21 : Heap) (lc_c21 : List Loc) (ls : Array Slot) (y21_2 : Int32) (g21_0 : Int32), TH D cI cS τ ρ H_c21 → SS (fun q => q = ρ a0 0) H H_c21 lc_c21 → lv_has ls 3 [(0, .ref a0), (1, .int x0), (2, .int y21_2)] → 0 ≤ x0.toInt → x0.toInt ≤ 19 → 576 ≤ y21_2.toInt → y21_2.toInt ≤ 956 → -1 ≤ g21_0.toInt → g21_0.toInt ≤ 19 → ai H_c21 (ρ a0 0) 976 = g21_0 → IM D ρ N H_c21 a0 → (ai H_c21 (ρ a0 0) 976).toInt = (ai H (ρ a0 0) 976).toInt - 1 → (976 - y21_2.toInt).toNat < n → W p l e (rmO 0 0) s m args below meth c H_c21 lc_c21 0 0 (MQ below (va_Qv (fun (u : Heap) => (IM D ρ N u a0) ∧ ((ai u (ρ a0 0) 976).toInt = (ai H (ρ a0 0) 976).toInt - 1)) (Bt D cI cS τ ρ H) (fun q => q = ρ a0 0)) args s 0 0 (fun q => q = ρ a0 0)) (F0 m 21 ls []) := by
    intro n
    induction n with
    | zero => intro H_c21 lc_c21 ls y21_2 g21_0 hT_c21 hS_c21 hl ly21_1 uy21_1 ly21_2 uy21_2 lg21_0 ug21_0 hg21_0 hI_c21 hx21_0 hm; exact absurd hm (Nat.not_lt_zero _)
    | succ n ih_21 =>
      intro H_c21 lc_c21 ls y21_2 g21_0 hT_c21 hS_c21 hl ly21_1 uy21_1 ly21_2 uy21_2 lg21_0 ug21_0 hg21_0 hI_c21 hx21_0 hm_21
      have bb_g21_0 : 0 ≤ g21_0.toInt ∧ g21_0.toInt ≤ 20 := by rw [← hg21_0]; exact hI_c21.1 976 (by decide)
      have cg_g21_0 := congrArg Int32.toInt hg21_0
      refine lv_iload_n hx hb dX12_removes_21 rfl (lv_at hl 2 rfl) ?_
      refine lv_sipush (v := 576) hx hb dX12_removes_22 (by decide) ?_
      refine lv_bipush (v := 20) hx hb dX12_removes_25 (by decide) ?_
      refine lv_aload_n hx hb dX12_removes_27 rfl (lv_at hl 0 rfl) ?_
      refine gf_X12_7 E hT_c21 hW ha0 dX12_removes_28 (fun h_1 => ?_)
      refine lv_sipush (v := 976) hx hb dX12_removes_31 (by decide) ?_
      refine th_iald E hT_c21 h_1 (by decide) (vp_in_iff.mpr ⟨by decide, by decide⟩) dX12_removes_34 ?_
      refine th_topi (y := ai H_c21 (ρ a0 0) 976) rfl ?_
      refine th_topi (y := g21_0) hg21_0 ?_
      refine lv_imul hx hb dX12_removes_35 ?_
      refine lv_topi (fun x_3 ex_3 => ?_)
      have q_3 : x_3.toInt = 20 * g21_0.toInt := i_ml (by decide) rfl ex_3 (by omega) (by omega)
      refine lv_iadd hx hb dX12_removes_36 ?_
      refine lv_topi (fun x_4 ex_4 => ?_)
      have q_4 : x_4.toInt = 576 + x_3.toInt := i_pl (by decide) rfl ex_4 (by omega) (by omega)
      refine lv_icmp_ge (tgt := 61) hx hb dX12_removes_37 (by decide) (fun c_5 => ?_) (fun c_5 => ?_)
      · have f_5 : x_4.toInt ≤ y21_2.toInt := r_le rfl rfl c_5
        exact th_vret E hr hlk hs hT_c21 hS_c21 ⟨⟨hI_c21.1, hI_c21.2.1, hI_c21.2.2.1, hI_c21.2.2.2.1, hI_c21.2.2.2.2.1, hI_c21.2.2.2.2.2⟩, (by have : (ai H_c21 (ρ a0 0) 976).toInt = (g21_0 : Int32).toInt := congrArg Int32.toInt hg21_0; omega)⟩ dX12_removes_61
      · have f_5 : y21_2.toInt < x_4.toInt := r_nle rfl rfl c_5
        refine lv_aload_n hx hb dX12_removes_40 rfl (lv_at hl 0 rfl) ?_
        refine gf_X12_7 E hT_c21 hW ha0 dX12_removes_41 (fun h_6 => ?_)
        refine lv_iload_n hx hb dX12_removes_44 rfl (lv_at hl 2 rfl) ?_
        refine lv_aload_n hx hb dX12_removes_45 rfl (lv_at hl 0 rfl) ?_
        refine gf_X12_7 E hT_c21 hW ha0 dX12_removes_46 (fun h_7 => ?_)
        refine lv_iload_n hx hb dX12_removes_49 rfl (lv_at hl 2 rfl) ?_
        refine lv_bipush (v := 20) hx hb dX12_removes_50 (by decide) ?_
        refine lv_iadd hx hb dX12_removes_52 ?_
        refine lv_topi (fun x_8 ex_8 => ?_)
        have q_8 : x_8.toInt = y21_2.toInt + 20 := i_pl rfl (by decide) ex_8 (by omega) (by omega)
        refine th_iald E hT_c21 h_7 (by decide) (vp_in_iff.mpr ⟨by omega, by omega⟩) dX12_removes_53 ?_
        refine th_topi (y := ai H_c21 (ρ a0 0) x_8.toInt.toNat) rfl ?_
        refine lv_topi (fun x_9 ex_9 => ?_)
        have cl_9 : bW (x_8.toInt.toNat) ≤ x_9.toInt ∧ x_9.toInt ≤ uW N (x_8.toInt.toNat) := by rw [ex_9]; exact hI_c21.1 _ (by have := i_max x_8; omega)
        refine th_iast E hT_c21 hS_c21 h_6 rfl (by decide) (vp_in_iff.mpr ⟨by omega, by omega⟩) dX12_removes_54 (fun H_10 locs_10 hT_10 hU_10 hS_10 => ?_)
        have hU_10 : AU 985 H_c21 H_10 (ρ a0 0) y21_2.toInt.toNat x_9 := hU_10
        have hW_10 : PW N H_10 (ρ a0 0) := PW.shift hI_c21.1 hU_10 cl_9 (by omega) (by omega) (by omega)
        obtain ⟨x_11, ex_11⟩ : ∃ y : Int32, y21_2 + 1 = y := ⟨_, rfl⟩
        have q_x_11 : x_11.toInt = y21_2.toInt + 1 := i_add (k := 1) (by decide) ex_11 (by have := i_min y21_2; omega) (by have := i_max y21_2; omega)
        refine lv_iinc (v := x_11) (lv' := [(2, .int x_11), (0, .ref a0), (1, .int x0)]) hx hb dX12_removes_55 hl (k := 2) rfl (by rw [← ex_11]; rfl) (by decide) rfl (fun ls hl => ?_)
        refine lv_goto (tgt := 21) hx hb dX12_removes_58 (by decide) ?_
        exact ih_21 H_10 locs_10 _ x_11 g21_0 hT_10 hS_10 (lv_sub hl [1, 2, 0] rfl) (by omega) (by omega) (by omega) (by omega) (by have b9 : 0 ≤ (g21_0 : Int32).toInt ∧ (g21_0 : Int32).toInt ≤ 20 := (by rw [← (Eq.trans (AU.o hU_10 (by decide) (by omega)) hg21_0)]; exact hW_10 976 (by decide)); omega) (by have b9 : 0 ≤ (g21_0 : Int32).toInt ∧ (g21_0 : Int32).toInt ≤ 20 := (by rw [← (Eq.trans (AU.o hU_10 (by decide) (by omega)) hg21_0)]; exact hW_10 976 (by decide)); omega) (Eq.trans (AU.o hU_10 (by decide) (by omega)) hg21_0) ⟨hW_10, (QS.same (AU.o hU_10 (by decide) (by omega)) (AU.o hU_10 (by decide) (by omega)) hI_c21.2.1), (QS.same (AU.o hU_10 (by decide) (by omega)) (AU.o hU_10 (by decide) (by omega)) hI_c21.2.2.1), (PL.q (hU_10.2 _ (th_ne (hW _ 12 2 ha0 (by decide) (by decide) (by decide)) (hW _ 12 0 ha0 (by decide) (by decide) (by decide)) (by decide))) hI_c21.2.2.2.1), (PL.q (hU_10.2 _ (th_ne (hW _ 12 3 ha0 (by decide) (by decide) (by decide)) (hW _ 12 0 ha0 (by decide) (by decide) (by decide)) (by decide))) hI_c21.2.2.2.2.1), (IF.q (hU_10.2 _ (th_ne ha0 (hW _ 12 0 ha0 (by decide) (by decide) (by decide)) (by decide))) hI_c21.2.2.2.2.2)⟩ (by have : (ai H_10 (ρ a0 0) 976).toInt = (g21_0 : Int32).toInt := congrArg Int32.toInt (Eq.trans (AU.o hU_10 (by decide) (by omega)) hg21_0); have : (ai H_c21 (ρ a0 0) 976).toInt = (g21_0 : Int32).toInt := congrArg Int32.toInt hg21_0; omega) (by omega)
  refine lv_aload_n hx hb dX12_removes_0 rfl (lv_at hl 0 rfl) ?_
  refine gf_X12_7 E hT hW ha0 dX12_removes_1 (fun h_12 => ?_)
  refine lv_sipush (v := 976) hx hb dX12_removes_4 (by decide) ?_
  refine lv_dup2_11 hx hb dX12_removes_7 rfl rfl ?_
  refine th_iald E hT h_12 (by decide) (vp_in_iff.mpr ⟨by decide, by decide⟩) dX12_removes_8 ?_
  refine th_topi (y := ai H (ρ a0 0) 976) rfl ?_
  refine lv_topi (fun x_13 ex_13 => ?_)
  have b_x_13 : 0 ≤ x_13.toInt ∧ x_13.toInt ≤ 20 := by rw [← ex_13.symm]; exact hI.1 976 (by decide)
  have c_x_13 := congrArg Int32.toInt ex_13.symm
  refine lv_iconst (v := 1) hx hb dX12_removes_9 (by decide) ?_
  refine lv_isub hx hb dX12_removes_10 ?_
  refine lv_topi (fun x_14 ex_14 => ?_)
  have q_14 : x_14.toInt = x_13.toInt - 1 := i_mi rfl (by decide) ex_14 (by omega) (by omega)
  refine th_iast E hT hS h_12 rfl (by decide) (vp_in_iff.mpr ⟨by decide, by decide⟩) dX12_removes_11 (fun H_15 locs_15 hT_15 hU_15 hS_15 => ?_)
  have hU_15 : AU 985 H H_15 (ρ a0 0) 976 x_14 := hU_15
  have hW_15 : PW N H_15 (ρ a0 0) := PW.put hI.1 hU_15 (by show (0 : Int) ≤ x_14.toInt; omega) (by show x_14.toInt ≤ (20 : Int); omega)
  refine lv_sipush (v := 576) hx hb dX12_removes_12 (by decide) ?_
  refine lv_bipush (v := 20) hx hb dX12_removes_15 (by decide) ?_
  refine lv_iload_n hx hb dX12_removes_17 rfl (lv_at hl 1 rfl) ?_
  refine lv_imul hx hb dX12_removes_18 ?_
  refine lv_topi (fun x_16 ex_16 => ?_)
  have q_16 : x_16.toInt = 20 * x0.toInt := i_ml (by decide) rfl ex_16 (by omega) (by omega)
  refine lv_iadd hx hb dX12_removes_19 ?_
  refine lv_topi (fun x_17 ex_17 => ?_)
  have q_17 : x_17.toInt = 576 + x_16.toInt := i_pl (by decide) rfl ex_17 (by omega) (by omega)
  refine lv_istore_n (lv' := [(2, .int x_17), (0, .ref a0), (1, .int x0)]) hx hb dX12_removes_20 rfl hl (by decide) rfl (fun ls hl => ?_)
  exact L_21 _ H_15 locs_15 _ x_17 x_14 hT_15 hS_15 (lv_sub hl [1, 2, 0] rfl) (by omega) (by omega) (by omega) (by omega) (by have b9 : 0 ≤ (x_14 : Int32).toInt ∧ (x_14 : Int32).toInt ≤ 20 := (by rw [← (AU.s hU_15 (by decide))]; exact hW_15 976 (by decide)); omega) (by have b9 : 0 ≤ (x_14 : Int32).toInt ∧ (x_14 : Int32).toInt ≤ 20 := (by rw [← (AU.s hU_15 (by decide))]; exact hW_15 976 (by decide)); omega) (AU.s hU_15 (by decide)) ⟨hW_15, (QS.same (AU.o hU_15 (by decide) (by decide)) (AU.o hU_15 (by decide) (by decide)) hI.2.1), (QS.same (AU.o hU_15 (by decide) (by decide)) (AU.o hU_15 (by decide) (by decide)) hI.2.2.1), (PL.q (hU_15.2 _ (th_ne (hW _ 12 2 ha0 (by decide) (by decide) (by decide)) (hW _ 12 0 ha0 (by decide) (by decide) (by decide)) (by decide))) hI.2.2.2.1), (PL.q (hU_15.2 _ (th_ne (hW _ 12 3 ha0 (by decide) (by decide) (by decide)) (hW _ 12 0 ha0 (by decide) (by decide) (by decide)) (by decide))) hI.2.2.2.2.1), (IF.q (hU_15.2 _ (th_ne ha0 (hW _ 12 0 ha0 (by decide) (by decide) (by decide)) (by decide))) hI.2.2.2.2.2)⟩ (by have : (ai H_15 (ρ a0 0) 976).toInt = (x_14 : Int32).toInt := congrArg Int32.toInt (AU.s hU_15 (by decide)); have : (ai H (ρ a0 0) 976).toInt = (x_13 : Int32).toInt := congrArg Int32.toInt ex_13.symm; have : (ai H (ρ a0 0) 976).toInt = (x_13 : Int32).toInt := congrArg Int32.toInt ex_13.symm; omega) (Nat.lt_succ_self _)
set_option maxHeartbeats 4000000 in
set_option maxRecDepth 100000 in
/-- the reference: doubles -/
theorem y_doubles (l : Launch) (D : va_G) (cI cS : ClassId) (τ : Nat → Option Nat) (ρ : Nat → Nat → Nat) (hW : WF τ ρ) (H : Heap) (hT : TH D cI cS τ ρ H) (a0 : Nat) (x0 : Int32) (ha0 : τ a0 = some 12) (N : Int) (hN0 : 0 ≤ N) (hN1 : N ≤ 600) (hI : IM D ρ N H a0) (hp0 : 0 ≤ x0.toInt ∧ x0.toInt ≤ 19) : MI l D cI cS τ ρ yX12_doubles cX12_doubles 3 (some .int) 0 0 H [.ref a0, .int x0] (fun (r : Int32) (u : Heap) => (IM D ρ N u a0)) (fun q => q = ρ a0 0) := by
  refine MI.of (by decide) (Nat.le_of_ble_eq_true rfl) ?_
  intro p e s m args below meth c E hml hr hlk hs ls hl
  have hx := E.1
  have hb := E.2.1
  have hown := E.2.2.1
  have hts := E.2.2.2.1
  have hS : SS (fun q => q = ρ a0 0) H H [] := SS.rf
  have hl : lv_has ls 3 [(0, .ref a0), (1, .int x0)] := hl
  have n01 := hI.2.2.2.2.2.1
  have n23 := hI.2.2.2.2.2.2.1
  have L_18 : ∀ (n : Nat) (H_c18 : Heap) (lc_c18 : List Loc) (ls : Array Slot) (y18_2 : Int32), TH D cI cS τ ρ H_c18 → SS (fun q => q = ρ a0 0) H H_c18 lc_c18 → lv_has ls 3 [(0, .ref a0), (1, .int x0), (2, .int y18_2)] → 0 ≤ x0.toInt → x0.toInt ≤ 19 → 0 ≤ y18_2.toInt → 0 ≤ (ai H (ρ a0 0) 976).toInt → (ai H (ρ a0 0) 976).toInt ≤ 19 → ai H_c18 (ρ a0 0) 976 = ai H (ρ a0 0) 976 → IM D ρ N H_c18 a0 → (20 - y18_2.toInt).toNat < n → W p l e (rmO 0 0) s m args below meth c H_c18 lc_c18 0 0 (MQ below (va_Qi (fun (r : Int32) (u : Heap) => (IM D ρ N u a0)) (Bt D cI cS τ ρ H) (fun q => q = ρ a0 0)) args s 0 0 (fun q => q = ρ a0 0)) (F0 m 18 ls []) := by
    intro n
    induction n with
    | zero => intro H_c18 lc_c18 ls y18_2 hT_c18 hS_c18 hl ly18_1 uy18_1 ly18_2 lg18_0 ug18_0 hg18_0 hI_c18 hm; exact absurd hm (Nat.not_lt_zero _)
    | succ n ih_18 =>
      intro H_c18 lc_c18 ls y18_2 hT_c18 hS_c18 hl ly18_1 uy18_1 ly18_2 lg18_0 ug18_0 hg18_0 hI_c18 hm_18
      have bb_g18_0 : 0 ≤ (ai H (ρ a0 0) 976).toInt ∧ (ai H (ρ a0 0) 976).toInt ≤ 20 := by rw [← hg18_0]; exact hI_c18.1 976 (by decide)
      have cg_g18_0 := congrArg Int32.toInt hg18_0
      refine lv_iload_n hx hb dX12_doubles_18 rfl (lv_at hl 2 rfl) ?_
      refine lv_bipush (v := 20) hx hb dX12_doubles_19 (by decide) ?_
      refine lv_icmp_ge (tgt := 67) hx hb dX12_doubles_21 (by decide) (fun c_1 => ?_) (fun c_1 => ?_)
      · have f_1 : 20 ≤ y18_2.toInt := r_le (by decide) rfl c_1
        refine lv_aload_n hx hb dX12_doubles_67 rfl (lv_at hl 0 rfl) ?_
        refine gf_X12_7 E hT_c18 hW ha0 dX12_doubles_68 (fun h_2 => ?_)
        refine lv_sipush (v := 976) hx hb dX12_doubles_71 (by decide) ?_
        refine lv_dup2_11 hx hb dX12_doubles_74 rfl rfl ?_
        refine th_iald E hT_c18 h_2 (by decide) (vp_in_iff.mpr ⟨by decide, by decide⟩) dX12_doubles_75 ?_
        refine th_topi (y := ai H_c18 (ρ a0 0) 976) rfl ?_
        refine th_topi (y := ai H (ρ a0 0) 976) hg18_0 ?_
        refine lv_topi (fun x_3 ex_3 => ?_)
        have b_x_3 : 0 ≤ x_3.toInt ∧ x_3.toInt ≤ 20 := by rw [← ex_3.symm]; exact hI.1 976 (by decide)
        have c_x_3 := congrArg Int32.toInt ex_3.symm
        refine lv_iconst (v := 1) hx hb dX12_doubles_76 (by decide) ?_
        refine lv_iadd hx hb dX12_doubles_77 ?_
        refine lv_topi (fun x_4 ex_4 => ?_)
        have q_4 : x_4.toInt = x_3.toInt + 1 := i_pl rfl (by decide) ex_4 (by omega) (by omega)
        refine th_iast E hT_c18 hS_c18 h_2 rfl (by decide) (vp_in_iff.mpr ⟨by decide, by decide⟩) dX12_doubles_78 (fun H_5 locs_5 hT_5 hU_5 hS_5 => ?_)
        have hU_5 : AU 985 H_c18 H_5 (ρ a0 0) 976 x_4 := hU_5
        have hW_5 : PW N H_5 (ρ a0 0) := PW.put hI_c18.1 hU_5 (by show (0 : Int) ≤ x_4.toInt; omega) (by show x_4.toInt ≤ (20 : Int); omega)
        refine lv_aload_n hx hb dX12_doubles_79 rfl (lv_at hl 0 rfl) ?_
        refine gf_X12_7 E hT_5 hW ha0 dX12_doubles_80 (fun h_6 => ?_)
        refine lv_sipush (v := 976) hx hb dX12_doubles_83 (by decide) ?_
        refine th_iald E hT_5 h_6 (by decide) (vp_in_iff.mpr ⟨by decide, by decide⟩) dX12_doubles_86 ?_
        refine th_topi (y := ai H_5 (ρ a0 0) 976) rfl ?_
        refine th_topi (y := x_4) (AU.s hU_5 (by decide)) ?_
        exact th_iret E hr hlk hs hT_5 hS_5 ⟨hW_5, (QS.same (AU.o hU_5 (by decide) (by decide)) (AU.o hU_5 (by decide) (by decide)) hI_c18.2.1), (QS.same (AU.o hU_5 (by decide) (by decide)) (AU.o hU_5 (by decide) (by decide)) hI_c18.2.2.1), (PL.q (hU_5.2 _ (th_ne (hW _ 12 2 ha0 (by decide) (by decide) (by decide)) (hW _ 12 0 ha0 (by decide) (by decide) (by decide)) (by decide))) hI_c18.2.2.2.1), (PL.q (hU_5.2 _ (th_ne (hW _ 12 3 ha0 (by decide) (by decide) (by decide)) (hW _ 12 0 ha0 (by decide) (by decide) (by decide)) (by decide))) hI_c18.2.2.2.2.1), (IF.q (hU_5.2 _ (th_ne ha0 (hW _ 12 0 ha0 (by decide) (by decide) (by decide)) (by decide))) hI_c18.2.2.2.2.2)⟩ dX12_doubles_87
      · have f_1 : y18_2.toInt < 20 := r_nle (by decide) rfl c_1
        refine lv_aload_n hx hb dX12_doubles_24 rfl (lv_at hl 0 rfl) ?_
        refine gf_X12_7 E hT_c18 hW ha0 dX12_doubles_25 (fun h_8 => ?_)
        refine lv_sipush (v := 576) hx hb dX12_doubles_28 (by decide) ?_
        refine lv_bipush (v := 20) hx hb dX12_doubles_31 (by decide) ?_
        refine lv_aload_n hx hb dX12_doubles_33 rfl (lv_at hl 0 rfl) ?_
        refine gf_X12_7 E hT_c18 hW ha0 dX12_doubles_34 (fun h_9 => ?_)
        refine lv_sipush (v := 976) hx hb dX12_doubles_37 (by decide) ?_
        refine th_iald E hT_c18 h_9 (by decide) (vp_in_iff.mpr ⟨by decide, by decide⟩) dX12_doubles_40 ?_
        refine th_topi (y := ai H_c18 (ρ a0 0) 976) rfl ?_
        refine th_topi (y := ai H (ρ a0 0) 976) hg18_0 ?_
        refine lv_topi (fun x_10 ex_10 => ?_)
        have b_x_10 : 0 ≤ x_10.toInt ∧ x_10.toInt ≤ 20 := by rw [← ex_10.symm]; exact hI.1 976 (by decide)
        have c_x_10 := congrArg Int32.toInt ex_10.symm
        refine lv_imul hx hb dX12_doubles_41 ?_
        refine lv_topi (fun x_11 ex_11 => ?_)
        have q_11 : x_11.toInt = 20 * x_10.toInt := i_ml (by decide) rfl ex_11 (by omega) (by omega)
        refine lv_iadd hx hb dX12_doubles_42 ?_
        refine lv_topi (fun x_12 ex_12 => ?_)
        have q_12 : x_12.toInt = 576 + x_11.toInt := i_pl (by decide) rfl ex_12 (by omega) (by omega)
        refine lv_iload_n hx hb dX12_doubles_43 rfl (lv_at hl 2 rfl) ?_
        refine lv_iadd hx hb dX12_doubles_44 ?_
        refine lv_topi (fun x_13 ex_13 => ?_)
        have q_13 : x_13.toInt = x_12.toInt + y18_2.toInt := i_pl rfl rfl ex_13 (by omega) (by omega)
        refine lv_aload_n hx hb dX12_doubles_45 rfl (lv_at hl 0 rfl) ?_
        refine gf_X12_7 E hT_c18 hW ha0 dX12_doubles_46 (fun h_14 => ?_)
        refine lv_sipush (v := 576) hx hb dX12_doubles_49 (by decide) ?_
        refine lv_bipush (v := 20) hx hb dX12_doubles_52 (by decide) ?_
        refine lv_iload_n hx hb dX12_doubles_54 rfl (lv_at hl 1 rfl) ?_
        refine lv_imul hx hb dX12_doubles_55 ?_
        refine lv_topi (fun x_15 ex_15 => ?_)
        have q_15 : x_15.toInt = 20 * x0.toInt := i_ml (by decide) rfl ex_15 (by omega) (by omega)
        refine lv_iadd hx hb dX12_doubles_56 ?_
        refine lv_topi (fun x_16 ex_16 => ?_)
        have q_16 : x_16.toInt = 576 + x_15.toInt := i_pl (by decide) rfl ex_16 (by omega) (by omega)
        refine lv_iload_n hx hb dX12_doubles_57 rfl (lv_at hl 2 rfl) ?_
        refine lv_iadd hx hb dX12_doubles_58 ?_
        refine lv_topi (fun x_17 ex_17 => ?_)
        have q_17 : x_17.toInt = x_16.toInt + y18_2.toInt := i_pl rfl rfl ex_17 (by omega) (by omega)
        refine th_iald E hT_c18 h_14 (by decide) (vp_in_iff.mpr ⟨by omega, by omega⟩) dX12_doubles_59 ?_
        refine th_topi (y := ai H_c18 (ρ a0 0) x_17.toInt.toNat) rfl ?_
        refine lv_topi (fun x_18 ex_18 => ?_)
        have cl_18 : bW (x_17.toInt.toNat) ≤ x_18.toInt ∧ x_18.toInt ≤ uW N (x_17.toInt.toNat) := by rw [ex_18]; exact hI_c18.1 _ (by have := i_max x_17; omega)
        refine th_iast E hT_c18 hS_c18 h_8 rfl (by decide) (vp_in_iff.mpr ⟨by omega, by omega⟩) dX12_doubles_60 (fun H_19 locs_19 hT_19 hU_19 hS_19 => ?_)
        have hU_19 : AU 985 H_c18 H_19 (ρ a0 0) x_13.toInt.toNat x_18 := hU_19
        have hW_19 : PW N H_19 (ρ a0 0) := PW.shift hI_c18.1 hU_19 cl_18 (by omega) (by omega) (by omega)
        obtain ⟨x_20, ex_20⟩ : ∃ y : Int32, y18_2 + 1 = y := ⟨_, rfl⟩
        have q_x_20 : x_20.toInt = y18_2.toInt + 1 := i_add (k := 1) (by decide) ex_20 (by have := i_min y18_2; omega) (by have := i_max y18_2; omega)
        refine lv_iinc (v := x_20) (lv' := [(2, .int x_20), (0, .ref a0), (1, .int x0)]) hx hb dX12_doubles_61 hl (k := 2) rfl (by rw [← ex_20]; rfl) (by decide) rfl (fun ls hl => ?_)
        refine lv_goto (tgt := 18) hx hb dX12_doubles_64 (by decide) ?_
        exact ih_18 H_19 locs_19 _ x_20 hT_19 hS_19 (lv_sub hl [1, 2, 0] rfl) (by omega) (by omega) (by omega) (by have b9 : 0 ≤ (ai H (ρ a0 0) 976 : Int32).toInt ∧ (ai H (ρ a0 0) 976 : Int32).toInt ≤ 20 := (by rw [← ((Eq.trans (AU.o hU_19 (by decide) (by omega)) (hg18_0.trans ex_10.symm)).trans ex_10.symm.symm)]; exact hW_19 976 (by decide)); omega) (by have b9 : 0 ≤ (ai H (ρ a0 0) 976 : Int32).toInt ∧ (ai H (ρ a0 0) 976 : Int32).toInt ≤ 20 := (by rw [← ((Eq.trans (AU.o hU_19 (by decide) (by omega)) (hg18_0.trans ex_10.symm)).trans ex_10.symm.symm)]; exact hW_19 976 (by decide)); omega) ((Eq.trans (AU.o hU_19 (by decide) (by omega)) (hg18_0.trans ex_10.symm)).trans ex_10.symm.symm) ⟨hW_19, (QS.same (AU.o hU_19 (by decide) (by omega)) (AU.o hU_19 (by decide) (by omega)) hI_c18.2.1), (QS.same (AU.o hU_19 (by decide) (by omega)) (AU.o hU_19 (by decide) (by omega)) hI_c18.2.2.1), (PL.q (hU_19.2 _ (th_ne (hW _ 12 2 ha0 (by decide) (by decide) (by decide)) (hW _ 12 0 ha0 (by decide) (by decide) (by decide)) (by decide))) hI_c18.2.2.2.1), (PL.q (hU_19.2 _ (th_ne (hW _ 12 3 ha0 (by decide) (by decide) (by decide)) (hW _ 12 0 ha0 (by decide) (by decide) (by decide)) (by decide))) hI_c18.2.2.2.2.1), (IF.q (hU_19.2 _ (th_ne ha0 (hW _ 12 0 ha0 (by decide) (by decide) (by decide)) (by decide))) hI_c18.2.2.2.2.2)⟩ (by omega)
  refine lv_aload_n hx hb dX12_doubles_0 rfl (lv_at hl 0 rfl) ?_
  refine gf_X12_7 E hT hW ha0 dX12_doubles_1 (fun h_21 => ?_)
  refine lv_sipush (v := 976) hx hb dX12_doubles_4 (by decide) ?_
  refine th_iald E hT h_21 (by decide) (vp_in_iff.mpr ⟨by decide, by decide⟩) dX12_doubles_7 ?_
  refine th_topi (y := ai H (ρ a0 0) 976) rfl ?_
  refine lv_topi (fun x_22 ex_22 => ?_)
  have b_x_22 : 0 ≤ x_22.toInt ∧ x_22.toInt ≤ 20 := by rw [← ex_22.symm]; exact hI.1 976 (by decide)
  have c_x_22 := congrArg Int32.toInt ex_22.symm
  refine lv_bipush (v := 20) hx hb dX12_doubles_8 (by decide) ?_
  refine lv_icmp_ne (tgt := 16) hx hb dX12_doubles_10 (by decide) (fun c_23 => ?_) (fun c_23 => ?_)
  · have f_23 : ¬ x_22.toInt = 20 := r_ne rfl (by decide) c_23
    refine lv_iconst (v := 0) hx hb dX12_doubles_16 (by decide) ?_
    refine lv_istore_n (lv' := [(2, .int 0), (0, .ref a0), (1, .int x0)]) hx hb dX12_doubles_17 rfl hl (by decide) rfl (fun ls hl => ?_)
    exact L_18 _ H [] _ 0 hT hS (lv_sub hl [1, 2, 0] rfl) (by omega) (by omega) (by decide) (by have b9 : 0 ≤ (ai H (ρ a0 0) 976 : Int32).toInt ∧ (ai H (ρ a0 0) 976 : Int32).toInt ≤ 20 := (by exact hI.1 976 (by decide)); omega) (by have b9 : 0 ≤ (ai H (ρ a0 0) 976 : Int32).toInt ∧ (ai H (ρ a0 0) 976 : Int32).toInt ≤ 20 := (by exact hI.1 976 (by decide)); omega) rfl ⟨hI.1, hI.2.1, hI.2.2.1, hI.2.2.2.1, hI.2.2.2.2.1, hI.2.2.2.2.2⟩ (Nat.lt_succ_self _)
  · have f_23 : x_22.toInt = 20 := r_eq rfl (by decide) c_23
    refine lv_bipush (v := (-3)) hx hb dX12_doubles_13 (by decide) ?_
    exact th_iret E hr hlk hs hT hS ⟨hI.1, hI.2.1, hI.2.2.1, hI.2.2.2.1, hI.2.2.2.2.1, hI.2.2.2.2.2⟩ dX12_doubles_15
set_option maxHeartbeats 4000000 in
set_option maxRecDepth 100000 in
/-- the reference: get -/
theorem y_get (l : Launch) (D : va_G) (cI cS : ClassId) (τ : Nat → Option Nat) (ρ : Nat → Nat → Nat) (hW : WF τ ρ) (H : Heap) (hT : TH D cI cS τ ρ H) (a0 : Nat) (ha0 : τ a0 = some 12) : MI l D cI cS τ ρ yX12_get cX12_get 3 (some .int) 0 0 H [.ref a0, .int 1, .int 18] (fun (r : Int32) (u : Heap) => (H = u) ∧ (ai H (ρ a0 0) 306 = r)) (fun q => False) := by
  refine MI.of (by decide) (Nat.le_of_ble_eq_true rfl) ?_
  intro p e s m args below meth c E hml hr hlk hs ls hl
  have hx := E.1
  have hb := E.2.1
  have hown := E.2.2.1
  have hts := E.2.2.2.1
  have hS : SS (fun q => False) H H [] := SS.rf
  have hl : lv_has ls 3 [(0, .ref a0), (1, .int 1), (2, .int 18)] := hl
  refine lv_aload_n hx hb dX12_get_0 rfl (lv_at hl 0 rfl) ?_
  refine gf_X12_7 E hT hW ha0 dX12_get_1 (fun h_1 => ?_)
  refine lv_sipush (v := 288) hx hb dX12_get_4 (by decide) ?_
  refine lv_iload_n hx hb dX12_get_7 rfl (lv_at hl 1 rfl) ?_
  refine lv_imul hx hb dX12_get_8 ?_
  refine th_topi (y := 288) (by decide) ?_
  refine lv_iload_n hx hb dX12_get_9 rfl (lv_at hl 2 rfl) ?_
  refine lv_iadd hx hb dX12_get_10 ?_
  refine th_topi (y := 306) (by decide) ?_
  refine th_iald E hT h_1 (by decide) (vp_in_iff.mpr ⟨by decide, by decide⟩) dX12_get_11 ?_
  refine th_topi (y := ai H (ρ a0 0) 306) rfl ?_
  refine lv_topi (fun x_2 ex_2 => ?_)
  have c_x_2 := congrArg Int32.toInt ex_2.symm
  exact th_iret E hr hlk hs hT hS ⟨rfl, ex_2.symm⟩ dX12_get_12
set_option maxHeartbeats 4000000 in
set_option maxRecDepth 100000 in
/-- the reference: greater -/
theorem y_greater (l : Launch) (D : va_G) (cI cS : ClassId) (τ : Nat → Option Nat) (ρ : Nat → Nat → Nat) (hW : WF τ ρ) (H : Heap) (hT : TH D cI cS τ ρ H) (x1 : Int32) : MI l D cI cS τ ρ yX12_greater cX12_greater 2 (some .int) 0 0 H [.int 1, .int x1] (fun (r : Int32) (u : Heap) => (H = u) ∧ (1 ≤ r.toInt ∧ x1.toInt ≤ r.toInt ∧ (r.toInt = 1 ∨ r.toInt = x1.toInt))) (fun q => False) := by
  refine MI.of (by decide) (Nat.le_of_ble_eq_true rfl) ?_
  intro p e s m args below meth c E hml hr hlk hs ls hl
  have hx := E.1
  have hb := E.2.1
  have hown := E.2.2.1
  have hts := E.2.2.2.1
  have hS : SS (fun q => False) H H [] := SS.rf
  have hl : lv_has ls 2 [(0, .int 1), (1, .int x1)] := hl
  refine lv_iload_n hx hb dX12_greater_0 rfl (lv_at hl 0 rfl) ?_
  refine lv_iload_n hx hb dX12_greater_1 rfl (lv_at hl 1 rfl) ?_
  refine lv_icmp_le (tgt := 9) hx hb dX12_greater_2 (by decide) (fun c_1 => ?_) (fun c_1 => ?_)
  · have f_1 : 1 ≤ x1.toInt := r_le (by decide) rfl c_1
    refine lv_iload_n hx hb dX12_greater_9 rfl (lv_at hl 1 rfl) ?_
    exact th_iret E hr hlk hs hT hS ⟨rfl, (by omega)⟩ dX12_greater_10
  · have f_1 : x1.toInt < 1 := r_nle (by decide) rfl c_1
    refine lv_iload_n hx hb dX12_greater_5 rfl (lv_at hl 0 rfl) ?_
    refine lv_goto (tgt := 10) hx hb dX12_greater_6 (by decide) ?_
    exact th_iret E hr hlk hs hT hS ⟨rfl, (by have : (1 : Int32).toInt = 1 := (by decide); omega)⟩ dX12_greater_10
set_option maxHeartbeats 4000000 in
set_option maxRecDepth 100000 in
/-- the reference: set -/
theorem y_set (l : Launch) (D : va_G) (cI cS : ClassId) (τ : Nat → Option Nat) (ρ : Nat → Nat → Nat) (hW : WF τ ρ) (H : Heap) (hT : TH D cI cS τ ρ H) (a0 : Nat) (ha0 : τ a0 = some 12) : MV l D cI cS τ ρ yX12_set cX12_set 4 none 0 0 H [.ref a0, .int 1, .int 16, .int (-4)] (fun (u : Heap) => (AU 985 H u (ρ a0 0) 304 ((-4)))) (fun q => q = ρ a0 0) := by
  refine MV.of (by decide) (Nat.le_of_ble_eq_true rfl) ?_
  intro p e s m args below meth c E hml hr hlk hs ls hl
  have hx := E.1
  have hb := E.2.1
  have hown := E.2.2.1
  have hts := E.2.2.2.1
  have hS : SS (fun q => q = ρ a0 0) H H [] := SS.rf
  have hl : lv_has ls 4 [(0, .ref a0), (1, .int 1), (2, .int 16), (3, .int (-4))] := hl
  refine lv_aload_n hx hb dX12_set_0 rfl (lv_at hl 0 rfl) ?_
  refine gf_X12_7 E hT hW ha0 dX12_set_1 (fun h_1 => ?_)
  refine lv_sipush (v := 288) hx hb dX12_set_4 (by decide) ?_
  refine lv_iload_n hx hb dX12_set_7 rfl (lv_at hl 1 rfl) ?_
  refine lv_imul hx hb dX12_set_8 ?_
  refine th_topi (y := 288) (by decide) ?_
  refine lv_iload_n hx hb dX12_set_9 rfl (lv_at hl 2 rfl) ?_
  refine lv_iadd hx hb dX12_set_10 ?_
  refine th_topi (y := 304) (by decide) ?_
  refine lv_iload_n hx hb dX12_set_11 rfl (lv_at hl 3 rfl) ?_
  refine th_iast E hT hS h_1 rfl (by decide) (vp_in_iff.mpr ⟨by decide, by decide⟩) dX12_set_12 (fun H_2 locs_2 hT_2 hU_2 hS_2 => ?_)
  have hU_2 : AU 985 H H_2 (ρ a0 0) 304 ((-4)) := hU_2
  exact th_vret E hr hlk hs hT_2 hS_2 hU_2 dX12_set_13
set_option maxHeartbeats 4000000 in
set_option maxRecDepth 100000 in
/-- the reference: get -/
theorem y_get_v2 (l : Launch) (D : va_G) (cI cS : ClassId) (τ : Nat → Option Nat) (ρ : Nat → Nat → Nat) (hW : WF τ ρ) (H : Heap) (hT : TH D cI cS τ ρ H) (a0 : Nat) (ha0 : τ a0 = some 12) : MI l D cI cS τ ρ yX12_get cX12_get 3 (some .int) 0 0 H [.ref a0, .int 1, .int 19] (fun (r : Int32) (u : Heap) => (H = u) ∧ (ai H (ρ a0 0) 307 = r)) (fun q => False) := by
  refine MI.of (by decide) (Nat.le_of_ble_eq_true rfl) ?_
  intro p e s m args below meth c E hml hr hlk hs ls hl
  have hx := E.1
  have hb := E.2.1
  have hown := E.2.2.1
  have hts := E.2.2.2.1
  have hS : SS (fun q => False) H H [] := SS.rf
  have hl : lv_has ls 3 [(0, .ref a0), (1, .int 1), (2, .int 19)] := hl
  refine lv_aload_n hx hb dX12_get_0 rfl (lv_at hl 0 rfl) ?_
  refine gf_X12_7 E hT hW ha0 dX12_get_1 (fun h_1 => ?_)
  refine lv_sipush (v := 288) hx hb dX12_get_4 (by decide) ?_
  refine lv_iload_n hx hb dX12_get_7 rfl (lv_at hl 1 rfl) ?_
  refine lv_imul hx hb dX12_get_8 ?_
  refine th_topi (y := 288) (by decide) ?_
  refine lv_iload_n hx hb dX12_get_9 rfl (lv_at hl 2 rfl) ?_
  refine lv_iadd hx hb dX12_get_10 ?_
  refine th_topi (y := 307) (by decide) ?_
  refine th_iald E hT h_1 (by decide) (vp_in_iff.mpr ⟨by decide, by decide⟩) dX12_get_11 ?_
  refine th_topi (y := ai H (ρ a0 0) 307) rfl ?_
  refine lv_topi (fun x_2 ex_2 => ?_)
  have c_x_2 := congrArg Int32.toInt ex_2.symm
  exact th_iret E hr hlk hs hT hS ⟨rfl, ex_2.symm⟩ dX12_get_12
set_option maxHeartbeats 4000000 in
set_option maxRecDepth 100000 in
/-- the reference: get -/
theorem y_get_v3 (l : Launch) (D : va_G) (cI cS : ClassId) (τ : Nat → Option Nat) (ρ : Nat → Nat → Nat) (hW : WF τ ρ) (H : Heap) (hT : TH D cI cS τ ρ H) (a0 : Nat) (ha0 : τ a0 = some 12) : MI l D cI cS τ ρ yX12_get cX12_get 3 (some .int) 0 0 H [.ref a0, .int 1, .int 9] (fun (r : Int32) (u : Heap) => (H = u) ∧ (ai H (ρ a0 0) 297 = r)) (fun q => False) := by
  refine MI.of (by decide) (Nat.le_of_ble_eq_true rfl) ?_
  intro p e s m args below meth c E hml hr hlk hs ls hl
  have hx := E.1
  have hb := E.2.1
  have hown := E.2.2.1
  have hts := E.2.2.2.1
  have hS : SS (fun q => False) H H [] := SS.rf
  have hl : lv_has ls 3 [(0, .ref a0), (1, .int 1), (2, .int 9)] := hl
  refine lv_aload_n hx hb dX12_get_0 rfl (lv_at hl 0 rfl) ?_
  refine gf_X12_7 E hT hW ha0 dX12_get_1 (fun h_1 => ?_)
  refine lv_sipush (v := 288) hx hb dX12_get_4 (by decide) ?_
  refine lv_iload_n hx hb dX12_get_7 rfl (lv_at hl 1 rfl) ?_
  refine lv_imul hx hb dX12_get_8 ?_
  refine th_topi (y := 288) (by decide) ?_
  refine lv_iload_n hx hb dX12_get_9 rfl (lv_at hl 2 rfl) ?_
  refine lv_iadd hx hb dX12_get_10 ?_
  refine th_topi (y := 297) (by decide) ?_
  refine th_iald E hT h_1 (by decide) (vp_in_iff.mpr ⟨by decide, by decide⟩) dX12_get_11 ?_
  refine th_topi (y := ai H (ρ a0 0) 297) rfl ?_
  refine lv_topi (fun x_2 ex_2 => ?_)
  have c_x_2 := congrArg Int32.toInt ex_2.symm
  exact th_iret E hr hlk hs hT hS ⟨rfl, ex_2.symm⟩ dX12_get_12
set_option maxHeartbeats 4000000 in
set_option maxRecDepth 100000 in
/-- the reference: set -/
theorem y_set_v2 (l : Launch) (D : va_G) (cI cS : ClassId) (τ : Nat → Option Nat) (ρ : Nat → Nat → Nat) (hW : WF τ ρ) (H : Heap) (hT : TH D cI cS τ ρ H) (a0 : Nat) (x2 : Int32) (ha0 : τ a0 = some 12) : MV l D cI cS τ ρ yX12_set cX12_set 4 none 0 0 H [.ref a0, .int 1, .int 9, .int x2] (fun (u : Heap) => (AU 985 H u (ρ a0 0) 297 x2)) (fun q => q = ρ a0 0) := by
  refine MV.of (by decide) (Nat.le_of_ble_eq_true rfl) ?_
  intro p e s m args below meth c E hml hr hlk hs ls hl
  have hx := E.1
  have hb := E.2.1
  have hown := E.2.2.1
  have hts := E.2.2.2.1
  have hS : SS (fun q => q = ρ a0 0) H H [] := SS.rf
  have hl : lv_has ls 4 [(0, .ref a0), (1, .int 1), (2, .int 9), (3, .int x2)] := hl
  refine lv_aload_n hx hb dX12_set_0 rfl (lv_at hl 0 rfl) ?_
  refine gf_X12_7 E hT hW ha0 dX12_set_1 (fun h_1 => ?_)
  refine lv_sipush (v := 288) hx hb dX12_set_4 (by decide) ?_
  refine lv_iload_n hx hb dX12_set_7 rfl (lv_at hl 1 rfl) ?_
  refine lv_imul hx hb dX12_set_8 ?_
  refine th_topi (y := 288) (by decide) ?_
  refine lv_iload_n hx hb dX12_set_9 rfl (lv_at hl 2 rfl) ?_
  refine lv_iadd hx hb dX12_set_10 ?_
  refine th_topi (y := 297) (by decide) ?_
  refine lv_iload_n hx hb dX12_set_11 rfl (lv_at hl 3 rfl) ?_
  refine th_iast E hT hS h_1 rfl (by decide) (vp_in_iff.mpr ⟨by decide, by decide⟩) dX12_set_12 (fun H_2 locs_2 hT_2 hU_2 hS_2 => ?_)
  have hU_2 : AU 985 H H_2 (ρ a0 0) 297 x2 := hU_2
  exact th_vret E hr hlk hs hT_2 hS_2 hU_2 dX12_set_13
set_option maxHeartbeats 4000000 in
set_option maxRecDepth 100000 in
/-- the reference: get -/
theorem y_get_v4 (l : Launch) (D : va_G) (cI cS : ClassId) (τ : Nat → Option Nat) (ρ : Nat → Nat → Nat) (hW : WF τ ρ) (H : Heap) (hT : TH D cI cS τ ρ H) (a0 : Nat) (ha0 : τ a0 = some 12) : MI l D cI cS τ ρ yX12_get cX12_get 3 (some .int) 0 0 H [.ref a0, .int 1, .int 10] (fun (r : Int32) (u : Heap) => (H = u) ∧ (ai H (ρ a0 0) 298 = r)) (fun q => False) := by
  refine MI.of (by decide) (Nat.le_of_ble_eq_true rfl) ?_
  intro p e s m args below meth c E hml hr hlk hs ls hl
  have hx := E.1
  have hb := E.2.1
  have hown := E.2.2.1
  have hts := E.2.2.2.1
  have hS : SS (fun q => False) H H [] := SS.rf
  have hl : lv_has ls 3 [(0, .ref a0), (1, .int 1), (2, .int 10)] := hl
  refine lv_aload_n hx hb dX12_get_0 rfl (lv_at hl 0 rfl) ?_
  refine gf_X12_7 E hT hW ha0 dX12_get_1 (fun h_1 => ?_)
  refine lv_sipush (v := 288) hx hb dX12_get_4 (by decide) ?_
  refine lv_iload_n hx hb dX12_get_7 rfl (lv_at hl 1 rfl) ?_
  refine lv_imul hx hb dX12_get_8 ?_
  refine th_topi (y := 288) (by decide) ?_
  refine lv_iload_n hx hb dX12_get_9 rfl (lv_at hl 2 rfl) ?_
  refine lv_iadd hx hb dX12_get_10 ?_
  refine th_topi (y := 298) (by decide) ?_
  refine th_iald E hT h_1 (by decide) (vp_in_iff.mpr ⟨by decide, by decide⟩) dX12_get_11 ?_
  refine th_topi (y := ai H (ρ a0 0) 298) rfl ?_
  refine lv_topi (fun x_2 ex_2 => ?_)
  have c_x_2 := congrArg Int32.toInt ex_2.symm
  exact th_iret E hr hlk hs hT hS ⟨rfl, ex_2.symm⟩ dX12_get_12
set_option maxHeartbeats 4000000 in
set_option maxRecDepth 100000 in
/-- the reference: set -/
theorem y_set_v3 (l : Launch) (D : va_G) (cI cS : ClassId) (τ : Nat → Option Nat) (ρ : Nat → Nat → Nat) (hW : WF τ ρ) (H : Heap) (hT : TH D cI cS τ ρ H) (a0 : Nat) (x2 : Int32) (ha0 : τ a0 = some 12) : MV l D cI cS τ ρ yX12_set cX12_set 4 none 0 0 H [.ref a0, .int 1, .int 10, .int x2] (fun (u : Heap) => (AU 985 H u (ρ a0 0) 298 x2)) (fun q => q = ρ a0 0) := by
  refine MV.of (by decide) (Nat.le_of_ble_eq_true rfl) ?_
  intro p e s m args below meth c E hml hr hlk hs ls hl
  have hx := E.1
  have hb := E.2.1
  have hown := E.2.2.1
  have hts := E.2.2.2.1
  have hS : SS (fun q => q = ρ a0 0) H H [] := SS.rf
  have hl : lv_has ls 4 [(0, .ref a0), (1, .int 1), (2, .int 10), (3, .int x2)] := hl
  refine lv_aload_n hx hb dX12_set_0 rfl (lv_at hl 0 rfl) ?_
  refine gf_X12_7 E hT hW ha0 dX12_set_1 (fun h_1 => ?_)
  refine lv_sipush (v := 288) hx hb dX12_set_4 (by decide) ?_
  refine lv_iload_n hx hb dX12_set_7 rfl (lv_at hl 1 rfl) ?_
  refine lv_imul hx hb dX12_set_8 ?_
  refine th_topi (y := 288) (by decide) ?_
  refine lv_iload_n hx hb dX12_set_9 rfl (lv_at hl 2 rfl) ?_
  refine lv_iadd hx hb dX12_set_10 ?_
  refine th_topi (y := 298) (by decide) ?_
  refine lv_iload_n hx hb dX12_set_11 rfl (lv_at hl 3 rfl) ?_
  refine th_iast E hT hS h_1 rfl (by decide) (vp_in_iff.mpr ⟨by decide, by decide⟩) dX12_set_12 (fun H_2 locs_2 hT_2 hU_2 hS_2 => ?_)
  have hU_2 : AU 985 H H_2 (ρ a0 0) 298 x2 := hU_2
  exact th_vret E hr hlk hs hT_2 hS_2 hU_2 dX12_set_13
set_option maxHeartbeats 4000000 in
set_option maxRecDepth 100000 in
/-- the reference: greater -/
theorem y_greater_v2 (l : Launch) (D : va_G) (cI cS : ClassId) (τ : Nat → Option Nat) (ρ : Nat → Nat → Nat) (hW : WF τ ρ) (H : Heap) (hT : TH D cI cS τ ρ H) (x1 : Int32) : MI l D cI cS τ ρ yX12_greater cX12_greater 2 (some .int) 0 0 H [.int 2, .int x1] (fun (r : Int32) (u : Heap) => (H = u) ∧ (2 ≤ r.toInt ∧ x1.toInt ≤ r.toInt ∧ (r.toInt = 2 ∨ r.toInt = x1.toInt))) (fun q => False) := by
  refine MI.of (by decide) (Nat.le_of_ble_eq_true rfl) ?_
  intro p e s m args below meth c E hml hr hlk hs ls hl
  have hx := E.1
  have hb := E.2.1
  have hown := E.2.2.1
  have hts := E.2.2.2.1
  have hS : SS (fun q => False) H H [] := SS.rf
  have hl : lv_has ls 2 [(0, .int 2), (1, .int x1)] := hl
  refine lv_iload_n hx hb dX12_greater_0 rfl (lv_at hl 0 rfl) ?_
  refine lv_iload_n hx hb dX12_greater_1 rfl (lv_at hl 1 rfl) ?_
  refine lv_icmp_le (tgt := 9) hx hb dX12_greater_2 (by decide) (fun c_1 => ?_) (fun c_1 => ?_)
  · have f_1 : 2 ≤ x1.toInt := r_le (by decide) rfl c_1
    refine lv_iload_n hx hb dX12_greater_9 rfl (lv_at hl 1 rfl) ?_
    exact th_iret E hr hlk hs hT hS ⟨rfl, (by omega)⟩ dX12_greater_10
  · have f_1 : x1.toInt < 2 := r_nle (by decide) rfl c_1
    refine lv_iload_n hx hb dX12_greater_5 rfl (lv_at hl 0 rfl) ?_
    refine lv_goto (tgt := 10) hx hb dX12_greater_6 (by decide) ?_
    exact th_iret E hr hlk hs hT hS ⟨rfl, (by have : (2 : Int32).toInt = 2 := (by decide); omega)⟩ dX12_greater_10
set_option maxHeartbeats 4000000 in
set_option maxRecDepth 100000 in
/-- the reference: lesser -/
theorem y_lesser (l : Launch) (D : va_G) (cI cS : ClassId) (τ : Nat → Option Nat) (ρ : Nat → Nat → Nat) (hW : WF τ ρ) (H : Heap) (hT : TH D cI cS τ ρ H) (x1 : Int32) : MI l D cI cS τ ρ yX12_lesser cX12_lesser 2 (some .int) 0 0 H [.int 64, .int x1] (fun (r : Int32) (u : Heap) => (H = u) ∧ (r.toInt ≤ 64 ∧ r.toInt ≤ x1.toInt ∧ (r.toInt = 64 ∨ r.toInt = x1.toInt))) (fun q => False) := by
  refine MI.of (by decide) (Nat.le_of_ble_eq_true rfl) ?_
  intro p e s m args below meth c E hml hr hlk hs ls hl
  have hx := E.1
  have hb := E.2.1
  have hown := E.2.2.1
  have hts := E.2.2.2.1
  have hS : SS (fun q => False) H H [] := SS.rf
  have hl : lv_has ls 2 [(0, .int 64), (1, .int x1)] := hl
  refine lv_iload_n hx hb dX12_lesser_0 rfl (lv_at hl 0 rfl) ?_
  refine lv_iload_n hx hb dX12_lesser_1 rfl (lv_at hl 1 rfl) ?_
  refine lv_icmp_ge (tgt := 9) hx hb dX12_lesser_2 (by decide) (fun c_1 => ?_) (fun c_1 => ?_)
  · have f_1 : x1.toInt ≤ 64 := r_le rfl (by decide) c_1
    refine lv_iload_n hx hb dX12_lesser_9 rfl (lv_at hl 1 rfl) ?_
    exact th_iret E hr hlk hs hT hS ⟨rfl, (by omega)⟩ dX12_lesser_10
  · have f_1 : 64 < x1.toInt := r_nle rfl (by decide) c_1
    refine lv_iload_n hx hb dX12_lesser_5 rfl (lv_at hl 0 rfl) ?_
    refine lv_goto (tgt := 10) hx hb dX12_lesser_6 (by decide) ?_
    exact th_iret E hr hlk hs hT hS ⟨rfl, (by have : (64 : Int32).toInt = 64 := (by decide); omega)⟩ dX12_lesser_10
set_option maxHeartbeats 4000000 in
set_option maxRecDepth 100000 in
/-- the reference: set -/
theorem y_set_v4 (l : Launch) (D : va_G) (cI cS : ClassId) (τ : Nat → Option Nat) (ρ : Nat → Nat → Nat) (hW : WF τ ρ) (H : Heap) (hT : TH D cI cS τ ρ H) (a0 : Nat) (x2 : Int32) (ha0 : τ a0 = some 12) : MV l D cI cS τ ρ yX12_set cX12_set 4 none 0 0 H [.ref a0, .int 1, .int 8, .int x2] (fun (u : Heap) => (AU 985 H u (ρ a0 0) 296 x2)) (fun q => q = ρ a0 0) := by
  refine MV.of (by decide) (Nat.le_of_ble_eq_true rfl) ?_
  intro p e s m args below meth c E hml hr hlk hs ls hl
  have hx := E.1
  have hb := E.2.1
  have hown := E.2.2.1
  have hts := E.2.2.2.1
  have hS : SS (fun q => q = ρ a0 0) H H [] := SS.rf
  have hl : lv_has ls 4 [(0, .ref a0), (1, .int 1), (2, .int 8), (3, .int x2)] := hl
  refine lv_aload_n hx hb dX12_set_0 rfl (lv_at hl 0 rfl) ?_
  refine gf_X12_7 E hT hW ha0 dX12_set_1 (fun h_1 => ?_)
  refine lv_sipush (v := 288) hx hb dX12_set_4 (by decide) ?_
  refine lv_iload_n hx hb dX12_set_7 rfl (lv_at hl 1 rfl) ?_
  refine lv_imul hx hb dX12_set_8 ?_
  refine th_topi (y := 288) (by decide) ?_
  refine lv_iload_n hx hb dX12_set_9 rfl (lv_at hl 2 rfl) ?_
  refine lv_iadd hx hb dX12_set_10 ?_
  refine th_topi (y := 296) (by decide) ?_
  refine lv_iload_n hx hb dX12_set_11 rfl (lv_at hl 3 rfl) ?_
  refine th_iast E hT hS h_1 rfl (by decide) (vp_in_iff.mpr ⟨by decide, by decide⟩) dX12_set_12 (fun H_2 locs_2 hT_2 hU_2 hS_2 => ?_)
  have hU_2 : AU 985 H H_2 (ρ a0 0) 296 x2 := hU_2
  exact th_vret E hr hlk hs hT_2 hS_2 hU_2 dX12_set_13
set_option maxHeartbeats 4000000 in
set_option maxRecDepth 100000 in
/-- the reference: get -/
theorem y_get_v5 (l : Launch) (D : va_G) (cI cS : ClassId) (τ : Nat → Option Nat) (ρ : Nat → Nat → Nat) (hW : WF τ ρ) (H : Heap) (hT : TH D cI cS τ ρ H) (a0 : Nat) (ha0 : τ a0 = some 12) : MI l D cI cS τ ρ yX12_get cX12_get 3 (some .int) 0 0 H [.ref a0, .int 1, .int 24] (fun (r : Int32) (u : Heap) => (H = u) ∧ (ai H (ρ a0 0) 312 = r)) (fun q => False) := by
  refine MI.of (by decide) (Nat.le_of_ble_eq_true rfl) ?_
  intro p e s m args below meth c E hml hr hlk hs ls hl
  have hx := E.1
  have hb := E.2.1
  have hown := E.2.2.1
  have hts := E.2.2.2.1
  have hS : SS (fun q => False) H H [] := SS.rf
  have hl : lv_has ls 3 [(0, .ref a0), (1, .int 1), (2, .int 24)] := hl
  refine lv_aload_n hx hb dX12_get_0 rfl (lv_at hl 0 rfl) ?_
  refine gf_X12_7 E hT hW ha0 dX12_get_1 (fun h_1 => ?_)
  refine lv_sipush (v := 288) hx hb dX12_get_4 (by decide) ?_
  refine lv_iload_n hx hb dX12_get_7 rfl (lv_at hl 1 rfl) ?_
  refine lv_imul hx hb dX12_get_8 ?_
  refine th_topi (y := 288) (by decide) ?_
  refine lv_iload_n hx hb dX12_get_9 rfl (lv_at hl 2 rfl) ?_
  refine lv_iadd hx hb dX12_get_10 ?_
  refine th_topi (y := 312) (by decide) ?_
  refine th_iald E hT h_1 (by decide) (vp_in_iff.mpr ⟨by decide, by decide⟩) dX12_get_11 ?_
  refine th_topi (y := ai H (ρ a0 0) 312) rfl ?_
  refine lv_topi (fun x_2 ex_2 => ?_)
  have c_x_2 := congrArg Int32.toInt ex_2.symm
  exact th_iret E hr hlk hs hT hS ⟨rfl, ex_2.symm⟩ dX12_get_12
set_option maxHeartbeats 4000000 in
set_option maxRecDepth 100000 in
/-- the reference: set -/
theorem y_set_v5 (l : Launch) (D : va_G) (cI cS : ClassId) (τ : Nat → Option Nat) (ρ : Nat → Nat → Nat) (hW : WF τ ρ) (H : Heap) (hT : TH D cI cS τ ρ H) (a0 : Nat) (x2 : Int32) (ha0 : τ a0 = some 12) : MV l D cI cS τ ρ yX12_set cX12_set 4 none 0 0 H [.ref a0, .int 1, .int 25, .int x2] (fun (u : Heap) => (AU 985 H u (ρ a0 0) 313 x2)) (fun q => q = ρ a0 0) := by
  refine MV.of (by decide) (Nat.le_of_ble_eq_true rfl) ?_
  intro p e s m args below meth c E hml hr hlk hs ls hl
  have hx := E.1
  have hb := E.2.1
  have hown := E.2.2.1
  have hts := E.2.2.2.1
  have hS : SS (fun q => q = ρ a0 0) H H [] := SS.rf
  have hl : lv_has ls 4 [(0, .ref a0), (1, .int 1), (2, .int 25), (3, .int x2)] := hl
  refine lv_aload_n hx hb dX12_set_0 rfl (lv_at hl 0 rfl) ?_
  refine gf_X12_7 E hT hW ha0 dX12_set_1 (fun h_1 => ?_)
  refine lv_sipush (v := 288) hx hb dX12_set_4 (by decide) ?_
  refine lv_iload_n hx hb dX12_set_7 rfl (lv_at hl 1 rfl) ?_
  refine lv_imul hx hb dX12_set_8 ?_
  refine th_topi (y := 288) (by decide) ?_
  refine lv_iload_n hx hb dX12_set_9 rfl (lv_at hl 2 rfl) ?_
  refine lv_iadd hx hb dX12_set_10 ?_
  refine th_topi (y := 313) (by decide) ?_
  refine lv_iload_n hx hb dX12_set_11 rfl (lv_at hl 3 rfl) ?_
  refine th_iast E hT hS h_1 rfl (by decide) (vp_in_iff.mpr ⟨by decide, by decide⟩) dX12_set_12 (fun H_2 locs_2 hT_2 hU_2 hS_2 => ?_)
  have hU_2 : AU 985 H H_2 (ρ a0 0) 313 x2 := hU_2
  exact th_vret E hr hlk hs hT_2 hS_2 hU_2 dX12_set_13
set_option maxHeartbeats 4000000 in
set_option maxRecDepth 100000 in
/-- the reference: get -/
theorem y_get_v6 (l : Launch) (D : va_G) (cI cS : ClassId) (τ : Nat → Option Nat) (ρ : Nat → Nat → Nat) (hW : WF τ ρ) (H : Heap) (hT : TH D cI cS τ ρ H) (a0 : Nat) (x1 : Int32) (ha0 : τ a0 = some 12) (hp0 : 0 ≤ x1.toInt ∧ x1.toInt < 288) : MI l D cI cS τ ρ yX12_get cX12_get 3 (some .int) 0 0 H [.ref a0, .int 1, .int x1] (fun (r : Int32) (u : Heap) => (H = u) ∧ (ai H (ρ a0 0) (288 + x1.toInt).toNat = r)) (fun q => False) := by
  refine MI.of (by decide) (Nat.le_of_ble_eq_true rfl) ?_
  intro p e s m args below meth c E hml hr hlk hs ls hl
  have hx := E.1
  have hb := E.2.1
  have hown := E.2.2.1
  have hts := E.2.2.2.1
  have hS : SS (fun q => False) H H [] := SS.rf
  have hl : lv_has ls 3 [(0, .ref a0), (1, .int 1), (2, .int x1)] := hl
  refine lv_aload_n hx hb dX12_get_0 rfl (lv_at hl 0 rfl) ?_
  refine gf_X12_7 E hT hW ha0 dX12_get_1 (fun h_1 => ?_)
  refine lv_sipush (v := 288) hx hb dX12_get_4 (by decide) ?_
  refine lv_iload_n hx hb dX12_get_7 rfl (lv_at hl 1 rfl) ?_
  refine lv_imul hx hb dX12_get_8 ?_
  refine th_topi (y := 288) (by decide) ?_
  refine lv_iload_n hx hb dX12_get_9 rfl (lv_at hl 2 rfl) ?_
  refine lv_iadd hx hb dX12_get_10 ?_
  refine lv_topi (fun x_2 ex_2 => ?_)
  have q_2 : x_2.toInt = 288 + x1.toInt := i_pl (by decide) rfl ex_2 (by omega) (by omega)
  refine th_iald E hT h_1 (by decide) (vp_in_iff.mpr ⟨by omega, by omega⟩) dX12_get_11 ?_
  refine th_topi (y := ai H (ρ a0 0) x_2.toInt.toNat) rfl ?_
  refine lv_topi (fun x_3 ex_3 => ?_)
  exact th_iret E hr hlk hs hT hS ⟨rfl, (by rw [ex_3, q_2])⟩ dX12_get_12
set_option maxHeartbeats 4000000 in
set_option maxRecDepth 100000 in
/-- the reference: set -/
theorem y_set_v6 (l : Launch) (D : va_G) (cI cS : ClassId) (τ : Nat → Option Nat) (ρ : Nat → Nat → Nat) (hW : WF τ ρ) (H : Heap) (hT : TH D cI cS τ ρ H) (a0 : Nat) (x1 : Int32) (x2 : Int32) (ha0 : τ a0 = some 12) (hp0 : 0 ≤ x1.toInt ∧ x1.toInt < 288) : MV l D cI cS τ ρ yX12_set cX12_set 4 none 0 0 H [.ref a0, .int 1, .int x1, .int x2] (fun (u : Heap) => (AU 985 H u (ρ a0 0) (288 + x1.toInt).toNat x2)) (fun q => q = ρ a0 0) := by
  refine MV.of (by decide) (Nat.le_of_ble_eq_true rfl) ?_
  intro p e s m args below meth c E hml hr hlk hs ls hl
  have hx := E.1
  have hb := E.2.1
  have hown := E.2.2.1
  have hts := E.2.2.2.1
  have hS : SS (fun q => q = ρ a0 0) H H [] := SS.rf
  have hl : lv_has ls 4 [(0, .ref a0), (1, .int 1), (2, .int x1), (3, .int x2)] := hl
  refine lv_aload_n hx hb dX12_set_0 rfl (lv_at hl 0 rfl) ?_
  refine gf_X12_7 E hT hW ha0 dX12_set_1 (fun h_1 => ?_)
  refine lv_sipush (v := 288) hx hb dX12_set_4 (by decide) ?_
  refine lv_iload_n hx hb dX12_set_7 rfl (lv_at hl 1 rfl) ?_
  refine lv_imul hx hb dX12_set_8 ?_
  refine th_topi (y := 288) (by decide) ?_
  refine lv_iload_n hx hb dX12_set_9 rfl (lv_at hl 2 rfl) ?_
  refine lv_iadd hx hb dX12_set_10 ?_
  refine lv_topi (fun x_2 ex_2 => ?_)
  have q_2 : x_2.toInt = 288 + x1.toInt := i_pl (by decide) rfl ex_2 (by omega) (by omega)
  refine lv_iload_n hx hb dX12_set_11 rfl (lv_at hl 3 rfl) ?_
  refine th_iast E hT hS h_1 rfl (by decide) (vp_in_iff.mpr ⟨by omega, by omega⟩) dX12_set_12 (fun H_3 locs_3 hT_3 hU_3 hS_3 => ?_)
  have hU_3 : AU 985 H H_3 (ρ a0 0) x_2.toInt.toNat x2 := hU_3
  exact th_vret E hr hlk hs hT_3 hS_3 (by have h := hU_3; rw [q_2] at h; exact h) dX12_set_13
set_option maxHeartbeats 4000000 in
set_option maxRecDepth 100000 in
/-- the reference: set -/
theorem y_set_v7 (l : Launch) (D : va_G) (cI cS : ClassId) (τ : Nat → Option Nat) (ρ : Nat → Nat → Nat) (hW : WF τ ρ) (H : Heap) (hT : TH D cI cS τ ρ H) (a0 : Nat) (x2 : Int32) (ha0 : τ a0 = some 12) : MV l D cI cS τ ρ yX12_set cX12_set 4 none 0 0 H [.ref a0, .int 1, .int 20, .int x2] (fun (u : Heap) => (AU 985 H u (ρ a0 0) 308 x2)) (fun q => q = ρ a0 0) := by
  refine MV.of (by decide) (Nat.le_of_ble_eq_true rfl) ?_
  intro p e s m args below meth c E hml hr hlk hs ls hl
  have hx := E.1
  have hb := E.2.1
  have hown := E.2.2.1
  have hts := E.2.2.2.1
  have hS : SS (fun q => q = ρ a0 0) H H [] := SS.rf
  have hl : lv_has ls 4 [(0, .ref a0), (1, .int 1), (2, .int 20), (3, .int x2)] := hl
  refine lv_aload_n hx hb dX12_set_0 rfl (lv_at hl 0 rfl) ?_
  refine gf_X12_7 E hT hW ha0 dX12_set_1 (fun h_1 => ?_)
  refine lv_sipush (v := 288) hx hb dX12_set_4 (by decide) ?_
  refine lv_iload_n hx hb dX12_set_7 rfl (lv_at hl 1 rfl) ?_
  refine lv_imul hx hb dX12_set_8 ?_
  refine th_topi (y := 288) (by decide) ?_
  refine lv_iload_n hx hb dX12_set_9 rfl (lv_at hl 2 rfl) ?_
  refine lv_iadd hx hb dX12_set_10 ?_
  refine th_topi (y := 308) (by decide) ?_
  refine lv_iload_n hx hb dX12_set_11 rfl (lv_at hl 3 rfl) ?_
  refine th_iast E hT hS h_1 rfl (by decide) (vp_in_iff.mpr ⟨by decide, by decide⟩) dX12_set_12 (fun H_2 locs_2 hT_2 hU_2 hS_2 => ?_)
  have hU_2 : AU 985 H H_2 (ρ a0 0) 308 x2 := hU_2
  exact th_vret E hr hlk hs hT_2 hS_2 hU_2 dX12_set_13
set_option maxHeartbeats 4000000 in
set_option maxRecDepth 100000 in
/-- the reference: set -/
theorem y_set_v8 (l : Launch) (D : va_G) (cI cS : ClassId) (τ : Nat → Option Nat) (ρ : Nat → Nat → Nat) (hW : WF τ ρ) (H : Heap) (hT : TH D cI cS τ ρ H) (a0 : Nat) (x2 : Int32) (ha0 : τ a0 = some 12) : MV l D cI cS τ ρ yX12_set cX12_set 4 none 0 0 H [.ref a0, .int 1, .int 19, .int x2] (fun (u : Heap) => (AU 985 H u (ρ a0 0) 307 x2)) (fun q => q = ρ a0 0) := by
  refine MV.of (by decide) (Nat.le_of_ble_eq_true rfl) ?_
  intro p e s m args below meth c E hml hr hlk hs ls hl
  have hx := E.1
  have hb := E.2.1
  have hown := E.2.2.1
  have hts := E.2.2.2.1
  have hS : SS (fun q => q = ρ a0 0) H H [] := SS.rf
  have hl : lv_has ls 4 [(0, .ref a0), (1, .int 1), (2, .int 19), (3, .int x2)] := hl
  refine lv_aload_n hx hb dX12_set_0 rfl (lv_at hl 0 rfl) ?_
  refine gf_X12_7 E hT hW ha0 dX12_set_1 (fun h_1 => ?_)
  refine lv_sipush (v := 288) hx hb dX12_set_4 (by decide) ?_
  refine lv_iload_n hx hb dX12_set_7 rfl (lv_at hl 1 rfl) ?_
  refine lv_imul hx hb dX12_set_8 ?_
  refine th_topi (y := 288) (by decide) ?_
  refine lv_iload_n hx hb dX12_set_9 rfl (lv_at hl 2 rfl) ?_
  refine lv_iadd hx hb dX12_set_10 ?_
  refine th_topi (y := 307) (by decide) ?_
  refine lv_iload_n hx hb dX12_set_11 rfl (lv_at hl 3 rfl) ?_
  refine th_iast E hT hS h_1 rfl (by decide) (vp_in_iff.mpr ⟨by decide, by decide⟩) dX12_set_12 (fun H_2 locs_2 hT_2 hU_2 hS_2 => ?_)
  have hU_2 : AU 985 H H_2 (ρ a0 0) 307 x2 := hU_2
  exact th_vret E hr hlk hs hT_2 hS_2 hU_2 dX12_set_13
set_option maxHeartbeats 4000000 in
set_option maxRecDepth 100000 in
/-- the reference: rounds -/
theorem y_rounds (l : Launch) (D : va_G) (cI cS : ClassId) (τ : Nat → Option Nat) (ρ : Nat → Nat → Nat) (hW : WF τ ρ) (H : Heap) (hT : TH D cI cS τ ρ H) (a0 : Nat) (ha0 : τ a0 = some 12) (N : Int) (hN0 : 0 ≤ N) (hN1 : N ≤ 600) (hI : IM D ρ N H a0) : MV l D cI cS τ ρ yX12_rounds cX12_rounds 4 none 1 23 H [.ref a0, .int 1] (fun (u : Heap) => (IM D ρ N u a0) ∧ ((ai H (ρ a0 0) 976).toInt ≤ (ai u (ρ a0 0) 976).toInt) ∧ (ai u (ρ a0 0) 288 = ai H (ρ a0 0) 288) ∧ (ai u (ρ a0 0) 290 = ai H (ρ a0 0) 290)) (fun q => q = ρ a0 0) := by
  refine MV.of (by decide) (Nat.le_of_ble_eq_true rfl) ?_
  intro p e s m args below meth c E hml hr hlk hs ls hl
  have hx := E.1
  have hb := E.2.1
  have hown := E.2.2.1
  have hts := E.2.2.2.1
  have hS : SS (fun q => q = ρ a0 0) H H [] := SS.rf
  have hl : lv_has ls 4 [(0, .ref a0), (1, .int 1)] := hl
  have n01 := hI.2.2.2.2.2.1
  have n23 := hI.2.2.2.2.2.2.1
  have L_164 : ∀ (n : Nat) (H_c164 : Heap) (lc_c164 : List Loc) (ls : Array Slot) (y164_2 : Int32) (y164_3 : Int32), TH D cI cS τ ρ H_c164 → SS (fun q => q = ρ a0 0) H H_c164 lc_c164 → lv_has ls 4 [(0, .ref a0), (1, .int 1), (2, .int y164_2), (3, .int y164_3)] → 1 ≤ y164_2.toInt → 0 ≤ y164_3.toInt → y164_3.toInt ≤ 5 → IM D ρ N H_c164 a0 → (ai H (ρ a0 0) 976).toInt ≤ (ai H_c164 (ρ a0 0) 976).toInt → ai H_c164 (ρ a0 0) 288 = ai H (ρ a0 0) 288 → ai H_c164 (ρ a0 0) 290 = ai H (ρ a0 0) 290 → (y164_3.toInt).toNat < n → W p l e (rmO 1 23) s m args below meth c H_c164 lc_c164 0 0 (MQ below (va_Qv (fun (u : Heap) => (IM D ρ N u a0) ∧ ((ai H (ρ a0 0) 976).toInt ≤ (ai u (ρ a0 0) 976).toInt) ∧ (ai u (ρ a0 0) 288 = ai H (ρ a0 0) 288) ∧ (ai u (ρ a0 0) 290 = ai H (ρ a0 0) 290)) (Bt D cI cS τ ρ H) (fun q => q = ρ a0 0)) args s 0 0 (fun q => q = ρ a0 0)) (F0 m 164 ls []) := by
    intro n
    induction n with
    | zero => intro H_c164 lc_c164 ls y164_2 y164_3 hT_c164 hS_c164 hl ly164_2 ly164_3 uy164_3 hI_c164 hmn_c164 hk164_288 hk164_290 hm; exact absurd hm (Nat.not_lt_zero _)
    | succ n ih_164 =>
      intro H_c164 lc_c164 ls y164_2 y164_3 hT_c164 hS_c164 hl ly164_2 ly164_3 uy164_3 hI_c164 hmn_c164 hk164_288 hk164_290 hm_164
      refine lv_iload_n hx hb dX12_rounds_164 rfl (lv_at hl 3 rfl) ?_
      refine lv_if_le (tgt := 194) hx hb dX12_rounds_165 (by decide) (fun c_1 => ?_) (fun c_1 => ?_)
      · have f_1 : y164_3.toInt ≤ 0 := r_le rfl (by decide) c_1
        refine lv_aload_n hx hb dX12_rounds_194 rfl (lv_at hl 0 rfl) ?_
        refine lv_iload_n hx hb dX12_rounds_195 rfl (lv_at hl 1 rfl) ?_
        refine lv_bipush (v := 20) hx hb dX12_rounds_196 (by decide) ?_
        refine lv_iload_n hx hb dX12_rounds_198 rfl (lv_at hl 2 rfl) ?_
        refine th_Vv (As := [.int 1, .int 20, .int y164_2]) (rest := []) E hml hl.1 (y_set_v7 l D cI cS τ ρ hW H_c164 hT_c164 a0 y164_2 ha0) lk_X12_95 yd_X12_set hT_c164 ha0 rfl (by decide) hS_c164 (fun q h => h) ⟨by decide, by decide⟩ (Nat.le_of_ble_eq_true rfl) ⟨by decide, by decide⟩ rfl dX12_rounds_199 (fun H_2 locs_2 p_2 hT_2 hk_2 hS_2 => ?_)
        have p_2 : (AU 985 H_c164 H_2 (ρ a0 0) 308 y164_2) := p_2
        have hW_2 : PW N H_2 (ρ a0 0) := PW.put hI_c164.1 p_2 (by show (-2147483648 : Int) ≤ _; exact i_min _) (by show _ ≤ (2147483647 : Int); exact i_max _)
        refine lv_aload_n hx hb dX12_rounds_202 rfl (lv_at hl 0 rfl) ?_
        refine lv_iload_n hx hb dX12_rounds_203 rfl (lv_at hl 1 rfl) ?_
        refine lv_bipush (v := 19) hx hb dX12_rounds_204 (by decide) ?_
        refine lv_aload_n hx hb dX12_rounds_206 rfl (lv_at hl 0 rfl) ?_
        refine lv_iload_n hx hb dX12_rounds_207 rfl (lv_at hl 1 rfl) ?_
        refine lv_bipush (v := 19) hx hb dX12_rounds_208 (by decide) ?_
        refine th_Vi (As := [.int 1, .int 19]) (rest := [.int 19, .int 1, .ref a0]) E hml hl.1 (y_get_v2 l D cI cS τ ρ hW H_2 hT_2 a0 ha0) lk_X12_99 yd_X12_get hT_2 ha0 rfl (by decide) hS_2 (fun _ h => h.elim) ⟨by decide, by decide⟩ (Nat.le_of_ble_eq_true rfl) ⟨by decide, by decide⟩ rfl dX12_rounds_210 (fun r_3 H_3 locs_3 p_3 hT_3 hk_3 hS_3 => ?_)
        have p_3 : H_2 = H_3 ∧ (ai H_2 (ρ a0 0) 307 = r_3) := p_3
        obtain ⟨rfl, p_3_0⟩ := p_3
        have t_3 : ai H_c164 (ρ a0 0) 307 = r_3 := (AU.o p_2 (by decide) (by decide)).symm.trans p_3_0
        have c_r_3 := congrArg Int32.toInt t_3
        refine lv_iconst (v := 1) hx hb dX12_rounds_213 (by decide) ?_
        refine lv_iadd hx hb dX12_rounds_214 ?_
        refine lv_topi (fun x_4 ex_4 => ?_)
        refine th_Vv (As := [.int 1, .int 19, .int x_4]) (rest := []) E hml hl.1 (y_set_v8 l D cI cS τ ρ hW H_2 hT_3 a0 x_4 ha0) lk_X12_95 yd_X12_set hT_3 ha0 rfl (by decide) hS_3 (fun q h => h) ⟨by decide, by decide⟩ (Nat.le_of_ble_eq_true rfl) ⟨by decide, by decide⟩ rfl dX12_rounds_215 (fun H_5 locs_5 p_5 hT_5 hk_5 hS_5 => ?_)
        have p_5 : (AU 985 H_2 H_5 (ρ a0 0) 307 x_4) := p_5
        have hW_5 : PW N H_5 (ρ a0 0) := PW.put hW_2 p_5 (by show (-2147483648 : Int) ≤ _; exact i_min _) (by show _ ≤ (2147483647 : Int); exact i_max _)
        exact th_vret E hr hlk hs hT_5 hS_5 ⟨⟨hW_5, (QS.same (Eq.trans (AU.o p_5 (by decide) (by decide)) (AU.o p_2 (by decide) (by decide))) (Eq.trans (AU.o p_5 (by decide) (by decide)) (AU.o p_2 (by decide) (by decide))) hI_c164.2.1), (QS.same ((Eq.trans (AU.o p_5 (by decide) (by decide)) (Eq.trans (AU.o p_2 (by decide) (by decide)) hk164_288)).trans hk164_288.symm) ((Eq.trans (AU.o p_5 (by decide) (by decide)) (Eq.trans (AU.o p_2 (by decide) (by decide)) hk164_290)).trans hk164_290.symm) hI_c164.2.2.1), (PL.q (p_5.2 _ (th_ne (hW _ 12 2 ha0 (by decide) (by decide) (by decide)) (hW _ 12 0 ha0 (by decide) (by decide) (by decide)) (by decide))) (PL.q (p_2.2 _ (th_ne (hW _ 12 2 ha0 (by decide) (by decide) (by decide)) (hW _ 12 0 ha0 (by decide) (by decide) (by decide)) (by decide))) hI_c164.2.2.2.1)), (PL.q (p_5.2 _ (th_ne (hW _ 12 3 ha0 (by decide) (by decide) (by decide)) (hW _ 12 0 ha0 (by decide) (by decide) (by decide)) (by decide))) (PL.q (p_2.2 _ (th_ne (hW _ 12 3 ha0 (by decide) (by decide) (by decide)) (hW _ 12 0 ha0 (by decide) (by decide) (by decide)) (by decide))) hI_c164.2.2.2.2.1)), (IF.q (p_5.2 _ (th_ne ha0 (hW _ 12 0 ha0 (by decide) (by decide) (by decide)) (by decide))) (IF.q (p_2.2 _ (th_ne ha0 (hW _ 12 0 ha0 (by decide) (by decide) (by decide)) (by decide))) hI_c164.2.2.2.2.2))⟩, (by rw [(Eq.trans (AU.o p_5 (by decide) (by decide)) (AU.o p_2 (by decide) (by decide)))]; omega), (Eq.trans (AU.o p_5 (by decide) (by decide)) (Eq.trans (AU.o p_2 (by decide) (by decide)) hk164_288)), (Eq.trans (AU.o p_5 (by decide) (by decide)) (Eq.trans (AU.o p_2 (by decide) (by decide)) hk164_290))⟩ dX12_rounds_218
      · have f_1 : 0 < y164_3.toInt := r_nle rfl (by decide) c_1
        refine lv_aload_n hx hb dX12_rounds_168 rfl (lv_at hl 0 rfl) ?_
        refine lv_iload_n hx hb dX12_rounds_169 rfl (lv_at hl 1 rfl) ?_
        refine lv_bipush (v := 20) hx hb dX12_rounds_170 (by decide) ?_
        refine lv_iload_n hx hb dX12_rounds_172 rfl (lv_at hl 3 rfl) ?_
        refine lv_iadd hx hb dX12_rounds_173 ?_
        refine lv_topi (fun x_6 ex_6 => ?_)
        have q_6 : x_6.toInt = 20 + y164_3.toInt := i_pl (by decide) rfl ex_6 (by omega) (by omega)
        refine lv_aload_n hx hb dX12_rounds_174 rfl (lv_at hl 0 rfl) ?_
        refine lv_iload_n hx hb dX12_rounds_175 rfl (lv_at hl 1 rfl) ?_
        refine lv_bipush (v := 20) hx hb dX12_rounds_176 (by decide) ?_
        refine lv_iload_n hx hb dX12_rounds_178 rfl (lv_at hl 3 rfl) ?_
        refine lv_iadd hx hb dX12_rounds_179 ?_
        refine lv_topi (fun x_7 ex_7 => ?_)
        have q_7 : x_7.toInt = 20 + y164_3.toInt := i_pl (by decide) rfl ex_7 (by omega) (by omega)
        refine lv_iconst (v := 1) hx hb dX12_rounds_180 (by decide) ?_
        refine lv_isub hx hb dX12_rounds_181 ?_
        refine lv_topi (fun x_8 ex_8 => ?_)
        have q_8 : x_8.toInt = x_7.toInt - 1 := i_mi rfl (by decide) ex_8 (by omega) (by omega)
        refine th_Vi (As := [.int 1, .int x_8]) (rest := [.int x_6, .int 1, .ref a0]) E hml hl.1 (y_get_v6 l D cI cS τ ρ hW H_c164 hT_c164 a0 x_8 ha0 (by omega)) lk_X12_99 yd_X12_get hT_c164 ha0 rfl (by decide) hS_c164 (fun _ h => h.elim) ⟨by decide, by decide⟩ (Nat.le_of_ble_eq_true rfl) ⟨by decide, by decide⟩ rfl dX12_rounds_182 (fun r_9 H_9 locs_9 p_9 hT_9 hk_9 hS_9 => ?_)
        have p_9 : H_c164 = H_9 ∧ (ai H_c164 (ρ a0 0) (288 + x_8.toInt).toNat = r_9) := p_9
        obtain ⟨rfl, p_9_0⟩ := p_9
        refine th_Vv (As := [.int 1, .int x_6, .int r_9]) (rest := []) E hml hl.1 (y_set_v6 l D cI cS τ ρ hW H_c164 hT_9 a0 x_6 r_9 ha0 (by omega)) lk_X12_95 yd_X12_set hT_9 ha0 rfl (by decide) hS_9 (fun q h => h) ⟨by decide, by decide⟩ (Nat.le_of_ble_eq_true rfl) ⟨by decide, by decide⟩ rfl dX12_rounds_185 (fun H_10 locs_10 p_10 hT_10 hk_10 hS_10 => ?_)
        have p_10 : (AU 985 H_c164 H_10 (ρ a0 0) (288 + x_6.toInt).toNat r_9) := p_10
        have hW_10 : PW N H_10 (ρ a0 0) := PW.free hI_c164.1 p_10 (by omega)
        obtain ⟨x_11, ex_11⟩ : ∃ y : Int32, y164_3 + (-1) = y := ⟨_, rfl⟩
        have q_x_11 : x_11.toInt = y164_3.toInt + -1 := i_add (k := -1) (by decide) ex_11 (by have := i_min y164_3; omega) (by have := i_max y164_3; omega)
        refine lv_iinc (v := x_11) (lv' := [(3, .int x_11), (0, .ref a0), (1, .int 1), (2, .int y164_2)]) hx hb dX12_rounds_188 hl (k := 3) rfl (by rw [← ex_11]; rfl) (by decide) rfl (fun ls hl => ?_)
        refine lv_goto (tgt := 164) hx hb dX12_rounds_191 (by decide) ?_
        exact ih_164 H_10 locs_10 _ y164_2 x_11 hT_10 hS_10 (lv_sub hl [1, 2, 3, 0] rfl) (by omega) (by omega) (by omega) ⟨hW_10, (QS.same (AU.o p_10 (by decide) (by omega)) (AU.o p_10 (by decide) (by omega)) hI_c164.2.1), (QS.same ((Eq.trans (AU.o p_10 (by decide) (by omega)) hk164_288).trans hk164_288.symm) ((Eq.trans (AU.o p_10 (by decide) (by omega)) hk164_290).trans hk164_290.symm) hI_c164.2.2.1), (PL.q (p_10.2 _ (th_ne (hW _ 12 2 ha0 (by decide) (by decide) (by decide)) (hW _ 12 0 ha0 (by decide) (by decide) (by decide)) (by decide))) hI_c164.2.2.2.1), (PL.q (p_10.2 _ (th_ne (hW _ 12 3 ha0 (by decide) (by decide) (by decide)) (hW _ 12 0 ha0 (by decide) (by decide) (by decide)) (by decide))) hI_c164.2.2.2.2.1), (IF.q (p_10.2 _ (th_ne ha0 (hW _ 12 0 ha0 (by decide) (by decide) (by decide)) (by decide))) hI_c164.2.2.2.2.2)⟩ (by rw [(AU.o p_10 (by decide) (by omega))]; omega) (Eq.trans (AU.o p_10 (by decide) (by omega)) hk164_288) (Eq.trans (AU.o p_10 (by decide) (by omega)) hk164_290) (by omega)
  have J_128 : ∀ (H_c128 : Heap) (lc_c128 : List Loc) (ls : Array Slot) (y128_2 : Int32), TH D cI cS τ ρ H_c128 → SS (fun q => q = ρ a0 0) H H_c128 lc_c128 → lv_has ls 4 [(0, .ref a0), (1, .int 1), (2, .int y128_2)] → 1 ≤ y128_2.toInt → IM D ρ N H_c128 a0 → (ai H (ρ a0 0) 976).toInt ≤ (ai H_c128 (ρ a0 0) 976).toInt → ai H_c128 (ρ a0 0) 288 = ai H (ρ a0 0) 288 → ai H_c128 (ρ a0 0) 290 = ai H (ρ a0 0) 290 → W p l e (rmO 1 23) s m args below meth c H_c128 lc_c128 0 0 (MQ below (va_Qv (fun (u : Heap) => (IM D ρ N u a0) ∧ ((ai H (ρ a0 0) 976).toInt ≤ (ai u (ρ a0 0) 976).toInt) ∧ (ai u (ρ a0 0) 288 = ai H (ρ a0 0) 288) ∧ (ai u (ρ a0 0) 290 = ai H (ρ a0 0) 290)) (Bt D cI cS τ ρ H) (fun q => q = ρ a0 0)) args s 0 0 (fun q => q = ρ a0 0)) (F0 m 128 ls []) := by
    intro H_c128 lc_c128 ls y128_2 hT_c128 hS_c128 hl ly128_2 hI_c128 hmn_c128 hk128_288 hk128_290
    refine lv_aload_n hx hb dX12_rounds_128 rfl (lv_at hl 0 rfl) ?_
    refine lv_iload_n hx hb dX12_rounds_129 rfl (lv_at hl 1 rfl) ?_
    refine lv_bipush (v := 8) hx hb dX12_rounds_130 (by decide) ?_
    refine lv_bipush (v := 64) hx hb dX12_rounds_132 (by decide) ?_
    refine lv_iconst (v := 2) hx hb dX12_rounds_134 (by decide) ?_
    refine lv_aload_n hx hb dX12_rounds_135 rfl (lv_at hl 0 rfl) ?_
    refine lv_iload_n hx hb dX12_rounds_136 rfl (lv_at hl 1 rfl) ?_
    refine lv_bipush (v := 9) hx hb dX12_rounds_137 (by decide) ?_
    refine th_Vi (As := [.int 1, .int 9]) (rest := [.int 2, .int 64, .int 8, .int 1, .ref a0]) E hml hl.1 (y_get_v3 l D cI cS τ ρ hW H_c128 hT_c128 a0 ha0) lk_X12_99 yd_X12_get hT_c128 ha0 rfl (by decide) hS_c128 (fun _ h => h.elim) ⟨by decide, by decide⟩ (Nat.le_of_ble_eq_true rfl) ⟨by decide, by decide⟩ rfl dX12_rounds_139 (fun r_12 H_12 locs_12 p_12 hT_12 hk_12 hS_12 => ?_)
    have p_12 : H_c128 = H_12 ∧ (ai H_c128 (ρ a0 0) 297 = r_12) := p_12
    obtain ⟨rfl, p_12_0⟩ := p_12
    have c_r_12 := congrArg Int32.toInt p_12_0
    refine lv_bipush (v := 8) hx hb dX12_rounds_142 (by decide) ?_
    refine lv_idiv hx hb dX12_rounds_144 (by decide) ?_
    refine lv_topi (fun x_13 ex_13 => ?_)
    refine lv_aload_n hx hb dX12_rounds_145 rfl (lv_at hl 0 rfl) ?_
    refine lv_iload_n hx hb dX12_rounds_146 rfl (lv_at hl 1 rfl) ?_
    refine lv_bipush (v := 10) hx hb dX12_rounds_147 (by decide) ?_
    refine th_Vi (As := [.int 1, .int 10]) (rest := [.int x_13, .int 2, .int 64, .int 8, .int 1, .ref a0]) E hml hl.1 (y_get_v4 l D cI cS τ ρ hW H_c128 hT_12 a0 ha0) lk_X12_99 yd_X12_get hT_12 ha0 rfl (by decide) hS_12 (fun _ h => h.elim) ⟨by decide, by decide⟩ (Nat.le_of_ble_eq_true rfl) ⟨by decide, by decide⟩ rfl dX12_rounds_149 (fun r_14 H_14 locs_14 p_14 hT_14 hk_14 hS_14 => ?_)
    have p_14 : H_c128 = H_14 ∧ (ai H_c128 (ρ a0 0) 298 = r_14) := p_14
    obtain ⟨rfl, p_14_0⟩ := p_14
    have c_r_14 := congrArg Int32.toInt p_14_0
    refine lv_iadd hx hb dX12_rounds_152 ?_
    refine lv_topi (fun x_15 ex_15 => ?_)
    refine th_Si (As := [.int 2, .int x_15]) (rest := [.int 64, .int 8, .int 1, .ref a0]) E hml hl.1 (y_greater_v2 l D cI cS τ ρ hW H_c128 hT_14 x_15) lk_X12_103 yd_X12_greater hS_14 (fun _ h => h.elim) ⟨by decide, by decide⟩ (Nat.le_of_ble_eq_true rfl) ⟨by decide, by decide⟩ rfl dX12_rounds_153 (fun r_16 H_16 locs_16 p_16 hT_16 hk_16 hS_16 => ?_)
    have p_16 : H_c128 = H_16 ∧ (2 ≤ r_16.toInt ∧ x_15.toInt ≤ r_16.toInt ∧ (r_16.toInt = 2 ∨ r_16.toInt = x_15.toInt)) := p_16
    obtain ⟨rfl, p_16_0⟩ := p_16
    refine th_Si (As := [.int 64, .int r_16]) (rest := [.int 8, .int 1, .ref a0]) E hml hl.1 (y_lesser l D cI cS τ ρ hW H_c128 hT_16 r_16) lk_X12_146 yd_X12_lesser hS_16 (fun _ h => h.elim) ⟨by decide, by decide⟩ (Nat.le_of_ble_eq_true rfl) ⟨by decide, by decide⟩ rfl dX12_rounds_156 (fun r_17 H_17 locs_17 p_17 hT_17 hk_17 hS_17 => ?_)
    have p_17 : H_c128 = H_17 ∧ (r_17.toInt ≤ 64 ∧ r_17.toInt ≤ r_16.toInt ∧ (r_17.toInt = 64 ∨ r_17.toInt = r_16.toInt)) := p_17
    obtain ⟨rfl, p_17_0⟩ := p_17
    refine th_Vv (As := [.int 1, .int 8, .int r_17]) (rest := []) E hml hl.1 (y_set_v4 l D cI cS τ ρ hW H_c128 hT_17 a0 r_17 ha0) lk_X12_95 yd_X12_set hT_17 ha0 rfl (by decide) hS_17 (fun q h => h) ⟨by decide, by decide⟩ (Nat.le_of_ble_eq_true rfl) ⟨by decide, by decide⟩ rfl dX12_rounds_159 (fun H_18 locs_18 p_18 hT_18 hk_18 hS_18 => ?_)
    have p_18 : (AU 985 H_c128 H_18 (ρ a0 0) 296 r_17) := p_18
    have hW_18 : PW N H_18 (ρ a0 0) := PW.put hI_c128.1 p_18 (by show (-2147483648 : Int) ≤ _; exact i_min _) (by show _ ≤ (2147483647 : Int); exact i_max _)
    refine lv_iconst (v := 5) hx hb dX12_rounds_162 (by decide) ?_
    refine lv_istore_n (lv' := [(3, .int 5), (0, .ref a0), (1, .int 1), (2, .int y128_2)]) hx hb dX12_rounds_163 rfl hl (by decide) rfl (fun ls hl => ?_)
    exact L_164 _ H_18 locs_18 _ y128_2 5 hT_18 hS_18 (lv_sub hl [1, 2, 3, 0] rfl) (by omega) (by decide) (by decide) ⟨hW_18, (QS.same (AU.o p_18 (by decide) (by decide)) (AU.o p_18 (by decide) (by decide)) hI_c128.2.1), (QS.same ((Eq.trans (AU.o p_18 (by decide) (by decide)) hk128_288).trans hk128_288.symm) ((Eq.trans (AU.o p_18 (by decide) (by decide)) hk128_290).trans hk128_290.symm) hI_c128.2.2.1), (PL.q (p_18.2 _ (th_ne (hW _ 12 2 ha0 (by decide) (by decide) (by decide)) (hW _ 12 0 ha0 (by decide) (by decide) (by decide)) (by decide))) hI_c128.2.2.2.1), (PL.q (p_18.2 _ (th_ne (hW _ 12 3 ha0 (by decide) (by decide) (by decide)) (hW _ 12 0 ha0 (by decide) (by decide) (by decide)) (by decide))) hI_c128.2.2.2.2.1), (IF.q (p_18.2 _ (th_ne ha0 (hW _ 12 0 ha0 (by decide) (by decide) (by decide)) (by decide))) hI_c128.2.2.2.2.2)⟩ (by rw [(AU.o p_18 (by decide) (by decide))]; omega) (Eq.trans (AU.o p_18 (by decide) (by decide)) hk128_288) (Eq.trans (AU.o p_18 (by decide) (by decide)) hk128_290) (Nat.lt_succ_self _)
  have J_114 : ∀ (H_c114 : Heap) (lc_c114 : List Loc) (ls : Array Slot) (y114_2 : Int32) (y114_3 : Int32) (z114_3 : Int32) (z114_4 : Int32), TH D cI cS τ ρ H_c114 → SS (fun q => q = ρ a0 0) H H_c114 lc_c114 → lv_has ls 4 [(0, .ref a0), (1, .int 1), (2, .int y114_2), (3, .int y114_3)] → 1 ≤ y114_2.toInt → IM D ρ N H_c114 a0 → (ai H (ρ a0 0) 976).toInt ≤ (ai H_c114 (ρ a0 0) 976).toInt → ai H_c114 (ρ a0 0) 288 = ai H (ρ a0 0) 288 → ai H_c114 (ρ a0 0) 290 = ai H (ρ a0 0) 290 → W p l e (rmO 1 23) s m args below meth c H_c114 lc_c114 0 0 (MQ below (va_Qv (fun (u : Heap) => (IM D ρ N u a0) ∧ ((ai H (ρ a0 0) 976).toInt ≤ (ai u (ρ a0 0) 976).toInt) ∧ (ai u (ρ a0 0) 288 = ai H (ρ a0 0) 288) ∧ (ai u (ρ a0 0) 290 = ai H (ρ a0 0) 290)) (Bt D cI cS τ ρ H) (fun q => q = ρ a0 0)) args s 0 0 (fun q => q = ρ a0 0)) (F0 m 114 ls [.int z114_4, .int z114_3, .int 10, .int 1, .ref a0]) := by
    intro H_c114 lc_c114 ls y114_2 y114_3 z114_3 z114_4 hT_c114 hS_c114 hl ly114_2 hI_c114 hmn_c114 hk114_288 hk114_290
    refine lv_iadd hx hb dX12_rounds_114 ?_
    refine lv_topi (fun x_19 ex_19 => ?_)
    refine lv_aload_n hx hb dX12_rounds_115 rfl (lv_at hl 0 rfl) ?_
    refine lv_iload_n hx hb dX12_rounds_116 rfl (lv_at hl 1 rfl) ?_
    refine lv_bipush (v := 10) hx hb dX12_rounds_117 (by decide) ?_
    refine th_Vi (As := [.int 1, .int 10]) (rest := [.int x_19, .int 10, .int 1, .ref a0]) E hml hl.1 (y_get_v4 l D cI cS τ ρ hW H_c114 hT_c114 a0 ha0) lk_X12_99 yd_X12_get hT_c114 ha0 rfl (by decide) hS_c114 (fun _ h => h.elim) ⟨by decide, by decide⟩ (Nat.le_of_ble_eq_true rfl) ⟨by decide, by decide⟩ rfl dX12_rounds_119 (fun r_20 H_20 locs_20 p_20 hT_20 hk_20 hS_20 => ?_)
    have p_20 : H_c114 = H_20 ∧ (ai H_c114 (ρ a0 0) 298 = r_20) := p_20
    obtain ⟨rfl, p_20_0⟩ := p_20
    have c_r_20 := congrArg Int32.toInt p_20_0
    refine lv_iconst (v := 4) hx hb dX12_rounds_122 (by decide) ?_
    refine lv_idiv hx hb dX12_rounds_123 (by decide) ?_
    refine lv_topi (fun x_21 ex_21 => ?_)
    refine lv_isub hx hb dX12_rounds_124 ?_
    refine lv_topi (fun x_22 ex_22 => ?_)
    refine th_Vv (As := [.int 1, .int 10, .int x_22]) (rest := []) E hml hl.1 (y_set_v3 l D cI cS τ ρ hW H_c114 hT_20 a0 x_22 ha0) lk_X12_95 yd_X12_set hT_20 ha0 rfl (by decide) hS_20 (fun q h => h) ⟨by decide, by decide⟩ (Nat.le_of_ble_eq_true rfl) ⟨by decide, by decide⟩ rfl dX12_rounds_125 (fun H_23 locs_23 p_23 hT_23 hk_23 hS_23 => ?_)
    have p_23 : (AU 985 H_c114 H_23 (ρ a0 0) 298 x_22) := p_23
    have hW_23 : PW N H_23 (ρ a0 0) := PW.put hI_c114.1 p_23 (by show (-2147483648 : Int) ≤ _; exact i_min _) (by show _ ≤ (2147483647 : Int); exact i_max _)
    exact J_128 H_23 locs_23 _ y114_2 hT_23 hS_23 (lv_sub hl [0, 1, 2] rfl) (by omega) ⟨hW_23, (QS.same (AU.o p_23 (by decide) (by decide)) (AU.o p_23 (by decide) (by decide)) hI_c114.2.1), (QS.same ((Eq.trans (AU.o p_23 (by decide) (by decide)) hk114_288).trans hk114_288.symm) ((Eq.trans (AU.o p_23 (by decide) (by decide)) hk114_290).trans hk114_290.symm) hI_c114.2.2.1), (PL.q (p_23.2 _ (th_ne (hW _ 12 2 ha0 (by decide) (by decide) (by decide)) (hW _ 12 0 ha0 (by decide) (by decide) (by decide)) (by decide))) hI_c114.2.2.2.1), (PL.q (p_23.2 _ (th_ne (hW _ 12 3 ha0 (by decide) (by decide) (by decide)) (hW _ 12 0 ha0 (by decide) (by decide) (by decide)) (by decide))) hI_c114.2.2.2.2.1), (IF.q (p_23.2 _ (th_ne ha0 (hW _ 12 0 ha0 (by decide) (by decide) (by decide)) (by decide))) hI_c114.2.2.2.2.2)⟩ (by rw [(AU.o p_23 (by decide) (by decide))]; omega) (Eq.trans (AU.o p_23 (by decide) (by decide)) hk114_288) (Eq.trans (AU.o p_23 (by decide) (by decide)) hk114_290)
  refine lv_iconst (v := 1) hx hb dX12_rounds_0 (by decide) ?_
  refine lv_aload_n hx hb dX12_rounds_1 rfl (lv_at hl 0 rfl) ?_
  refine gf_X12_7 E hT hW ha0 dX12_rounds_2 (fun h_24 => ?_)
  refine lv_sipush (v := 977) hx hb dX12_rounds_5 (by decide) ?_
  refine th_iald E hT h_24 (by decide) (vp_in_iff.mpr ⟨by decide, by decide⟩) dX12_rounds_8 ?_
  refine th_topi (y := ai H (ρ a0 0) 977) rfl ?_
  refine lv_topi (fun x_25 ex_25 => ?_)
  have c_x_25 := congrArg Int32.toInt ex_25.symm
  refine lv_aload_n hx hb dX12_rounds_9 rfl (lv_at hl 0 rfl) ?_
  refine lv_iload_n hx hb dX12_rounds_10 rfl (lv_at hl 1 rfl) ?_
  refine lv_bipush (v := 18) hx hb dX12_rounds_11 (by decide) ?_
  refine th_Vi (As := [.int 1, .int 18]) (rest := [.int x_25, .int 1]) E hml hl.1 (y_get l D cI cS τ ρ hW H hT a0 ha0) lk_X12_99 yd_X12_get hT ha0 rfl (by decide) hS (fun _ h => h.elim) ⟨by decide, by decide⟩ (Nat.le_of_ble_eq_true rfl) ⟨by decide, by decide⟩ rfl dX12_rounds_13 (fun r_26 H_26 locs_26 p_26 hT_26 hk_26 hS_26 => ?_)
  have p_26 : H = H_26 ∧ (ai H (ρ a0 0) 306 = r_26) := p_26
  obtain ⟨rfl, p_26_0⟩ := p_26
  have c_r_26 := congrArg Int32.toInt p_26_0
  refine lv_isub hx hb dX12_rounds_16 ?_
  refine lv_topi (fun x_27 ex_27 => ?_)
  refine th_Si (As := [.int 1, .int x_27]) (rest := []) E hml hl.1 (y_greater l D cI cS τ ρ hW H hT_26 x_27) lk_X12_103 yd_X12_greater hS_26 (fun _ h => h.elim) ⟨by decide, by decide⟩ (Nat.le_of_ble_eq_true rfl) ⟨by decide, by decide⟩ rfl dX12_rounds_17 (fun r_28 H_28 locs_28 p_28 hT_28 hk_28 hS_28 => ?_)
  have p_28 : H = H_28 ∧ (1 ≤ r_28.toInt ∧ x_27.toInt ≤ r_28.toInt ∧ (r_28.toInt = 1 ∨ r_28.toInt = x_27.toInt)) := p_28
  obtain ⟨rfl, p_28_0⟩ := p_28
  refine lv_istore_n (lv' := [(2, .int r_28), (0, .ref a0), (1, .int 1)]) hx hb dX12_rounds_20 rfl hl (by decide) rfl (fun ls hl => ?_)
  refine lv_aload_n hx hb dX12_rounds_21 rfl (lv_at hl 1 rfl) ?_
  refine lv_iload_n hx hb dX12_rounds_22 rfl (lv_at hl 2 rfl) ?_
  refine lv_bipush (v := 16) hx hb dX12_rounds_23 (by decide) ?_
  refine lv_bipush (v := (-4)) hx hb dX12_rounds_25 (by decide) ?_
  refine th_Vv (As := [.int 1, .int 16, .int (-4)]) (rest := []) E hml hl.1 (y_set l D cI cS τ ρ hW H hT_28 a0 ha0) lk_X12_95 yd_X12_set hT_28 ha0 rfl (by decide) hS_28 (fun q h => h) ⟨by decide, by decide⟩ (Nat.le_of_ble_eq_true rfl) ⟨by decide, by decide⟩ rfl dX12_rounds_27 (fun H_29 locs_29 p_29 hT_29 hk_29 hS_29 => ?_)
  have p_29 : (AU 985 H H_29 (ρ a0 0) 304 ((-4))) := p_29
  have hW_29 : PW N H_29 (ρ a0 0) := PW.put hI.1 p_29 (by show (-2147483648 : Int) ≤ _; exact i_min _) (by show _ ≤ (2147483647 : Int); exact i_max _)
  refine lv_aload_n hx hb dX12_rounds_30 rfl (lv_at hl 1 rfl) ?_
  refine lv_iload_n hx hb dX12_rounds_31 rfl (lv_at hl 2 rfl) ?_
  refine lv_bipush (v := 19) hx hb dX12_rounds_32 (by decide) ?_
  refine th_Vi (As := [.int 1, .int 19]) (rest := []) E hml hl.1 (y_get_v2 l D cI cS τ ρ hW H_29 hT_29 a0 ha0) lk_X12_99 yd_X12_get hT_29 ha0 rfl (by decide) hS_29 (fun _ h => h.elim) ⟨by decide, by decide⟩ (Nat.le_of_ble_eq_true rfl) ⟨by decide, by decide⟩ rfl dX12_rounds_34 (fun r_30 H_30 locs_30 p_30 hT_30 hk_30 hS_30 => ?_)
  have p_30 : H_29 = H_30 ∧ (ai H_29 (ρ a0 0) 307 = r_30) := p_30
  obtain ⟨rfl, p_30_0⟩ := p_30
  have t_30 : ai H (ρ a0 0) 307 = r_30 := (AU.o p_29 (by decide) (by decide)).symm.trans p_30_0
  have c_r_30 := congrArg Int32.toInt t_30
  refine lv_if_ne (tgt := 64) hx hb dX12_rounds_37 (by decide) (fun c_31 => ?_) (fun c_31 => ?_)
  · have f_31 : ¬ r_30.toInt = 0 := r_ne rfl (by decide) c_31
    have nz_r_30 : ¬ r_30 = 0 := c_31
    refine lv_iload_n hx hb dX12_rounds_64 rfl (lv_at hl 0 rfl) ?_
    refine lv_aload_n hx hb dX12_rounds_65 rfl (lv_at hl 1 rfl) ?_
    refine lv_iload_n hx hb dX12_rounds_66 rfl (lv_at hl 2 rfl) ?_
    refine lv_bipush (v := 9) hx hb dX12_rounds_67 (by decide) ?_
    refine th_Vi (As := [.int 1, .int 9]) (rest := [.int r_28]) E hml hl.1 (y_get_v3 l D cI cS τ ρ hW H_29 hT_30 a0 ha0) lk_X12_99 yd_X12_get hT_30 ha0 rfl (by decide) hS_30 (fun _ h => h.elim) ⟨by decide, by decide⟩ (Nat.le_of_ble_eq_true rfl) ⟨by decide, by decide⟩ rfl dX12_rounds_69 (fun r_32 H_32 locs_32 p_32 hT_32 hk_32 hS_32 => ?_)
    have p_32 : H_29 = H_32 ∧ (ai H_29 (ρ a0 0) 297 = r_32) := p_32
    obtain ⟨rfl, p_32_0⟩ := p_32
    have t_32 : ai H (ρ a0 0) 297 = r_32 := (AU.o p_29 (by decide) (by decide)).symm.trans p_32_0
    have c_r_32 := congrArg Int32.toInt t_32
    refine lv_bipush (v := 8) hx hb dX12_rounds_72 (by decide) ?_
    refine lv_idiv hx hb dX12_rounds_74 (by decide) ?_
    refine lv_topi (fun x_33 ex_33 => ?_)
    refine lv_isub hx hb dX12_rounds_75 ?_
    refine lv_topi (fun x_34 ex_34 => ?_)
    refine lv_istore_n (lv' := [(3, .int x_34), (2, .int r_28), (0, .ref a0), (1, .int 1)]) hx hb dX12_rounds_76 rfl hl (by decide) rfl (fun ls hl => ?_)
    refine lv_aload_n hx hb dX12_rounds_77 rfl (lv_at hl 2 rfl) ?_
    refine lv_iload_n hx hb dX12_rounds_78 rfl (lv_at hl 3 rfl) ?_
    refine lv_bipush (v := 9) hx hb dX12_rounds_79 (by decide) ?_
    refine lv_aload_n hx hb dX12_rounds_81 rfl (lv_at hl 2 rfl) ?_
    refine lv_iload_n hx hb dX12_rounds_82 rfl (lv_at hl 3 rfl) ?_
    refine lv_bipush (v := 9) hx hb dX12_rounds_83 (by decide) ?_
    refine th_Vi (As := [.int 1, .int 9]) (rest := [.int 9, .int 1, .ref a0]) E hml hl.1 (y_get_v3 l D cI cS τ ρ hW H_29 hT_32 a0 ha0) lk_X12_99 yd_X12_get hT_32 ha0 rfl (by decide) hS_32 (fun _ h => h.elim) ⟨by decide, by decide⟩ (Nat.le_of_ble_eq_true rfl) ⟨by decide, by decide⟩ rfl dX12_rounds_85 (fun r_35 H_35 locs_35 p_35 hT_35 hk_35 hS_35 => ?_)
    have p_35 : H_29 = H_35 ∧ (ai H_29 (ρ a0 0) 297 = r_35) := p_35
    obtain ⟨rfl, p_35_0⟩ := p_35
    have s_35 : r_35 = r_32 := p_35_0.symm.trans ((AU.o p_29 (by decide) (by decide)).trans t_32)
    refine th_topi s_35 ?_
    refine lv_iload_n hx hb dX12_rounds_88 rfl (lv_at hl 0 rfl) ?_
    refine lv_iadd hx hb dX12_rounds_89 ?_
    refine lv_topi (fun x_36 ex_36 => ?_)
    refine th_Vv (As := [.int 1, .int 9, .int x_36]) (rest := []) E hml hl.1 (y_set_v2 l D cI cS τ ρ hW H_29 hT_35 a0 x_36 ha0) lk_X12_95 yd_X12_set hT_35 ha0 rfl (by decide) hS_35 (fun q h => h) ⟨by decide, by decide⟩ (Nat.le_of_ble_eq_true rfl) ⟨by decide, by decide⟩ rfl dX12_rounds_90 (fun H_37 locs_37 p_37 hT_37 hk_37 hS_37 => ?_)
    have p_37 : (AU 985 H_29 H_37 (ρ a0 0) 297 x_36) := p_37
    have hW_37 : PW N H_37 (ρ a0 0) := PW.put hW_29 p_37 (by show (-2147483648 : Int) ≤ _; exact i_min _) (by show _ ≤ (2147483647 : Int); exact i_max _)
    refine lv_aload_n hx hb dX12_rounds_93 rfl (lv_at hl 2 rfl) ?_
    refine lv_iload_n hx hb dX12_rounds_94 rfl (lv_at hl 3 rfl) ?_
    refine lv_bipush (v := 10) hx hb dX12_rounds_95 (by decide) ?_
    refine lv_aload_n hx hb dX12_rounds_97 rfl (lv_at hl 2 rfl) ?_
    refine lv_iload_n hx hb dX12_rounds_98 rfl (lv_at hl 3 rfl) ?_
    refine lv_bipush (v := 10) hx hb dX12_rounds_99 (by decide) ?_
    refine th_Vi (As := [.int 1, .int 10]) (rest := [.int 10, .int 1, .ref a0]) E hml hl.1 (y_get_v4 l D cI cS τ ρ hW H_37 hT_37 a0 ha0) lk_X12_99 yd_X12_get hT_37 ha0 rfl (by decide) hS_37 (fun _ h => h.elim) ⟨by decide, by decide⟩ (Nat.le_of_ble_eq_true rfl) ⟨by decide, by decide⟩ rfl dX12_rounds_101 (fun r_38 H_38 locs_38 p_38 hT_38 hk_38 hS_38 => ?_)
    have p_38 : H_37 = H_38 ∧ (ai H_37 (ρ a0 0) 298 = r_38) := p_38
    obtain ⟨rfl, p_38_0⟩ := p_38
    have t_38 : ai H (ρ a0 0) 298 = r_38 := (Eq.trans (AU.o p_37 (by decide) (by decide)) (AU.o p_29 (by decide) (by decide))).symm.trans p_38_0
    have c_r_38 := congrArg Int32.toInt t_38
    refine lv_iload_n hx hb dX12_rounds_104 rfl (lv_at hl 0 rfl) ?_
    refine lv_if_ge (tgt := 113) hx hb dX12_rounds_105 (by decide) (fun c_39 => ?_) (fun c_39 => ?_)
    · have f_39 : 0 ≤ x_34.toInt := r_le (by decide) rfl c_39
      refine lv_iload_n hx hb dX12_rounds_113 rfl (lv_at hl 0 rfl) ?_
      exact J_114 H_37 locs_38 _ r_28 x_34 r_38 x_34 hT_38 hS_38 (lv_sub hl [2, 3, 1, 0] rfl) (by omega) ⟨hW_37, (QS.same (Eq.trans (AU.o p_37 (by decide) (by decide)) (AU.o p_29 (by decide) (by decide))) (Eq.trans (AU.o p_37 (by decide) (by decide)) (AU.o p_29 (by decide) (by decide))) hI.2.1), (QS.same (Eq.trans (AU.o p_37 (by decide) (by decide)) (AU.o p_29 (by decide) (by decide))) (Eq.trans (AU.o p_37 (by decide) (by decide)) (AU.o p_29 (by decide) (by decide))) hI.2.2.1), (PL.q (p_37.2 _ (th_ne (hW _ 12 2 ha0 (by decide) (by decide) (by decide)) (hW _ 12 0 ha0 (by decide) (by decide) (by decide)) (by decide))) (PL.q (p_29.2 _ (th_ne (hW _ 12 2 ha0 (by decide) (by decide) (by decide)) (hW _ 12 0 ha0 (by decide) (by decide) (by decide)) (by decide))) hI.2.2.2.1)), (PL.q (p_37.2 _ (th_ne (hW _ 12 3 ha0 (by decide) (by decide) (by decide)) (hW _ 12 0 ha0 (by decide) (by decide) (by decide)) (by decide))) (PL.q (p_29.2 _ (th_ne (hW _ 12 3 ha0 (by decide) (by decide) (by decide)) (hW _ 12 0 ha0 (by decide) (by decide) (by decide)) (by decide))) hI.2.2.2.2.1)), (IF.q (p_37.2 _ (th_ne ha0 (hW _ 12 0 ha0 (by decide) (by decide) (by decide)) (by decide))) (IF.q (p_29.2 _ (th_ne ha0 (hW _ 12 0 ha0 (by decide) (by decide) (by decide)) (by decide))) hI.2.2.2.2.2))⟩ (by rw [(Eq.trans (AU.o p_37 (by decide) (by decide)) (AU.o p_29 (by decide) (by decide)))]; omega) (Eq.trans (AU.o p_37 (by decide) (by decide)) (AU.o p_29 (by decide) (by decide))) (Eq.trans (AU.o p_37 (by decide) (by decide)) (AU.o p_29 (by decide) (by decide)))
    · have f_39 : x_34.toInt < 0 := r_nle (by decide) rfl c_39
      refine lv_iload_n hx hb dX12_rounds_108 rfl (lv_at hl 0 rfl) ?_
      refine lv_ineg hx hb dX12_rounds_109 ?_
      refine lv_topi (fun x_40 ex_40 => ?_)
      refine lv_goto (tgt := 114) hx hb dX12_rounds_110 (by decide) ?_
      exact J_114 H_37 locs_38 _ r_28 x_34 r_38 x_40 hT_38 hS_38 (lv_sub hl [2, 3, 1, 0] rfl) (by omega) ⟨hW_37, (QS.same (Eq.trans (AU.o p_37 (by decide) (by decide)) (AU.o p_29 (by decide) (by decide))) (Eq.trans (AU.o p_37 (by decide) (by decide)) (AU.o p_29 (by decide) (by decide))) hI.2.1), (QS.same (Eq.trans (AU.o p_37 (by decide) (by decide)) (AU.o p_29 (by decide) (by decide))) (Eq.trans (AU.o p_37 (by decide) (by decide)) (AU.o p_29 (by decide) (by decide))) hI.2.2.1), (PL.q (p_37.2 _ (th_ne (hW _ 12 2 ha0 (by decide) (by decide) (by decide)) (hW _ 12 0 ha0 (by decide) (by decide) (by decide)) (by decide))) (PL.q (p_29.2 _ (th_ne (hW _ 12 2 ha0 (by decide) (by decide) (by decide)) (hW _ 12 0 ha0 (by decide) (by decide) (by decide)) (by decide))) hI.2.2.2.1)), (PL.q (p_37.2 _ (th_ne (hW _ 12 3 ha0 (by decide) (by decide) (by decide)) (hW _ 12 0 ha0 (by decide) (by decide) (by decide)) (by decide))) (PL.q (p_29.2 _ (th_ne (hW _ 12 3 ha0 (by decide) (by decide) (by decide)) (hW _ 12 0 ha0 (by decide) (by decide) (by decide)) (by decide))) hI.2.2.2.2.1)), (IF.q (p_37.2 _ (th_ne ha0 (hW _ 12 0 ha0 (by decide) (by decide) (by decide)) (by decide))) (IF.q (p_29.2 _ (th_ne ha0 (hW _ 12 0 ha0 (by decide) (by decide) (by decide)) (by decide))) hI.2.2.2.2.2))⟩ (by rw [(Eq.trans (AU.o p_37 (by decide) (by decide)) (AU.o p_29 (by decide) (by decide)))]; omega) (Eq.trans (AU.o p_37 (by decide) (by decide)) (AU.o p_29 (by decide) (by decide))) (Eq.trans (AU.o p_37 (by decide) (by decide)) (AU.o p_29 (by decide) (by decide)))
  · have f_31 : r_30.toInt = 0 := r_eq rfl (by decide) c_31
    refine lv_aload_n hx hb dX12_rounds_40 rfl (lv_at hl 1 rfl) ?_
    refine lv_iload_n hx hb dX12_rounds_41 rfl (lv_at hl 2 rfl) ?_
    refine lv_bipush (v := 9) hx hb dX12_rounds_42 (by decide) ?_
    refine lv_bipush (v := 8) hx hb dX12_rounds_44 (by decide) ?_
    refine lv_iload_n hx hb dX12_rounds_46 rfl (lv_at hl 0 rfl) ?_
    refine lv_imul hx hb dX12_rounds_47 ?_
    refine lv_topi (fun x_41 ex_41 => ?_)
    refine th_Vv (As := [.int 1, .int 9, .int x_41]) (rest := []) E hml hl.1 (y_set_v2 l D cI cS τ ρ hW H_29 hT_30 a0 x_41 ha0) lk_X12_95 yd_X12_set hT_30 ha0 rfl (by decide) hS_30 (fun q h => h) ⟨by decide, by decide⟩ (Nat.le_of_ble_eq_true rfl) ⟨by decide, by decide⟩ rfl dX12_rounds_48 (fun H_42 locs_42 p_42 hT_42 hk_42 hS_42 => ?_)
    have p_42 : (AU 985 H_29 H_42 (ρ a0 0) 297 x_41) := p_42
    have hW_42 : PW N H_42 (ρ a0 0) := PW.put hW_29 p_42 (by show (-2147483648 : Int) ≤ _; exact i_min _) (by show _ ≤ (2147483647 : Int); exact i_max _)
    refine lv_aload_n hx hb dX12_rounds_51 rfl (lv_at hl 1 rfl) ?_
    refine lv_iload_n hx hb dX12_rounds_52 rfl (lv_at hl 2 rfl) ?_
    refine lv_bipush (v := 10) hx hb dX12_rounds_53 (by decide) ?_
    refine lv_iconst (v := 2) hx hb dX12_rounds_55 (by decide) ?_
    refine lv_iload_n hx hb dX12_rounds_56 rfl (lv_at hl 0 rfl) ?_
    refine lv_imul hx hb dX12_rounds_57 ?_
    refine lv_topi (fun x_43 ex_43 => ?_)
    refine th_Vv (As := [.int 1, .int 10, .int x_43]) (rest := []) E hml hl.1 (y_set_v3 l D cI cS τ ρ hW H_42 hT_42 a0 x_43 ha0) lk_X12_95 yd_X12_set hT_42 ha0 rfl (by decide) hS_42 (fun q h => h) ⟨by decide, by decide⟩ (Nat.le_of_ble_eq_true rfl) ⟨by decide, by decide⟩ rfl dX12_rounds_58 (fun H_44 locs_44 p_44 hT_44 hk_44 hS_44 => ?_)
    have p_44 : (AU 985 H_42 H_44 (ρ a0 0) 298 x_43) := p_44
    have hW_44 : PW N H_44 (ρ a0 0) := PW.put hW_42 p_44 (by show (-2147483648 : Int) ≤ _; exact i_min _) (by show _ ≤ (2147483647 : Int); exact i_max _)
    refine lv_goto (tgt := 128) hx hb dX12_rounds_61 (by decide) ?_
    exact J_128 H_44 locs_44 _ r_28 hT_44 hS_44 (lv_sub hl [1, 2, 0] rfl) (by omega) ⟨hW_44, (QS.same (Eq.trans (AU.o p_44 (by decide) (by decide)) (Eq.trans (AU.o p_42 (by decide) (by decide)) (AU.o p_29 (by decide) (by decide)))) (Eq.trans (AU.o p_44 (by decide) (by decide)) (Eq.trans (AU.o p_42 (by decide) (by decide)) (AU.o p_29 (by decide) (by decide)))) hI.2.1), (QS.same (Eq.trans (AU.o p_44 (by decide) (by decide)) (Eq.trans (AU.o p_42 (by decide) (by decide)) (AU.o p_29 (by decide) (by decide)))) (Eq.trans (AU.o p_44 (by decide) (by decide)) (Eq.trans (AU.o p_42 (by decide) (by decide)) (AU.o p_29 (by decide) (by decide)))) hI.2.2.1), (PL.q (p_44.2 _ (th_ne (hW _ 12 2 ha0 (by decide) (by decide) (by decide)) (hW _ 12 0 ha0 (by decide) (by decide) (by decide)) (by decide))) (PL.q (p_42.2 _ (th_ne (hW _ 12 2 ha0 (by decide) (by decide) (by decide)) (hW _ 12 0 ha0 (by decide) (by decide) (by decide)) (by decide))) (PL.q (p_29.2 _ (th_ne (hW _ 12 2 ha0 (by decide) (by decide) (by decide)) (hW _ 12 0 ha0 (by decide) (by decide) (by decide)) (by decide))) hI.2.2.2.1))), (PL.q (p_44.2 _ (th_ne (hW _ 12 3 ha0 (by decide) (by decide) (by decide)) (hW _ 12 0 ha0 (by decide) (by decide) (by decide)) (by decide))) (PL.q (p_42.2 _ (th_ne (hW _ 12 3 ha0 (by decide) (by decide) (by decide)) (hW _ 12 0 ha0 (by decide) (by decide) (by decide)) (by decide))) (PL.q (p_29.2 _ (th_ne (hW _ 12 3 ha0 (by decide) (by decide) (by decide)) (hW _ 12 0 ha0 (by decide) (by decide) (by decide)) (by decide))) hI.2.2.2.2.1))), (IF.q (p_44.2 _ (th_ne ha0 (hW _ 12 0 ha0 (by decide) (by decide) (by decide)) (by decide))) (IF.q (p_42.2 _ (th_ne ha0 (hW _ 12 0 ha0 (by decide) (by decide) (by decide)) (by decide))) (IF.q (p_29.2 _ (th_ne ha0 (hW _ 12 0 ha0 (by decide) (by decide) (by decide)) (by decide))) hI.2.2.2.2.2)))⟩ (by rw [(Eq.trans (AU.o p_44 (by decide) (by decide)) (Eq.trans (AU.o p_42 (by decide) (by decide)) (AU.o p_29 (by decide) (by decide))))]; omega) (Eq.trans (AU.o p_44 (by decide) (by decide)) (Eq.trans (AU.o p_42 (by decide) (by decide)) (AU.o p_29 (by decide) (by decide)))) (Eq.trans (AU.o p_44 (by decide) (by decide)) (Eq.trans (AU.o p_42 (by decide) (by decide)) (AU.o p_29 (by decide) (by decide))))
set_option maxHeartbeats 4000000 in
set_option maxRecDepth 100000 in
/-- the reference: get -/
theorem y_get_v7 (l : Launch) (D : va_G) (cI cS : ClassId) (τ : Nat → Option Nat) (ρ : Nat → Nat → Nat) (hW : WF τ ρ) (H : Heap) (hT : TH D cI cS τ ρ H) (a0 : Nat) (ha0 : τ a0 = some 12) : MI l D cI cS τ ρ yX12_get cX12_get 3 (some .int) 0 0 H [.ref a0, .int 0, .int 1] (fun (r : Int32) (u : Heap) => (H = u) ∧ (ai H (ρ a0 0) 1 = r)) (fun q => False) := by
  refine MI.of (by decide) (Nat.le_of_ble_eq_true rfl) ?_
  intro p e s m args below meth c E hml hr hlk hs ls hl
  have hx := E.1
  have hb := E.2.1
  have hown := E.2.2.1
  have hts := E.2.2.2.1
  have hS : SS (fun q => False) H H [] := SS.rf
  have hl : lv_has ls 3 [(0, .ref a0), (1, .int 0), (2, .int 1)] := hl
  refine lv_aload_n hx hb dX12_get_0 rfl (lv_at hl 0 rfl) ?_
  refine gf_X12_7 E hT hW ha0 dX12_get_1 (fun h_1 => ?_)
  refine lv_sipush (v := 288) hx hb dX12_get_4 (by decide) ?_
  refine lv_iload_n hx hb dX12_get_7 rfl (lv_at hl 1 rfl) ?_
  refine lv_imul hx hb dX12_get_8 ?_
  refine th_topi (y := 0) (by decide) ?_
  refine lv_iload_n hx hb dX12_get_9 rfl (lv_at hl 2 rfl) ?_
  refine lv_iadd hx hb dX12_get_10 ?_
  refine th_topi (y := 1) (by decide) ?_
  refine th_iald E hT h_1 (by decide) (vp_in_iff.mpr ⟨by decide, by decide⟩) dX12_get_11 ?_
  refine th_topi (y := ai H (ρ a0 0) 1) rfl ?_
  refine lv_topi (fun x_2 ex_2 => ?_)
  have c_x_2 := congrArg Int32.toInt ex_2.symm
  exact th_iret E hr hlk hs hT hS ⟨rfl, ex_2.symm⟩ dX12_get_12
set_option maxHeartbeats 4000000 in
set_option maxRecDepth 100000 in
/-- the reference: set -/
theorem y_set_v9 (l : Launch) (D : va_G) (cI cS : ClassId) (τ : Nat → Option Nat) (ρ : Nat → Nat → Nat) (hW : WF τ ρ) (H : Heap) (hT : TH D cI cS τ ρ H) (a0 : Nat) (x2 : Int32) (ha0 : τ a0 = some 12) : MV l D cI cS τ ρ yX12_set cX12_set 4 none 0 0 H [.ref a0, .int 0, .int 1, .int x2] (fun (u : Heap) => (AU 985 H u (ρ a0 0) 1 x2)) (fun q => q = ρ a0 0) := by
  refine MV.of (by decide) (Nat.le_of_ble_eq_true rfl) ?_
  intro p e s m args below meth c E hml hr hlk hs ls hl
  have hx := E.1
  have hb := E.2.1
  have hown := E.2.2.1
  have hts := E.2.2.2.1
  have hS : SS (fun q => q = ρ a0 0) H H [] := SS.rf
  have hl : lv_has ls 4 [(0, .ref a0), (1, .int 0), (2, .int 1), (3, .int x2)] := hl
  refine lv_aload_n hx hb dX12_set_0 rfl (lv_at hl 0 rfl) ?_
  refine gf_X12_7 E hT hW ha0 dX12_set_1 (fun h_1 => ?_)
  refine lv_sipush (v := 288) hx hb dX12_set_4 (by decide) ?_
  refine lv_iload_n hx hb dX12_set_7 rfl (lv_at hl 1 rfl) ?_
  refine lv_imul hx hb dX12_set_8 ?_
  refine th_topi (y := 0) (by decide) ?_
  refine lv_iload_n hx hb dX12_set_9 rfl (lv_at hl 2 rfl) ?_
  refine lv_iadd hx hb dX12_set_10 ?_
  refine th_topi (y := 1) (by decide) ?_
  refine lv_iload_n hx hb dX12_set_11 rfl (lv_at hl 3 rfl) ?_
  refine th_iast E hT hS h_1 rfl (by decide) (vp_in_iff.mpr ⟨by decide, by decide⟩) dX12_set_12 (fun H_2 locs_2 hT_2 hU_2 hS_2 => ?_)
  have hU_2 : AU 985 H H_2 (ρ a0 0) 1 x2 := hU_2
  exact th_vret E hr hlk hs hT_2 hS_2 hU_2 dX12_set_13
set_option maxHeartbeats 4000000 in
set_option maxRecDepth 100000 in
/-- the reference: set -/
theorem y_set_v10 (l : Launch) (D : va_G) (cI cS : ClassId) (τ : Nat → Option Nat) (ρ : Nat → Nat → Nat) (hW : WF τ ρ) (H : Heap) (hT : TH D cI cS τ ρ H) (a0 : Nat) (ha0 : τ a0 = some 12) : MV l D cI cS τ ρ yX12_set cX12_set 4 none 0 0 H [.ref a0, .int 0, .int 11, .int 0] (fun (u : Heap) => (AU 985 H u (ρ a0 0) 11 (0))) (fun q => q = ρ a0 0) := by
  refine MV.of (by decide) (Nat.le_of_ble_eq_true rfl) ?_
  intro p e s m args below meth c E hml hr hlk hs ls hl
  have hx := E.1
  have hb := E.2.1
  have hown := E.2.2.1
  have hts := E.2.2.2.1
  have hS : SS (fun q => q = ρ a0 0) H H [] := SS.rf
  have hl : lv_has ls 4 [(0, .ref a0), (1, .int 0), (2, .int 11), (3, .int 0)] := hl
  refine lv_aload_n hx hb dX12_set_0 rfl (lv_at hl 0 rfl) ?_
  refine gf_X12_7 E hT hW ha0 dX12_set_1 (fun h_1 => ?_)
  refine lv_sipush (v := 288) hx hb dX12_set_4 (by decide) ?_
  refine lv_iload_n hx hb dX12_set_7 rfl (lv_at hl 1 rfl) ?_
  refine lv_imul hx hb dX12_set_8 ?_
  refine th_topi (y := 0) (by decide) ?_
  refine lv_iload_n hx hb dX12_set_9 rfl (lv_at hl 2 rfl) ?_
  refine lv_iadd hx hb dX12_set_10 ?_
  refine th_topi (y := 11) (by decide) ?_
  refine lv_iload_n hx hb dX12_set_11 rfl (lv_at hl 3 rfl) ?_
  refine th_iast E hT hS h_1 rfl (by decide) (vp_in_iff.mpr ⟨by decide, by decide⟩) dX12_set_12 (fun H_2 locs_2 hT_2 hU_2 hS_2 => ?_)
  have hU_2 : AU 985 H H_2 (ρ a0 0) 11 (0) := hU_2
  exact th_vret E hr hlk hs hT_2 hS_2 hU_2 dX12_set_13
set_option maxHeartbeats 4000000 in
set_option maxRecDepth 100000 in
/-- the reference: get -/
theorem y_get_v8 (l : Launch) (D : va_G) (cI cS : ClassId) (τ : Nat → Option Nat) (ρ : Nat → Nat → Nat) (hW : WF τ ρ) (H : Heap) (hT : TH D cI cS τ ρ H) (a0 : Nat) (ha0 : τ a0 = some 12) : MI l D cI cS τ ρ yX12_get cX12_get 3 (some .int) 0 0 H [.ref a0, .int 0, .int 16] (fun (r : Int32) (u : Heap) => (H = u) ∧ (ai H (ρ a0 0) 16 = r)) (fun q => False) := by
  refine MI.of (by decide) (Nat.le_of_ble_eq_true rfl) ?_
  intro p e s m args below meth c E hml hr hlk hs ls hl
  have hx := E.1
  have hb := E.2.1
  have hown := E.2.2.1
  have hts := E.2.2.2.1
  have hS : SS (fun q => False) H H [] := SS.rf
  have hl : lv_has ls 3 [(0, .ref a0), (1, .int 0), (2, .int 16)] := hl
  refine lv_aload_n hx hb dX12_get_0 rfl (lv_at hl 0 rfl) ?_
  refine gf_X12_7 E hT hW ha0 dX12_get_1 (fun h_1 => ?_)
  refine lv_sipush (v := 288) hx hb dX12_get_4 (by decide) ?_
  refine lv_iload_n hx hb dX12_get_7 rfl (lv_at hl 1 rfl) ?_
  refine lv_imul hx hb dX12_get_8 ?_
  refine th_topi (y := 0) (by decide) ?_
  refine lv_iload_n hx hb dX12_get_9 rfl (lv_at hl 2 rfl) ?_
  refine lv_iadd hx hb dX12_get_10 ?_
  refine th_topi (y := 16) (by decide) ?_
  refine th_iald E hT h_1 (by decide) (vp_in_iff.mpr ⟨by decide, by decide⟩) dX12_get_11 ?_
  refine th_topi (y := ai H (ρ a0 0) 16) rfl ?_
  refine lv_topi (fun x_2 ex_2 => ?_)
  have c_x_2 := congrArg Int32.toInt ex_2.symm
  exact th_iret E hr hlk hs hT hS ⟨rfl, ex_2.symm⟩ dX12_get_12
set_option maxHeartbeats 4000000 in
set_option maxRecDepth 100000 in
/-- the reference: get -/
theorem y_get_v9 (l : Launch) (D : va_G) (cI cS : ClassId) (τ : Nat → Option Nat) (ρ : Nat → Nat → Nat) (hW : WF τ ρ) (H : Heap) (hT : TH D cI cS τ ρ H) (a0 : Nat) (ha0 : τ a0 = some 12) : MI l D cI cS τ ρ yX12_get cX12_get 3 (some .int) 0 0 H [.ref a0, .int 0, .int 18] (fun (r : Int32) (u : Heap) => (H = u) ∧ (ai H (ρ a0 0) 18 = r)) (fun q => False) := by
  refine MI.of (by decide) (Nat.le_of_ble_eq_true rfl) ?_
  intro p e s m args below meth c E hml hr hlk hs ls hl
  have hx := E.1
  have hb := E.2.1
  have hown := E.2.2.1
  have hts := E.2.2.2.1
  have hS : SS (fun q => False) H H [] := SS.rf
  have hl : lv_has ls 3 [(0, .ref a0), (1, .int 0), (2, .int 18)] := hl
  refine lv_aload_n hx hb dX12_get_0 rfl (lv_at hl 0 rfl) ?_
  refine gf_X12_7 E hT hW ha0 dX12_get_1 (fun h_1 => ?_)
  refine lv_sipush (v := 288) hx hb dX12_get_4 (by decide) ?_
  refine lv_iload_n hx hb dX12_get_7 rfl (lv_at hl 1 rfl) ?_
  refine lv_imul hx hb dX12_get_8 ?_
  refine th_topi (y := 0) (by decide) ?_
  refine lv_iload_n hx hb dX12_get_9 rfl (lv_at hl 2 rfl) ?_
  refine lv_iadd hx hb dX12_get_10 ?_
  refine th_topi (y := 18) (by decide) ?_
  refine th_iald E hT h_1 (by decide) (vp_in_iff.mpr ⟨by decide, by decide⟩) dX12_get_11 ?_
  refine th_topi (y := ai H (ρ a0 0) 18) rfl ?_
  refine lv_topi (fun x_2 ex_2 => ?_)
  have c_x_2 := congrArg Int32.toInt ex_2.symm
  exact th_iret E hr hlk hs hT hS ⟨rfl, ex_2.symm⟩ dX12_get_12
set_option maxHeartbeats 4000000 in
set_option maxRecDepth 100000 in
/-- the reference: set -/
theorem y_set_v11 (l : Launch) (D : va_G) (cI cS : ClassId) (τ : Nat → Option Nat) (ρ : Nat → Nat → Nat) (hW : WF τ ρ) (H : Heap) (hT : TH D cI cS τ ρ H) (a0 : Nat) (ha0 : τ a0 = some 12) : MV l D cI cS τ ρ yX12_set cX12_set 4 none 0 0 H [.ref a0, .int 0, .int 16, .int (-4)] (fun (u : Heap) => (AU 985 H u (ρ a0 0) 16 ((-4)))) (fun q => q = ρ a0 0) := by
  refine MV.of (by decide) (Nat.le_of_ble_eq_true rfl) ?_
  intro p e s m args below meth c E hml hr hlk hs ls hl
  have hx := E.1
  have hb := E.2.1
  have hown := E.2.2.1
  have hts := E.2.2.2.1
  have hS : SS (fun q => q = ρ a0 0) H H [] := SS.rf
  have hl : lv_has ls 4 [(0, .ref a0), (1, .int 0), (2, .int 16), (3, .int (-4))] := hl
  refine lv_aload_n hx hb dX12_set_0 rfl (lv_at hl 0 rfl) ?_
  refine gf_X12_7 E hT hW ha0 dX12_set_1 (fun h_1 => ?_)
  refine lv_sipush (v := 288) hx hb dX12_set_4 (by decide) ?_
  refine lv_iload_n hx hb dX12_set_7 rfl (lv_at hl 1 rfl) ?_
  refine lv_imul hx hb dX12_set_8 ?_
  refine th_topi (y := 0) (by decide) ?_
  refine lv_iload_n hx hb dX12_set_9 rfl (lv_at hl 2 rfl) ?_
  refine lv_iadd hx hb dX12_set_10 ?_
  refine th_topi (y := 16) (by decide) ?_
  refine lv_iload_n hx hb dX12_set_11 rfl (lv_at hl 3 rfl) ?_
  refine th_iast E hT hS h_1 rfl (by decide) (vp_in_iff.mpr ⟨by decide, by decide⟩) dX12_set_12 (fun H_2 locs_2 hT_2 hU_2 hS_2 => ?_)
  have hU_2 : AU 985 H H_2 (ρ a0 0) 16 ((-4)) := hU_2
  exact th_vret E hr hlk hs hT_2 hS_2 hU_2 dX12_set_13
set_option maxHeartbeats 4000000 in
set_option maxRecDepth 100000 in
/-- the reference: get -/
theorem y_get_v10 (l : Launch) (D : va_G) (cI cS : ClassId) (τ : Nat → Option Nat) (ρ : Nat → Nat → Nat) (hW : WF τ ρ) (H : Heap) (hT : TH D cI cS τ ρ H) (a0 : Nat) (ha0 : τ a0 = some 12) : MI l D cI cS τ ρ yX12_get cX12_get 3 (some .int) 0 0 H [.ref a0, .int 0, .int 19] (fun (r : Int32) (u : Heap) => (H = u) ∧ (ai H (ρ a0 0) 19 = r)) (fun q => False) := by
  refine MI.of (by decide) (Nat.le_of_ble_eq_true rfl) ?_
  intro p e s m args below meth c E hml hr hlk hs ls hl
  have hx := E.1
  have hb := E.2.1
  have hown := E.2.2.1
  have hts := E.2.2.2.1
  have hS : SS (fun q => False) H H [] := SS.rf
  have hl : lv_has ls 3 [(0, .ref a0), (1, .int 0), (2, .int 19)] := hl
  refine lv_aload_n hx hb dX12_get_0 rfl (lv_at hl 0 rfl) ?_
  refine gf_X12_7 E hT hW ha0 dX12_get_1 (fun h_1 => ?_)
  refine lv_sipush (v := 288) hx hb dX12_get_4 (by decide) ?_
  refine lv_iload_n hx hb dX12_get_7 rfl (lv_at hl 1 rfl) ?_
  refine lv_imul hx hb dX12_get_8 ?_
  refine th_topi (y := 0) (by decide) ?_
  refine lv_iload_n hx hb dX12_get_9 rfl (lv_at hl 2 rfl) ?_
  refine lv_iadd hx hb dX12_get_10 ?_
  refine th_topi (y := 19) (by decide) ?_
  refine th_iald E hT h_1 (by decide) (vp_in_iff.mpr ⟨by decide, by decide⟩) dX12_get_11 ?_
  refine th_topi (y := ai H (ρ a0 0) 19) rfl ?_
  refine lv_topi (fun x_2 ex_2 => ?_)
  have c_x_2 := congrArg Int32.toInt ex_2.symm
  exact th_iret E hr hlk hs hT hS ⟨rfl, ex_2.symm⟩ dX12_get_12
set_option maxHeartbeats 4000000 in
set_option maxRecDepth 100000 in
/-- the reference: get -/
theorem y_get_v11 (l : Launch) (D : va_G) (cI cS : ClassId) (τ : Nat → Option Nat) (ρ : Nat → Nat → Nat) (hW : WF τ ρ) (H : Heap) (hT : TH D cI cS τ ρ H) (a0 : Nat) (ha0 : τ a0 = some 12) : MI l D cI cS τ ρ yX12_get cX12_get 3 (some .int) 0 0 H [.ref a0, .int 0, .int 9] (fun (r : Int32) (u : Heap) => (H = u) ∧ (ai H (ρ a0 0) 9 = r)) (fun q => False) := by
  refine MI.of (by decide) (Nat.le_of_ble_eq_true rfl) ?_
  intro p e s m args below meth c E hml hr hlk hs ls hl
  have hx := E.1
  have hb := E.2.1
  have hown := E.2.2.1
  have hts := E.2.2.2.1
  have hS : SS (fun q => False) H H [] := SS.rf
  have hl : lv_has ls 3 [(0, .ref a0), (1, .int 0), (2, .int 9)] := hl
  refine lv_aload_n hx hb dX12_get_0 rfl (lv_at hl 0 rfl) ?_
  refine gf_X12_7 E hT hW ha0 dX12_get_1 (fun h_1 => ?_)
  refine lv_sipush (v := 288) hx hb dX12_get_4 (by decide) ?_
  refine lv_iload_n hx hb dX12_get_7 rfl (lv_at hl 1 rfl) ?_
  refine lv_imul hx hb dX12_get_8 ?_
  refine th_topi (y := 0) (by decide) ?_
  refine lv_iload_n hx hb dX12_get_9 rfl (lv_at hl 2 rfl) ?_
  refine lv_iadd hx hb dX12_get_10 ?_
  refine th_topi (y := 9) (by decide) ?_
  refine th_iald E hT h_1 (by decide) (vp_in_iff.mpr ⟨by decide, by decide⟩) dX12_get_11 ?_
  refine th_topi (y := ai H (ρ a0 0) 9) rfl ?_
  refine lv_topi (fun x_2 ex_2 => ?_)
  have c_x_2 := congrArg Int32.toInt ex_2.symm
  exact th_iret E hr hlk hs hT hS ⟨rfl, ex_2.symm⟩ dX12_get_12
set_option maxHeartbeats 4000000 in
set_option maxRecDepth 100000 in
/-- the reference: set -/
theorem y_set_v12 (l : Launch) (D : va_G) (cI cS : ClassId) (τ : Nat → Option Nat) (ρ : Nat → Nat → Nat) (hW : WF τ ρ) (H : Heap) (hT : TH D cI cS τ ρ H) (a0 : Nat) (x2 : Int32) (ha0 : τ a0 = some 12) : MV l D cI cS τ ρ yX12_set cX12_set 4 none 0 0 H [.ref a0, .int 0, .int 9, .int x2] (fun (u : Heap) => (AU 985 H u (ρ a0 0) 9 x2)) (fun q => q = ρ a0 0) := by
  refine MV.of (by decide) (Nat.le_of_ble_eq_true rfl) ?_
  intro p e s m args below meth c E hml hr hlk hs ls hl
  have hx := E.1
  have hb := E.2.1
  have hown := E.2.2.1
  have hts := E.2.2.2.1
  have hS : SS (fun q => q = ρ a0 0) H H [] := SS.rf
  have hl : lv_has ls 4 [(0, .ref a0), (1, .int 0), (2, .int 9), (3, .int x2)] := hl
  refine lv_aload_n hx hb dX12_set_0 rfl (lv_at hl 0 rfl) ?_
  refine gf_X12_7 E hT hW ha0 dX12_set_1 (fun h_1 => ?_)
  refine lv_sipush (v := 288) hx hb dX12_set_4 (by decide) ?_
  refine lv_iload_n hx hb dX12_set_7 rfl (lv_at hl 1 rfl) ?_
  refine lv_imul hx hb dX12_set_8 ?_
  refine th_topi (y := 0) (by decide) ?_
  refine lv_iload_n hx hb dX12_set_9 rfl (lv_at hl 2 rfl) ?_
  refine lv_iadd hx hb dX12_set_10 ?_
  refine th_topi (y := 9) (by decide) ?_
  refine lv_iload_n hx hb dX12_set_11 rfl (lv_at hl 3 rfl) ?_
  refine th_iast E hT hS h_1 rfl (by decide) (vp_in_iff.mpr ⟨by decide, by decide⟩) dX12_set_12 (fun H_2 locs_2 hT_2 hU_2 hS_2 => ?_)
  have hU_2 : AU 985 H H_2 (ρ a0 0) 9 x2 := hU_2
  exact th_vret E hr hlk hs hT_2 hS_2 hU_2 dX12_set_13
set_option maxHeartbeats 4000000 in
set_option maxRecDepth 100000 in
/-- the reference: get -/
theorem y_get_v12 (l : Launch) (D : va_G) (cI cS : ClassId) (τ : Nat → Option Nat) (ρ : Nat → Nat → Nat) (hW : WF τ ρ) (H : Heap) (hT : TH D cI cS τ ρ H) (a0 : Nat) (ha0 : τ a0 = some 12) : MI l D cI cS τ ρ yX12_get cX12_get 3 (some .int) 0 0 H [.ref a0, .int 0, .int 10] (fun (r : Int32) (u : Heap) => (H = u) ∧ (ai H (ρ a0 0) 10 = r)) (fun q => False) := by
  refine MI.of (by decide) (Nat.le_of_ble_eq_true rfl) ?_
  intro p e s m args below meth c E hml hr hlk hs ls hl
  have hx := E.1
  have hb := E.2.1
  have hown := E.2.2.1
  have hts := E.2.2.2.1
  have hS : SS (fun q => False) H H [] := SS.rf
  have hl : lv_has ls 3 [(0, .ref a0), (1, .int 0), (2, .int 10)] := hl
  refine lv_aload_n hx hb dX12_get_0 rfl (lv_at hl 0 rfl) ?_
  refine gf_X12_7 E hT hW ha0 dX12_get_1 (fun h_1 => ?_)
  refine lv_sipush (v := 288) hx hb dX12_get_4 (by decide) ?_
  refine lv_iload_n hx hb dX12_get_7 rfl (lv_at hl 1 rfl) ?_
  refine lv_imul hx hb dX12_get_8 ?_
  refine th_topi (y := 0) (by decide) ?_
  refine lv_iload_n hx hb dX12_get_9 rfl (lv_at hl 2 rfl) ?_
  refine lv_iadd hx hb dX12_get_10 ?_
  refine th_topi (y := 10) (by decide) ?_
  refine th_iald E hT h_1 (by decide) (vp_in_iff.mpr ⟨by decide, by decide⟩) dX12_get_11 ?_
  refine th_topi (y := ai H (ρ a0 0) 10) rfl ?_
  refine lv_topi (fun x_2 ex_2 => ?_)
  have c_x_2 := congrArg Int32.toInt ex_2.symm
  exact th_iret E hr hlk hs hT hS ⟨rfl, ex_2.symm⟩ dX12_get_12
set_option maxHeartbeats 4000000 in
set_option maxRecDepth 100000 in
/-- the reference: set -/
theorem y_set_v13 (l : Launch) (D : va_G) (cI cS : ClassId) (τ : Nat → Option Nat) (ρ : Nat → Nat → Nat) (hW : WF τ ρ) (H : Heap) (hT : TH D cI cS τ ρ H) (a0 : Nat) (x2 : Int32) (ha0 : τ a0 = some 12) : MV l D cI cS τ ρ yX12_set cX12_set 4 none 0 0 H [.ref a0, .int 0, .int 10, .int x2] (fun (u : Heap) => (AU 985 H u (ρ a0 0) 10 x2)) (fun q => q = ρ a0 0) := by
  refine MV.of (by decide) (Nat.le_of_ble_eq_true rfl) ?_
  intro p e s m args below meth c E hml hr hlk hs ls hl
  have hx := E.1
  have hb := E.2.1
  have hown := E.2.2.1
  have hts := E.2.2.2.1
  have hS : SS (fun q => q = ρ a0 0) H H [] := SS.rf
  have hl : lv_has ls 4 [(0, .ref a0), (1, .int 0), (2, .int 10), (3, .int x2)] := hl
  refine lv_aload_n hx hb dX12_set_0 rfl (lv_at hl 0 rfl) ?_
  refine gf_X12_7 E hT hW ha0 dX12_set_1 (fun h_1 => ?_)
  refine lv_sipush (v := 288) hx hb dX12_set_4 (by decide) ?_
  refine lv_iload_n hx hb dX12_set_7 rfl (lv_at hl 1 rfl) ?_
  refine lv_imul hx hb dX12_set_8 ?_
  refine th_topi (y := 0) (by decide) ?_
  refine lv_iload_n hx hb dX12_set_9 rfl (lv_at hl 2 rfl) ?_
  refine lv_iadd hx hb dX12_set_10 ?_
  refine th_topi (y := 10) (by decide) ?_
  refine lv_iload_n hx hb dX12_set_11 rfl (lv_at hl 3 rfl) ?_
  refine th_iast E hT hS h_1 rfl (by decide) (vp_in_iff.mpr ⟨by decide, by decide⟩) dX12_set_12 (fun H_2 locs_2 hT_2 hU_2 hS_2 => ?_)
  have hU_2 : AU 985 H H_2 (ρ a0 0) 10 x2 := hU_2
  exact th_vret E hr hlk hs hT_2 hS_2 hU_2 dX12_set_13
set_option maxHeartbeats 4000000 in
set_option maxRecDepth 100000 in
/-- the reference: set -/
theorem y_set_v14 (l : Launch) (D : va_G) (cI cS : ClassId) (τ : Nat → Option Nat) (ρ : Nat → Nat → Nat) (hW : WF τ ρ) (H : Heap) (hT : TH D cI cS τ ρ H) (a0 : Nat) (x2 : Int32) (ha0 : τ a0 = some 12) : MV l D cI cS τ ρ yX12_set cX12_set 4 none 0 0 H [.ref a0, .int 0, .int 8, .int x2] (fun (u : Heap) => (AU 985 H u (ρ a0 0) 8 x2)) (fun q => q = ρ a0 0) := by
  refine MV.of (by decide) (Nat.le_of_ble_eq_true rfl) ?_
  intro p e s m args below meth c E hml hr hlk hs ls hl
  have hx := E.1
  have hb := E.2.1
  have hown := E.2.2.1
  have hts := E.2.2.2.1
  have hS : SS (fun q => q = ρ a0 0) H H [] := SS.rf
  have hl : lv_has ls 4 [(0, .ref a0), (1, .int 0), (2, .int 8), (3, .int x2)] := hl
  refine lv_aload_n hx hb dX12_set_0 rfl (lv_at hl 0 rfl) ?_
  refine gf_X12_7 E hT hW ha0 dX12_set_1 (fun h_1 => ?_)
  refine lv_sipush (v := 288) hx hb dX12_set_4 (by decide) ?_
  refine lv_iload_n hx hb dX12_set_7 rfl (lv_at hl 1 rfl) ?_
  refine lv_imul hx hb dX12_set_8 ?_
  refine th_topi (y := 0) (by decide) ?_
  refine lv_iload_n hx hb dX12_set_9 rfl (lv_at hl 2 rfl) ?_
  refine lv_iadd hx hb dX12_set_10 ?_
  refine th_topi (y := 8) (by decide) ?_
  refine lv_iload_n hx hb dX12_set_11 rfl (lv_at hl 3 rfl) ?_
  refine th_iast E hT hS h_1 rfl (by decide) (vp_in_iff.mpr ⟨by decide, by decide⟩) dX12_set_12 (fun H_2 locs_2 hT_2 hU_2 hS_2 => ?_)
  have hU_2 : AU 985 H H_2 (ρ a0 0) 8 x2 := hU_2
  exact th_vret E hr hlk hs hT_2 hS_2 hU_2 dX12_set_13
set_option maxHeartbeats 4000000 in
set_option maxRecDepth 100000 in
/-- the reference: get -/
theorem y_get_v13 (l : Launch) (D : va_G) (cI cS : ClassId) (τ : Nat → Option Nat) (ρ : Nat → Nat → Nat) (hW : WF τ ρ) (H : Heap) (hT : TH D cI cS τ ρ H) (a0 : Nat) (ha0 : τ a0 = some 12) : MI l D cI cS τ ρ yX12_get cX12_get 3 (some .int) 0 0 H [.ref a0, .int 0, .int 24] (fun (r : Int32) (u : Heap) => (H = u) ∧ (ai H (ρ a0 0) 24 = r)) (fun q => False) := by
  refine MI.of (by decide) (Nat.le_of_ble_eq_true rfl) ?_
  intro p e s m args below meth c E hml hr hlk hs ls hl
  have hx := E.1
  have hb := E.2.1
  have hown := E.2.2.1
  have hts := E.2.2.2.1
  have hS : SS (fun q => False) H H [] := SS.rf
  have hl : lv_has ls 3 [(0, .ref a0), (1, .int 0), (2, .int 24)] := hl
  refine lv_aload_n hx hb dX12_get_0 rfl (lv_at hl 0 rfl) ?_
  refine gf_X12_7 E hT hW ha0 dX12_get_1 (fun h_1 => ?_)
  refine lv_sipush (v := 288) hx hb dX12_get_4 (by decide) ?_
  refine lv_iload_n hx hb dX12_get_7 rfl (lv_at hl 1 rfl) ?_
  refine lv_imul hx hb dX12_get_8 ?_
  refine th_topi (y := 0) (by decide) ?_
  refine lv_iload_n hx hb dX12_get_9 rfl (lv_at hl 2 rfl) ?_
  refine lv_iadd hx hb dX12_get_10 ?_
  refine th_topi (y := 24) (by decide) ?_
  refine th_iald E hT h_1 (by decide) (vp_in_iff.mpr ⟨by decide, by decide⟩) dX12_get_11 ?_
  refine th_topi (y := ai H (ρ a0 0) 24) rfl ?_
  refine lv_topi (fun x_2 ex_2 => ?_)
  have c_x_2 := congrArg Int32.toInt ex_2.symm
  exact th_iret E hr hlk hs hT hS ⟨rfl, ex_2.symm⟩ dX12_get_12
set_option maxHeartbeats 4000000 in
set_option maxRecDepth 100000 in
/-- the reference: set -/
theorem y_set_v15 (l : Launch) (D : va_G) (cI cS : ClassId) (τ : Nat → Option Nat) (ρ : Nat → Nat → Nat) (hW : WF τ ρ) (H : Heap) (hT : TH D cI cS τ ρ H) (a0 : Nat) (x2 : Int32) (ha0 : τ a0 = some 12) : MV l D cI cS τ ρ yX12_set cX12_set 4 none 0 0 H [.ref a0, .int 0, .int 25, .int x2] (fun (u : Heap) => (AU 985 H u (ρ a0 0) 25 x2)) (fun q => q = ρ a0 0) := by
  refine MV.of (by decide) (Nat.le_of_ble_eq_true rfl) ?_
  intro p e s m args below meth c E hml hr hlk hs ls hl
  have hx := E.1
  have hb := E.2.1
  have hown := E.2.2.1
  have hts := E.2.2.2.1
  have hS : SS (fun q => q = ρ a0 0) H H [] := SS.rf
  have hl : lv_has ls 4 [(0, .ref a0), (1, .int 0), (2, .int 25), (3, .int x2)] := hl
  refine lv_aload_n hx hb dX12_set_0 rfl (lv_at hl 0 rfl) ?_
  refine gf_X12_7 E hT hW ha0 dX12_set_1 (fun h_1 => ?_)
  refine lv_sipush (v := 288) hx hb dX12_set_4 (by decide) ?_
  refine lv_iload_n hx hb dX12_set_7 rfl (lv_at hl 1 rfl) ?_
  refine lv_imul hx hb dX12_set_8 ?_
  refine th_topi (y := 0) (by decide) ?_
  refine lv_iload_n hx hb dX12_set_9 rfl (lv_at hl 2 rfl) ?_
  refine lv_iadd hx hb dX12_set_10 ?_
  refine th_topi (y := 25) (by decide) ?_
  refine lv_iload_n hx hb dX12_set_11 rfl (lv_at hl 3 rfl) ?_
  refine th_iast E hT hS h_1 rfl (by decide) (vp_in_iff.mpr ⟨by decide, by decide⟩) dX12_set_12 (fun H_2 locs_2 hT_2 hU_2 hS_2 => ?_)
  have hU_2 : AU 985 H H_2 (ρ a0 0) 25 x2 := hU_2
  exact th_vret E hr hlk hs hT_2 hS_2 hU_2 dX12_set_13
set_option maxHeartbeats 4000000 in
set_option maxRecDepth 100000 in
/-- the reference: get -/
theorem y_get_v14 (l : Launch) (D : va_G) (cI cS : ClassId) (τ : Nat → Option Nat) (ρ : Nat → Nat → Nat) (hW : WF τ ρ) (H : Heap) (hT : TH D cI cS τ ρ H) (a0 : Nat) (x1 : Int32) (ha0 : τ a0 = some 12) (hp0 : 0 ≤ x1.toInt ∧ x1.toInt < 288) : MI l D cI cS τ ρ yX12_get cX12_get 3 (some .int) 0 0 H [.ref a0, .int 0, .int x1] (fun (r : Int32) (u : Heap) => (H = u) ∧ (ai H (ρ a0 0) (0 + x1.toInt).toNat = r)) (fun q => False) := by
  refine MI.of (by decide) (Nat.le_of_ble_eq_true rfl) ?_
  intro p e s m args below meth c E hml hr hlk hs ls hl
  have hx := E.1
  have hb := E.2.1
  have hown := E.2.2.1
  have hts := E.2.2.2.1
  have hS : SS (fun q => False) H H [] := SS.rf
  have hl : lv_has ls 3 [(0, .ref a0), (1, .int 0), (2, .int x1)] := hl
  refine lv_aload_n hx hb dX12_get_0 rfl (lv_at hl 0 rfl) ?_
  refine gf_X12_7 E hT hW ha0 dX12_get_1 (fun h_1 => ?_)
  refine lv_sipush (v := 288) hx hb dX12_get_4 (by decide) ?_
  refine lv_iload_n hx hb dX12_get_7 rfl (lv_at hl 1 rfl) ?_
  refine lv_imul hx hb dX12_get_8 ?_
  refine th_topi (y := 0) (by decide) ?_
  refine lv_iload_n hx hb dX12_get_9 rfl (lv_at hl 2 rfl) ?_
  refine lv_iadd hx hb dX12_get_10 ?_
  refine lv_topi (fun x_2 ex_2 => ?_)
  have q_2 : x_2.toInt = 0 + x1.toInt := i_pl (by decide) rfl ex_2 (by omega) (by omega)
  refine th_iald E hT h_1 (by decide) (vp_in_iff.mpr ⟨by omega, by omega⟩) dX12_get_11 ?_
  refine th_topi (y := ai H (ρ a0 0) x_2.toInt.toNat) rfl ?_
  refine lv_topi (fun x_3 ex_3 => ?_)
  exact th_iret E hr hlk hs hT hS ⟨rfl, (by rw [ex_3, q_2])⟩ dX12_get_12
set_option maxHeartbeats 4000000 in
set_option maxRecDepth 100000 in
/-- the reference: set -/
theorem y_set_v16 (l : Launch) (D : va_G) (cI cS : ClassId) (τ : Nat → Option Nat) (ρ : Nat → Nat → Nat) (hW : WF τ ρ) (H : Heap) (hT : TH D cI cS τ ρ H) (a0 : Nat) (x1 : Int32) (x2 : Int32) (ha0 : τ a0 = some 12) (hp0 : 0 ≤ x1.toInt ∧ x1.toInt < 288) : MV l D cI cS τ ρ yX12_set cX12_set 4 none 0 0 H [.ref a0, .int 0, .int x1, .int x2] (fun (u : Heap) => (AU 985 H u (ρ a0 0) (0 + x1.toInt).toNat x2)) (fun q => q = ρ a0 0) := by
  refine MV.of (by decide) (Nat.le_of_ble_eq_true rfl) ?_
  intro p e s m args below meth c E hml hr hlk hs ls hl
  have hx := E.1
  have hb := E.2.1
  have hown := E.2.2.1
  have hts := E.2.2.2.1
  have hS : SS (fun q => q = ρ a0 0) H H [] := SS.rf
  have hl : lv_has ls 4 [(0, .ref a0), (1, .int 0), (2, .int x1), (3, .int x2)] := hl
  refine lv_aload_n hx hb dX12_set_0 rfl (lv_at hl 0 rfl) ?_
  refine gf_X12_7 E hT hW ha0 dX12_set_1 (fun h_1 => ?_)
  refine lv_sipush (v := 288) hx hb dX12_set_4 (by decide) ?_
  refine lv_iload_n hx hb dX12_set_7 rfl (lv_at hl 1 rfl) ?_
  refine lv_imul hx hb dX12_set_8 ?_
  refine th_topi (y := 0) (by decide) ?_
  refine lv_iload_n hx hb dX12_set_9 rfl (lv_at hl 2 rfl) ?_
  refine lv_iadd hx hb dX12_set_10 ?_
  refine lv_topi (fun x_2 ex_2 => ?_)
  have q_2 : x_2.toInt = 0 + x1.toInt := i_pl (by decide) rfl ex_2 (by omega) (by omega)
  refine lv_iload_n hx hb dX12_set_11 rfl (lv_at hl 3 rfl) ?_
  refine th_iast E hT hS h_1 rfl (by decide) (vp_in_iff.mpr ⟨by omega, by omega⟩) dX12_set_12 (fun H_3 locs_3 hT_3 hU_3 hS_3 => ?_)
  have hU_3 : AU 985 H H_3 (ρ a0 0) x_2.toInt.toNat x2 := hU_3
  exact th_vret E hr hlk hs hT_3 hS_3 (by have h := hU_3; rw [q_2] at h; exact h) dX12_set_13
set_option maxHeartbeats 4000000 in
set_option maxRecDepth 100000 in
/-- the reference: set -/
theorem y_set_v17 (l : Launch) (D : va_G) (cI cS : ClassId) (τ : Nat → Option Nat) (ρ : Nat → Nat → Nat) (hW : WF τ ρ) (H : Heap) (hT : TH D cI cS τ ρ H) (a0 : Nat) (x2 : Int32) (ha0 : τ a0 = some 12) : MV l D cI cS τ ρ yX12_set cX12_set 4 none 0 0 H [.ref a0, .int 0, .int 20, .int x2] (fun (u : Heap) => (AU 985 H u (ρ a0 0) 20 x2)) (fun q => q = ρ a0 0) := by
  refine MV.of (by decide) (Nat.le_of_ble_eq_true rfl) ?_
  intro p e s m args below meth c E hml hr hlk hs ls hl
  have hx := E.1
  have hb := E.2.1
  have hown := E.2.2.1
  have hts := E.2.2.2.1
  have hS : SS (fun q => q = ρ a0 0) H H [] := SS.rf
  have hl : lv_has ls 4 [(0, .ref a0), (1, .int 0), (2, .int 20), (3, .int x2)] := hl
  refine lv_aload_n hx hb dX12_set_0 rfl (lv_at hl 0 rfl) ?_
  refine gf_X12_7 E hT hW ha0 dX12_set_1 (fun h_1 => ?_)
  refine lv_sipush (v := 288) hx hb dX12_set_4 (by decide) ?_
  refine lv_iload_n hx hb dX12_set_7 rfl (lv_at hl 1 rfl) ?_
  refine lv_imul hx hb dX12_set_8 ?_
  refine th_topi (y := 0) (by decide) ?_
  refine lv_iload_n hx hb dX12_set_9 rfl (lv_at hl 2 rfl) ?_
  refine lv_iadd hx hb dX12_set_10 ?_
  refine th_topi (y := 20) (by decide) ?_
  refine lv_iload_n hx hb dX12_set_11 rfl (lv_at hl 3 rfl) ?_
  refine th_iast E hT hS h_1 rfl (by decide) (vp_in_iff.mpr ⟨by decide, by decide⟩) dX12_set_12 (fun H_2 locs_2 hT_2 hU_2 hS_2 => ?_)
  have hU_2 : AU 985 H H_2 (ρ a0 0) 20 x2 := hU_2
  exact th_vret E hr hlk hs hT_2 hS_2 hU_2 dX12_set_13
set_option maxHeartbeats 4000000 in
set_option maxRecDepth 100000 in
/-- the reference: set -/
theorem y_set_v18 (l : Launch) (D : va_G) (cI cS : ClassId) (τ : Nat → Option Nat) (ρ : Nat → Nat → Nat) (hW : WF τ ρ) (H : Heap) (hT : TH D cI cS τ ρ H) (a0 : Nat) (x2 : Int32) (ha0 : τ a0 = some 12) : MV l D cI cS τ ρ yX12_set cX12_set 4 none 0 0 H [.ref a0, .int 0, .int 19, .int x2] (fun (u : Heap) => (AU 985 H u (ρ a0 0) 19 x2)) (fun q => q = ρ a0 0) := by
  refine MV.of (by decide) (Nat.le_of_ble_eq_true rfl) ?_
  intro p e s m args below meth c E hml hr hlk hs ls hl
  have hx := E.1
  have hb := E.2.1
  have hown := E.2.2.1
  have hts := E.2.2.2.1
  have hS : SS (fun q => q = ρ a0 0) H H [] := SS.rf
  have hl : lv_has ls 4 [(0, .ref a0), (1, .int 0), (2, .int 19), (3, .int x2)] := hl
  refine lv_aload_n hx hb dX12_set_0 rfl (lv_at hl 0 rfl) ?_
  refine gf_X12_7 E hT hW ha0 dX12_set_1 (fun h_1 => ?_)
  refine lv_sipush (v := 288) hx hb dX12_set_4 (by decide) ?_
  refine lv_iload_n hx hb dX12_set_7 rfl (lv_at hl 1 rfl) ?_
  refine lv_imul hx hb dX12_set_8 ?_
  refine th_topi (y := 0) (by decide) ?_
  refine lv_iload_n hx hb dX12_set_9 rfl (lv_at hl 2 rfl) ?_
  refine lv_iadd hx hb dX12_set_10 ?_
  refine th_topi (y := 19) (by decide) ?_
  refine lv_iload_n hx hb dX12_set_11 rfl (lv_at hl 3 rfl) ?_
  refine th_iast E hT hS h_1 rfl (by decide) (vp_in_iff.mpr ⟨by decide, by decide⟩) dX12_set_12 (fun H_2 locs_2 hT_2 hU_2 hS_2 => ?_)
  have hU_2 : AU 985 H H_2 (ρ a0 0) 19 x2 := hU_2
  exact th_vret E hr hlk hs hT_2 hS_2 hU_2 dX12_set_13
set_option maxHeartbeats 4000000 in
set_option maxRecDepth 100000 in
/-- the reference: rounds -/
theorem y_rounds_v2 (l : Launch) (D : va_G) (cI cS : ClassId) (τ : Nat → Option Nat) (ρ : Nat → Nat → Nat) (hW : WF τ ρ) (H : Heap) (hT : TH D cI cS τ ρ H) (a0 : Nat) (ha0 : τ a0 = some 12) (N : Int) (hN0 : 0 ≤ N) (hN1 : N ≤ 600) (hI : IM D ρ N H a0) : MV l D cI cS τ ρ yX12_rounds cX12_rounds 4 none 1 23 H [.ref a0, .int 0] (fun (u : Heap) => (IM D ρ N u a0) ∧ ((ai H (ρ a0 0) 976).toInt ≤ (ai u (ρ a0 0) 976).toInt) ∧ (ai u (ρ a0 0) 0 = ai H (ρ a0 0) 0) ∧ (ai u (ρ a0 0) 2 = ai H (ρ a0 0) 2)) (fun q => q = ρ a0 0) := by
  refine MV.of (by decide) (Nat.le_of_ble_eq_true rfl) ?_
  intro p e s m args below meth c E hml hr hlk hs ls hl
  have hx := E.1
  have hb := E.2.1
  have hown := E.2.2.1
  have hts := E.2.2.2.1
  have hS : SS (fun q => q = ρ a0 0) H H [] := SS.rf
  have hl : lv_has ls 4 [(0, .ref a0), (1, .int 0)] := hl
  have n01 := hI.2.2.2.2.2.1
  have n23 := hI.2.2.2.2.2.2.1
  have L_164 : ∀ (n : Nat) (H_c164 : Heap) (lc_c164 : List Loc) (ls : Array Slot) (y164_2 : Int32) (y164_3 : Int32), TH D cI cS τ ρ H_c164 → SS (fun q => q = ρ a0 0) H H_c164 lc_c164 → lv_has ls 4 [(0, .ref a0), (1, .int 0), (2, .int y164_2), (3, .int y164_3)] → 1 ≤ y164_2.toInt → 0 ≤ y164_3.toInt → y164_3.toInt ≤ 5 → IM D ρ N H_c164 a0 → (ai H (ρ a0 0) 976).toInt ≤ (ai H_c164 (ρ a0 0) 976).toInt → ai H_c164 (ρ a0 0) 0 = ai H (ρ a0 0) 0 → ai H_c164 (ρ a0 0) 2 = ai H (ρ a0 0) 2 → (y164_3.toInt).toNat < n → W p l e (rmO 1 23) s m args below meth c H_c164 lc_c164 0 0 (MQ below (va_Qv (fun (u : Heap) => (IM D ρ N u a0) ∧ ((ai H (ρ a0 0) 976).toInt ≤ (ai u (ρ a0 0) 976).toInt) ∧ (ai u (ρ a0 0) 0 = ai H (ρ a0 0) 0) ∧ (ai u (ρ a0 0) 2 = ai H (ρ a0 0) 2)) (Bt D cI cS τ ρ H) (fun q => q = ρ a0 0)) args s 0 0 (fun q => q = ρ a0 0)) (F0 m 164 ls []) := by
    intro n
    induction n with
    | zero => intro H_c164 lc_c164 ls y164_2 y164_3 hT_c164 hS_c164 hl ly164_2 ly164_3 uy164_3 hI_c164 hmn_c164 hk164_0 hk164_2 hm; exact absurd hm (Nat.not_lt_zero _)
    | succ n ih_164 =>
      intro H_c164 lc_c164 ls y164_2 y164_3 hT_c164 hS_c164 hl ly164_2 ly164_3 uy164_3 hI_c164 hmn_c164 hk164_0 hk164_2 hm_164
      refine lv_iload_n hx hb dX12_rounds_164 rfl (lv_at hl 3 rfl) ?_
      refine lv_if_le (tgt := 194) hx hb dX12_rounds_165 (by decide) (fun c_1 => ?_) (fun c_1 => ?_)
      · have f_1 : y164_3.toInt ≤ 0 := r_le rfl (by decide) c_1
        refine lv_aload_n hx hb dX12_rounds_194 rfl (lv_at hl 0 rfl) ?_
        refine lv_iload_n hx hb dX12_rounds_195 rfl (lv_at hl 1 rfl) ?_
        refine lv_bipush (v := 20) hx hb dX12_rounds_196 (by decide) ?_
        refine lv_iload_n hx hb dX12_rounds_198 rfl (lv_at hl 2 rfl) ?_
        refine th_Vv (As := [.int 0, .int 20, .int y164_2]) (rest := []) E hml hl.1 (y_set_v17 l D cI cS τ ρ hW H_c164 hT_c164 a0 y164_2 ha0) lk_X12_95 yd_X12_set hT_c164 ha0 rfl (by decide) hS_c164 (fun q h => h) ⟨by decide, by decide⟩ (Nat.le_of_ble_eq_true rfl) ⟨by decide, by decide⟩ rfl dX12_rounds_199 (fun H_2 locs_2 p_2 hT_2 hk_2 hS_2 => ?_)
        have p_2 : (AU 985 H_c164 H_2 (ρ a0 0) 20 y164_2) := p_2
        have hW_2 : PW N H_2 (ρ a0 0) := PW.put hI_c164.1 p_2 (by show (-2147483648 : Int) ≤ _; exact i_min _) (by show _ ≤ (2147483647 : Int); exact i_max _)
        refine lv_aload_n hx hb dX12_rounds_202 rfl (lv_at hl 0 rfl) ?_
        refine lv_iload_n hx hb dX12_rounds_203 rfl (lv_at hl 1 rfl) ?_
        refine lv_bipush (v := 19) hx hb dX12_rounds_204 (by decide) ?_
        refine lv_aload_n hx hb dX12_rounds_206 rfl (lv_at hl 0 rfl) ?_
        refine lv_iload_n hx hb dX12_rounds_207 rfl (lv_at hl 1 rfl) ?_
        refine lv_bipush (v := 19) hx hb dX12_rounds_208 (by decide) ?_
        refine th_Vi (As := [.int 0, .int 19]) (rest := [.int 19, .int 0, .ref a0]) E hml hl.1 (y_get_v10 l D cI cS τ ρ hW H_2 hT_2 a0 ha0) lk_X12_99 yd_X12_get hT_2 ha0 rfl (by decide) hS_2 (fun _ h => h.elim) ⟨by decide, by decide⟩ (Nat.le_of_ble_eq_true rfl) ⟨by decide, by decide⟩ rfl dX12_rounds_210 (fun r_3 H_3 locs_3 p_3 hT_3 hk_3 hS_3 => ?_)
        have p_3 : H_2 = H_3 ∧ (ai H_2 (ρ a0 0) 19 = r_3) := p_3
        obtain ⟨rfl, p_3_0⟩ := p_3
        have t_3 : ai H_c164 (ρ a0 0) 19 = r_3 := (AU.o p_2 (by decide) (by decide)).symm.trans p_3_0
        have c_r_3 := congrArg Int32.toInt t_3
        refine lv_iconst (v := 1) hx hb dX12_rounds_213 (by decide) ?_
        refine lv_iadd hx hb dX12_rounds_214 ?_
        refine lv_topi (fun x_4 ex_4 => ?_)
        refine th_Vv (As := [.int 0, .int 19, .int x_4]) (rest := []) E hml hl.1 (y_set_v18 l D cI cS τ ρ hW H_2 hT_3 a0 x_4 ha0) lk_X12_95 yd_X12_set hT_3 ha0 rfl (by decide) hS_3 (fun q h => h) ⟨by decide, by decide⟩ (Nat.le_of_ble_eq_true rfl) ⟨by decide, by decide⟩ rfl dX12_rounds_215 (fun H_5 locs_5 p_5 hT_5 hk_5 hS_5 => ?_)
        have p_5 : (AU 985 H_2 H_5 (ρ a0 0) 19 x_4) := p_5
        have hW_5 : PW N H_5 (ρ a0 0) := PW.put hW_2 p_5 (by show (-2147483648 : Int) ≤ _; exact i_min _) (by show _ ≤ (2147483647 : Int); exact i_max _)
        exact th_vret E hr hlk hs hT_5 hS_5 ⟨⟨hW_5, (QS.same ((Eq.trans (AU.o p_5 (by decide) (by decide)) (Eq.trans (AU.o p_2 (by decide) (by decide)) hk164_0)).trans hk164_0.symm) ((Eq.trans (AU.o p_5 (by decide) (by decide)) (Eq.trans (AU.o p_2 (by decide) (by decide)) hk164_2)).trans hk164_2.symm) hI_c164.2.1), (QS.same (Eq.trans (AU.o p_5 (by decide) (by decide)) (AU.o p_2 (by decide) (by decide))) (Eq.trans (AU.o p_5 (by decide) (by decide)) (AU.o p_2 (by decide) (by decide))) hI_c164.2.2.1), (PL.q (p_5.2 _ (th_ne (hW _ 12 2 ha0 (by decide) (by decide) (by decide)) (hW _ 12 0 ha0 (by decide) (by decide) (by decide)) (by decide))) (PL.q (p_2.2 _ (th_ne (hW _ 12 2 ha0 (by decide) (by decide) (by decide)) (hW _ 12 0 ha0 (by decide) (by decide) (by decide)) (by decide))) hI_c164.2.2.2.1)), (PL.q (p_5.2 _ (th_ne (hW _ 12 3 ha0 (by decide) (by decide) (by decide)) (hW _ 12 0 ha0 (by decide) (by decide) (by decide)) (by decide))) (PL.q (p_2.2 _ (th_ne (hW _ 12 3 ha0 (by decide) (by decide) (by decide)) (hW _ 12 0 ha0 (by decide) (by decide) (by decide)) (by decide))) hI_c164.2.2.2.2.1)), (IF.q (p_5.2 _ (th_ne ha0 (hW _ 12 0 ha0 (by decide) (by decide) (by decide)) (by decide))) (IF.q (p_2.2 _ (th_ne ha0 (hW _ 12 0 ha0 (by decide) (by decide) (by decide)) (by decide))) hI_c164.2.2.2.2.2))⟩, (by rw [(Eq.trans (AU.o p_5 (by decide) (by decide)) (AU.o p_2 (by decide) (by decide)))]; omega), (Eq.trans (AU.o p_5 (by decide) (by decide)) (Eq.trans (AU.o p_2 (by decide) (by decide)) hk164_0)), (Eq.trans (AU.o p_5 (by decide) (by decide)) (Eq.trans (AU.o p_2 (by decide) (by decide)) hk164_2))⟩ dX12_rounds_218
      · have f_1 : 0 < y164_3.toInt := r_nle rfl (by decide) c_1
        refine lv_aload_n hx hb dX12_rounds_168 rfl (lv_at hl 0 rfl) ?_
        refine lv_iload_n hx hb dX12_rounds_169 rfl (lv_at hl 1 rfl) ?_
        refine lv_bipush (v := 20) hx hb dX12_rounds_170 (by decide) ?_
        refine lv_iload_n hx hb dX12_rounds_172 rfl (lv_at hl 3 rfl) ?_
        refine lv_iadd hx hb dX12_rounds_173 ?_
        refine lv_topi (fun x_6 ex_6 => ?_)
        have q_6 : x_6.toInt = 20 + y164_3.toInt := i_pl (by decide) rfl ex_6 (by omega) (by omega)
        refine lv_aload_n hx hb dX12_rounds_174 rfl (lv_at hl 0 rfl) ?_
        refine lv_iload_n hx hb dX12_rounds_175 rfl (lv_at hl 1 rfl) ?_
        refine lv_bipush (v := 20) hx hb dX12_rounds_176 (by decide) ?_
        refine lv_iload_n hx hb dX12_rounds_178 rfl (lv_at hl 3 rfl) ?_
        refine lv_iadd hx hb dX12_rounds_179 ?_
        refine lv_topi (fun x_7 ex_7 => ?_)
        have q_7 : x_7.toInt = 20 + y164_3.toInt := i_pl (by decide) rfl ex_7 (by omega) (by omega)
        refine lv_iconst (v := 1) hx hb dX12_rounds_180 (by decide) ?_
        refine lv_isub hx hb dX12_rounds_181 ?_
        refine lv_topi (fun x_8 ex_8 => ?_)
        have q_8 : x_8.toInt = x_7.toInt - 1 := i_mi rfl (by decide) ex_8 (by omega) (by omega)
        refine th_Vi (As := [.int 0, .int x_8]) (rest := [.int x_6, .int 0, .ref a0]) E hml hl.1 (y_get_v14 l D cI cS τ ρ hW H_c164 hT_c164 a0 x_8 ha0 (by omega)) lk_X12_99 yd_X12_get hT_c164 ha0 rfl (by decide) hS_c164 (fun _ h => h.elim) ⟨by decide, by decide⟩ (Nat.le_of_ble_eq_true rfl) ⟨by decide, by decide⟩ rfl dX12_rounds_182 (fun r_9 H_9 locs_9 p_9 hT_9 hk_9 hS_9 => ?_)
        have p_9 : H_c164 = H_9 ∧ (ai H_c164 (ρ a0 0) (0 + x_8.toInt).toNat = r_9) := p_9
        obtain ⟨rfl, p_9_0⟩ := p_9
        refine th_Vv (As := [.int 0, .int x_6, .int r_9]) (rest := []) E hml hl.1 (y_set_v16 l D cI cS τ ρ hW H_c164 hT_9 a0 x_6 r_9 ha0 (by omega)) lk_X12_95 yd_X12_set hT_9 ha0 rfl (by decide) hS_9 (fun q h => h) ⟨by decide, by decide⟩ (Nat.le_of_ble_eq_true rfl) ⟨by decide, by decide⟩ rfl dX12_rounds_185 (fun H_10 locs_10 p_10 hT_10 hk_10 hS_10 => ?_)
        have p_10 : (AU 985 H_c164 H_10 (ρ a0 0) (0 + x_6.toInt).toNat r_9) := p_10
        have hW_10 : PW N H_10 (ρ a0 0) := PW.free hI_c164.1 p_10 (by omega)
        obtain ⟨x_11, ex_11⟩ : ∃ y : Int32, y164_3 + (-1) = y := ⟨_, rfl⟩
        have q_x_11 : x_11.toInt = y164_3.toInt + -1 := i_add (k := -1) (by decide) ex_11 (by have := i_min y164_3; omega) (by have := i_max y164_3; omega)
        refine lv_iinc (v := x_11) (lv' := [(3, .int x_11), (0, .ref a0), (1, .int 0), (2, .int y164_2)]) hx hb dX12_rounds_188 hl (k := 3) rfl (by rw [← ex_11]; rfl) (by decide) rfl (fun ls hl => ?_)
        refine lv_goto (tgt := 164) hx hb dX12_rounds_191 (by decide) ?_
        exact ih_164 H_10 locs_10 _ y164_2 x_11 hT_10 hS_10 (lv_sub hl [1, 2, 3, 0] rfl) (by omega) (by omega) (by omega) ⟨hW_10, (QS.same ((Eq.trans (AU.o p_10 (by decide) (by omega)) hk164_0).trans hk164_0.symm) ((Eq.trans (AU.o p_10 (by decide) (by omega)) hk164_2).trans hk164_2.symm) hI_c164.2.1), (QS.same (AU.o p_10 (by decide) (by omega)) (AU.o p_10 (by decide) (by omega)) hI_c164.2.2.1), (PL.q (p_10.2 _ (th_ne (hW _ 12 2 ha0 (by decide) (by decide) (by decide)) (hW _ 12 0 ha0 (by decide) (by decide) (by decide)) (by decide))) hI_c164.2.2.2.1), (PL.q (p_10.2 _ (th_ne (hW _ 12 3 ha0 (by decide) (by decide) (by decide)) (hW _ 12 0 ha0 (by decide) (by decide) (by decide)) (by decide))) hI_c164.2.2.2.2.1), (IF.q (p_10.2 _ (th_ne ha0 (hW _ 12 0 ha0 (by decide) (by decide) (by decide)) (by decide))) hI_c164.2.2.2.2.2)⟩ (by rw [(AU.o p_10 (by decide) (by omega))]; omega) (Eq.trans (AU.o p_10 (by decide) (by omega)) hk164_0) (Eq.trans (AU.o p_10 (by decide) (by omega)) hk164_2) (by omega)
  have J_128 : ∀ (H_c128 : Heap) (lc_c128 : List Loc) (ls : Array Slot) (y128_2 : Int32), TH D cI cS τ ρ H_c128 → SS (fun q => q = ρ a0 0) H H_c128 lc_c128 → lv_has ls 4 [(0, .ref a0), (1, .int 0), (2, .int y128_2)] → 1 ≤ y128_2.toInt → IM D ρ N H_c128 a0 → (ai H (ρ a0 0) 976).toInt ≤ (ai H_c128 (ρ a0 0) 976).toInt → ai H_c128 (ρ a0 0) 0 = ai H (ρ a0 0) 0 → ai H_c128 (ρ a0 0) 2 = ai H (ρ a0 0) 2 → W p l e (rmO 1 23) s m args below meth c H_c128 lc_c128 0 0 (MQ below (va_Qv (fun (u : Heap) => (IM D ρ N u a0) ∧ ((ai H (ρ a0 0) 976).toInt ≤ (ai u (ρ a0 0) 976).toInt) ∧ (ai u (ρ a0 0) 0 = ai H (ρ a0 0) 0) ∧ (ai u (ρ a0 0) 2 = ai H (ρ a0 0) 2)) (Bt D cI cS τ ρ H) (fun q => q = ρ a0 0)) args s 0 0 (fun q => q = ρ a0 0)) (F0 m 128 ls []) := by
    intro H_c128 lc_c128 ls y128_2 hT_c128 hS_c128 hl ly128_2 hI_c128 hmn_c128 hk128_0 hk128_2
    refine lv_aload_n hx hb dX12_rounds_128 rfl (lv_at hl 0 rfl) ?_
    refine lv_iload_n hx hb dX12_rounds_129 rfl (lv_at hl 1 rfl) ?_
    refine lv_bipush (v := 8) hx hb dX12_rounds_130 (by decide) ?_
    refine lv_bipush (v := 64) hx hb dX12_rounds_132 (by decide) ?_
    refine lv_iconst (v := 2) hx hb dX12_rounds_134 (by decide) ?_
    refine lv_aload_n hx hb dX12_rounds_135 rfl (lv_at hl 0 rfl) ?_
    refine lv_iload_n hx hb dX12_rounds_136 rfl (lv_at hl 1 rfl) ?_
    refine lv_bipush (v := 9) hx hb dX12_rounds_137 (by decide) ?_
    refine th_Vi (As := [.int 0, .int 9]) (rest := [.int 2, .int 64, .int 8, .int 0, .ref a0]) E hml hl.1 (y_get_v11 l D cI cS τ ρ hW H_c128 hT_c128 a0 ha0) lk_X12_99 yd_X12_get hT_c128 ha0 rfl (by decide) hS_c128 (fun _ h => h.elim) ⟨by decide, by decide⟩ (Nat.le_of_ble_eq_true rfl) ⟨by decide, by decide⟩ rfl dX12_rounds_139 (fun r_12 H_12 locs_12 p_12 hT_12 hk_12 hS_12 => ?_)
    have p_12 : H_c128 = H_12 ∧ (ai H_c128 (ρ a0 0) 9 = r_12) := p_12
    obtain ⟨rfl, p_12_0⟩ := p_12
    have c_r_12 := congrArg Int32.toInt p_12_0
    refine lv_bipush (v := 8) hx hb dX12_rounds_142 (by decide) ?_
    refine lv_idiv hx hb dX12_rounds_144 (by decide) ?_
    refine lv_topi (fun x_13 ex_13 => ?_)
    refine lv_aload_n hx hb dX12_rounds_145 rfl (lv_at hl 0 rfl) ?_
    refine lv_iload_n hx hb dX12_rounds_146 rfl (lv_at hl 1 rfl) ?_
    refine lv_bipush (v := 10) hx hb dX12_rounds_147 (by decide) ?_
    refine th_Vi (As := [.int 0, .int 10]) (rest := [.int x_13, .int 2, .int 64, .int 8, .int 0, .ref a0]) E hml hl.1 (y_get_v12 l D cI cS τ ρ hW H_c128 hT_12 a0 ha0) lk_X12_99 yd_X12_get hT_12 ha0 rfl (by decide) hS_12 (fun _ h => h.elim) ⟨by decide, by decide⟩ (Nat.le_of_ble_eq_true rfl) ⟨by decide, by decide⟩ rfl dX12_rounds_149 (fun r_14 H_14 locs_14 p_14 hT_14 hk_14 hS_14 => ?_)
    have p_14 : H_c128 = H_14 ∧ (ai H_c128 (ρ a0 0) 10 = r_14) := p_14
    obtain ⟨rfl, p_14_0⟩ := p_14
    have c_r_14 := congrArg Int32.toInt p_14_0
    refine lv_iadd hx hb dX12_rounds_152 ?_
    refine lv_topi (fun x_15 ex_15 => ?_)
    refine th_Si (As := [.int 2, .int x_15]) (rest := [.int 64, .int 8, .int 0, .ref a0]) E hml hl.1 (y_greater_v2 l D cI cS τ ρ hW H_c128 hT_14 x_15) lk_X12_103 yd_X12_greater hS_14 (fun _ h => h.elim) ⟨by decide, by decide⟩ (Nat.le_of_ble_eq_true rfl) ⟨by decide, by decide⟩ rfl dX12_rounds_153 (fun r_16 H_16 locs_16 p_16 hT_16 hk_16 hS_16 => ?_)
    have p_16 : H_c128 = H_16 ∧ (2 ≤ r_16.toInt ∧ x_15.toInt ≤ r_16.toInt ∧ (r_16.toInt = 2 ∨ r_16.toInt = x_15.toInt)) := p_16
    obtain ⟨rfl, p_16_0⟩ := p_16
    refine th_Si (As := [.int 64, .int r_16]) (rest := [.int 8, .int 0, .ref a0]) E hml hl.1 (y_lesser l D cI cS τ ρ hW H_c128 hT_16 r_16) lk_X12_146 yd_X12_lesser hS_16 (fun _ h => h.elim) ⟨by decide, by decide⟩ (Nat.le_of_ble_eq_true rfl) ⟨by decide, by decide⟩ rfl dX12_rounds_156 (fun r_17 H_17 locs_17 p_17 hT_17 hk_17 hS_17 => ?_)
    have p_17 : H_c128 = H_17 ∧ (r_17.toInt ≤ 64 ∧ r_17.toInt ≤ r_16.toInt ∧ (r_17.toInt = 64 ∨ r_17.toInt = r_16.toInt)) := p_17
    obtain ⟨rfl, p_17_0⟩ := p_17
    refine th_Vv (As := [.int 0, .int 8, .int r_17]) (rest := []) E hml hl.1 (y_set_v14 l D cI cS τ ρ hW H_c128 hT_17 a0 r_17 ha0) lk_X12_95 yd_X12_set hT_17 ha0 rfl (by decide) hS_17 (fun q h => h) ⟨by decide, by decide⟩ (Nat.le_of_ble_eq_true rfl) ⟨by decide, by decide⟩ rfl dX12_rounds_159 (fun H_18 locs_18 p_18 hT_18 hk_18 hS_18 => ?_)
    have p_18 : (AU 985 H_c128 H_18 (ρ a0 0) 8 r_17) := p_18
    have hW_18 : PW N H_18 (ρ a0 0) := PW.put hI_c128.1 p_18 (by show (-2147483648 : Int) ≤ _; exact i_min _) (by show _ ≤ (2147483647 : Int); exact i_max _)
    refine lv_iconst (v := 5) hx hb dX12_rounds_162 (by decide) ?_
    refine lv_istore_n (lv' := [(3, .int 5), (0, .ref a0), (1, .int 0), (2, .int y128_2)]) hx hb dX12_rounds_163 rfl hl (by decide) rfl (fun ls hl => ?_)
    exact L_164 _ H_18 locs_18 _ y128_2 5 hT_18 hS_18 (lv_sub hl [1, 2, 3, 0] rfl) (by omega) (by decide) (by decide) ⟨hW_18, (QS.same ((Eq.trans (AU.o p_18 (by decide) (by decide)) hk128_0).trans hk128_0.symm) ((Eq.trans (AU.o p_18 (by decide) (by decide)) hk128_2).trans hk128_2.symm) hI_c128.2.1), (QS.same (AU.o p_18 (by decide) (by decide)) (AU.o p_18 (by decide) (by decide)) hI_c128.2.2.1), (PL.q (p_18.2 _ (th_ne (hW _ 12 2 ha0 (by decide) (by decide) (by decide)) (hW _ 12 0 ha0 (by decide) (by decide) (by decide)) (by decide))) hI_c128.2.2.2.1), (PL.q (p_18.2 _ (th_ne (hW _ 12 3 ha0 (by decide) (by decide) (by decide)) (hW _ 12 0 ha0 (by decide) (by decide) (by decide)) (by decide))) hI_c128.2.2.2.2.1), (IF.q (p_18.2 _ (th_ne ha0 (hW _ 12 0 ha0 (by decide) (by decide) (by decide)) (by decide))) hI_c128.2.2.2.2.2)⟩ (by rw [(AU.o p_18 (by decide) (by decide))]; omega) (Eq.trans (AU.o p_18 (by decide) (by decide)) hk128_0) (Eq.trans (AU.o p_18 (by decide) (by decide)) hk128_2) (Nat.lt_succ_self _)
  have J_114 : ∀ (H_c114 : Heap) (lc_c114 : List Loc) (ls : Array Slot) (y114_2 : Int32) (y114_3 : Int32) (z114_3 : Int32) (z114_4 : Int32), TH D cI cS τ ρ H_c114 → SS (fun q => q = ρ a0 0) H H_c114 lc_c114 → lv_has ls 4 [(0, .ref a0), (1, .int 0), (2, .int y114_2), (3, .int y114_3)] → 1 ≤ y114_2.toInt → IM D ρ N H_c114 a0 → (ai H (ρ a0 0) 976).toInt ≤ (ai H_c114 (ρ a0 0) 976).toInt → ai H_c114 (ρ a0 0) 0 = ai H (ρ a0 0) 0 → ai H_c114 (ρ a0 0) 2 = ai H (ρ a0 0) 2 → W p l e (rmO 1 23) s m args below meth c H_c114 lc_c114 0 0 (MQ below (va_Qv (fun (u : Heap) => (IM D ρ N u a0) ∧ ((ai H (ρ a0 0) 976).toInt ≤ (ai u (ρ a0 0) 976).toInt) ∧ (ai u (ρ a0 0) 0 = ai H (ρ a0 0) 0) ∧ (ai u (ρ a0 0) 2 = ai H (ρ a0 0) 2)) (Bt D cI cS τ ρ H) (fun q => q = ρ a0 0)) args s 0 0 (fun q => q = ρ a0 0)) (F0 m 114 ls [.int z114_4, .int z114_3, .int 10, .int 0, .ref a0]) := by
    intro H_c114 lc_c114 ls y114_2 y114_3 z114_3 z114_4 hT_c114 hS_c114 hl ly114_2 hI_c114 hmn_c114 hk114_0 hk114_2
    refine lv_iadd hx hb dX12_rounds_114 ?_
    refine lv_topi (fun x_19 ex_19 => ?_)
    refine lv_aload_n hx hb dX12_rounds_115 rfl (lv_at hl 0 rfl) ?_
    refine lv_iload_n hx hb dX12_rounds_116 rfl (lv_at hl 1 rfl) ?_
    refine lv_bipush (v := 10) hx hb dX12_rounds_117 (by decide) ?_
    refine th_Vi (As := [.int 0, .int 10]) (rest := [.int x_19, .int 10, .int 0, .ref a0]) E hml hl.1 (y_get_v12 l D cI cS τ ρ hW H_c114 hT_c114 a0 ha0) lk_X12_99 yd_X12_get hT_c114 ha0 rfl (by decide) hS_c114 (fun _ h => h.elim) ⟨by decide, by decide⟩ (Nat.le_of_ble_eq_true rfl) ⟨by decide, by decide⟩ rfl dX12_rounds_119 (fun r_20 H_20 locs_20 p_20 hT_20 hk_20 hS_20 => ?_)
    have p_20 : H_c114 = H_20 ∧ (ai H_c114 (ρ a0 0) 10 = r_20) := p_20
    obtain ⟨rfl, p_20_0⟩ := p_20
    have c_r_20 := congrArg Int32.toInt p_20_0
    refine lv_iconst (v := 4) hx hb dX12_rounds_122 (by decide) ?_
    refine lv_idiv hx hb dX12_rounds_123 (by decide) ?_
    refine lv_topi (fun x_21 ex_21 => ?_)
    refine lv_isub hx hb dX12_rounds_124 ?_
    refine lv_topi (fun x_22 ex_22 => ?_)
    refine th_Vv (As := [.int 0, .int 10, .int x_22]) (rest := []) E hml hl.1 (y_set_v13 l D cI cS τ ρ hW H_c114 hT_20 a0 x_22 ha0) lk_X12_95 yd_X12_set hT_20 ha0 rfl (by decide) hS_20 (fun q h => h) ⟨by decide, by decide⟩ (Nat.le_of_ble_eq_true rfl) ⟨by decide, by decide⟩ rfl dX12_rounds_125 (fun H_23 locs_23 p_23 hT_23 hk_23 hS_23 => ?_)
    have p_23 : (AU 985 H_c114 H_23 (ρ a0 0) 10 x_22) := p_23
    have hW_23 : PW N H_23 (ρ a0 0) := PW.put hI_c114.1 p_23 (by show (-2147483648 : Int) ≤ _; exact i_min _) (by show _ ≤ (2147483647 : Int); exact i_max _)
    exact J_128 H_23 locs_23 _ y114_2 hT_23 hS_23 (lv_sub hl [0, 1, 2] rfl) (by omega) ⟨hW_23, (QS.same ((Eq.trans (AU.o p_23 (by decide) (by decide)) hk114_0).trans hk114_0.symm) ((Eq.trans (AU.o p_23 (by decide) (by decide)) hk114_2).trans hk114_2.symm) hI_c114.2.1), (QS.same (AU.o p_23 (by decide) (by decide)) (AU.o p_23 (by decide) (by decide)) hI_c114.2.2.1), (PL.q (p_23.2 _ (th_ne (hW _ 12 2 ha0 (by decide) (by decide) (by decide)) (hW _ 12 0 ha0 (by decide) (by decide) (by decide)) (by decide))) hI_c114.2.2.2.1), (PL.q (p_23.2 _ (th_ne (hW _ 12 3 ha0 (by decide) (by decide) (by decide)) (hW _ 12 0 ha0 (by decide) (by decide) (by decide)) (by decide))) hI_c114.2.2.2.2.1), (IF.q (p_23.2 _ (th_ne ha0 (hW _ 12 0 ha0 (by decide) (by decide) (by decide)) (by decide))) hI_c114.2.2.2.2.2)⟩ (by rw [(AU.o p_23 (by decide) (by decide))]; omega) (Eq.trans (AU.o p_23 (by decide) (by decide)) hk114_0) (Eq.trans (AU.o p_23 (by decide) (by decide)) hk114_2)
  refine lv_iconst (v := 1) hx hb dX12_rounds_0 (by decide) ?_
  refine lv_aload_n hx hb dX12_rounds_1 rfl (lv_at hl 0 rfl) ?_
  refine gf_X12_7 E hT hW ha0 dX12_rounds_2 (fun h_24 => ?_)
  refine lv_sipush (v := 977) hx hb dX12_rounds_5 (by decide) ?_
  refine th_iald E hT h_24 (by decide) (vp_in_iff.mpr ⟨by decide, by decide⟩) dX12_rounds_8 ?_
  refine th_topi (y := ai H (ρ a0 0) 977) rfl ?_
  refine lv_topi (fun x_25 ex_25 => ?_)
  have c_x_25 := congrArg Int32.toInt ex_25.symm
  refine lv_aload_n hx hb dX12_rounds_9 rfl (lv_at hl 0 rfl) ?_
  refine lv_iload_n hx hb dX12_rounds_10 rfl (lv_at hl 1 rfl) ?_
  refine lv_bipush (v := 18) hx hb dX12_rounds_11 (by decide) ?_
  refine th_Vi (As := [.int 0, .int 18]) (rest := [.int x_25, .int 1]) E hml hl.1 (y_get_v9 l D cI cS τ ρ hW H hT a0 ha0) lk_X12_99 yd_X12_get hT ha0 rfl (by decide) hS (fun _ h => h.elim) ⟨by decide, by decide⟩ (Nat.le_of_ble_eq_true rfl) ⟨by decide, by decide⟩ rfl dX12_rounds_13 (fun r_26 H_26 locs_26 p_26 hT_26 hk_26 hS_26 => ?_)
  have p_26 : H = H_26 ∧ (ai H (ρ a0 0) 18 = r_26) := p_26
  obtain ⟨rfl, p_26_0⟩ := p_26
  have c_r_26 := congrArg Int32.toInt p_26_0
  refine lv_isub hx hb dX12_rounds_16 ?_
  refine lv_topi (fun x_27 ex_27 => ?_)
  refine th_Si (As := [.int 1, .int x_27]) (rest := []) E hml hl.1 (y_greater l D cI cS τ ρ hW H hT_26 x_27) lk_X12_103 yd_X12_greater hS_26 (fun _ h => h.elim) ⟨by decide, by decide⟩ (Nat.le_of_ble_eq_true rfl) ⟨by decide, by decide⟩ rfl dX12_rounds_17 (fun r_28 H_28 locs_28 p_28 hT_28 hk_28 hS_28 => ?_)
  have p_28 : H = H_28 ∧ (1 ≤ r_28.toInt ∧ x_27.toInt ≤ r_28.toInt ∧ (r_28.toInt = 1 ∨ r_28.toInt = x_27.toInt)) := p_28
  obtain ⟨rfl, p_28_0⟩ := p_28
  refine lv_istore_n (lv' := [(2, .int r_28), (0, .ref a0), (1, .int 0)]) hx hb dX12_rounds_20 rfl hl (by decide) rfl (fun ls hl => ?_)
  refine lv_aload_n hx hb dX12_rounds_21 rfl (lv_at hl 1 rfl) ?_
  refine lv_iload_n hx hb dX12_rounds_22 rfl (lv_at hl 2 rfl) ?_
  refine lv_bipush (v := 16) hx hb dX12_rounds_23 (by decide) ?_
  refine lv_bipush (v := (-4)) hx hb dX12_rounds_25 (by decide) ?_
  refine th_Vv (As := [.int 0, .int 16, .int (-4)]) (rest := []) E hml hl.1 (y_set_v11 l D cI cS τ ρ hW H hT_28 a0 ha0) lk_X12_95 yd_X12_set hT_28 ha0 rfl (by decide) hS_28 (fun q h => h) ⟨by decide, by decide⟩ (Nat.le_of_ble_eq_true rfl) ⟨by decide, by decide⟩ rfl dX12_rounds_27 (fun H_29 locs_29 p_29 hT_29 hk_29 hS_29 => ?_)
  have p_29 : (AU 985 H H_29 (ρ a0 0) 16 ((-4))) := p_29
  have hW_29 : PW N H_29 (ρ a0 0) := PW.put hI.1 p_29 (by show (-2147483648 : Int) ≤ _; exact i_min _) (by show _ ≤ (2147483647 : Int); exact i_max _)
  refine lv_aload_n hx hb dX12_rounds_30 rfl (lv_at hl 1 rfl) ?_
  refine lv_iload_n hx hb dX12_rounds_31 rfl (lv_at hl 2 rfl) ?_
  refine lv_bipush (v := 19) hx hb dX12_rounds_32 (by decide) ?_
  refine th_Vi (As := [.int 0, .int 19]) (rest := []) E hml hl.1 (y_get_v10 l D cI cS τ ρ hW H_29 hT_29 a0 ha0) lk_X12_99 yd_X12_get hT_29 ha0 rfl (by decide) hS_29 (fun _ h => h.elim) ⟨by decide, by decide⟩ (Nat.le_of_ble_eq_true rfl) ⟨by decide, by decide⟩ rfl dX12_rounds_34 (fun r_30 H_30 locs_30 p_30 hT_30 hk_30 hS_30 => ?_)
  have p_30 : H_29 = H_30 ∧ (ai H_29 (ρ a0 0) 19 = r_30) := p_30
  obtain ⟨rfl, p_30_0⟩ := p_30
  have t_30 : ai H (ρ a0 0) 19 = r_30 := (AU.o p_29 (by decide) (by decide)).symm.trans p_30_0
  have c_r_30 := congrArg Int32.toInt t_30
  refine lv_if_ne (tgt := 64) hx hb dX12_rounds_37 (by decide) (fun c_31 => ?_) (fun c_31 => ?_)
  · have f_31 : ¬ r_30.toInt = 0 := r_ne rfl (by decide) c_31
    have nz_r_30 : ¬ r_30 = 0 := c_31
    refine lv_iload_n hx hb dX12_rounds_64 rfl (lv_at hl 0 rfl) ?_
    refine lv_aload_n hx hb dX12_rounds_65 rfl (lv_at hl 1 rfl) ?_
    refine lv_iload_n hx hb dX12_rounds_66 rfl (lv_at hl 2 rfl) ?_
    refine lv_bipush (v := 9) hx hb dX12_rounds_67 (by decide) ?_
    refine th_Vi (As := [.int 0, .int 9]) (rest := [.int r_28]) E hml hl.1 (y_get_v11 l D cI cS τ ρ hW H_29 hT_30 a0 ha0) lk_X12_99 yd_X12_get hT_30 ha0 rfl (by decide) hS_30 (fun _ h => h.elim) ⟨by decide, by decide⟩ (Nat.le_of_ble_eq_true rfl) ⟨by decide, by decide⟩ rfl dX12_rounds_69 (fun r_32 H_32 locs_32 p_32 hT_32 hk_32 hS_32 => ?_)
    have p_32 : H_29 = H_32 ∧ (ai H_29 (ρ a0 0) 9 = r_32) := p_32
    obtain ⟨rfl, p_32_0⟩ := p_32
    have t_32 : ai H (ρ a0 0) 9 = r_32 := (AU.o p_29 (by decide) (by decide)).symm.trans p_32_0
    have c_r_32 := congrArg Int32.toInt t_32
    refine lv_bipush (v := 8) hx hb dX12_rounds_72 (by decide) ?_
    refine lv_idiv hx hb dX12_rounds_74 (by decide) ?_
    refine lv_topi (fun x_33 ex_33 => ?_)
    refine lv_isub hx hb dX12_rounds_75 ?_
    refine lv_topi (fun x_34 ex_34 => ?_)
    refine lv_istore_n (lv' := [(3, .int x_34), (2, .int r_28), (0, .ref a0), (1, .int 0)]) hx hb dX12_rounds_76 rfl hl (by decide) rfl (fun ls hl => ?_)
    refine lv_aload_n hx hb dX12_rounds_77 rfl (lv_at hl 2 rfl) ?_
    refine lv_iload_n hx hb dX12_rounds_78 rfl (lv_at hl 3 rfl) ?_
    refine lv_bipush (v := 9) hx hb dX12_rounds_79 (by decide) ?_
    refine lv_aload_n hx hb dX12_rounds_81 rfl (lv_at hl 2 rfl) ?_
    refine lv_iload_n hx hb dX12_rounds_82 rfl (lv_at hl 3 rfl) ?_
    refine lv_bipush (v := 9) hx hb dX12_rounds_83 (by decide) ?_
    refine th_Vi (As := [.int 0, .int 9]) (rest := [.int 9, .int 0, .ref a0]) E hml hl.1 (y_get_v11 l D cI cS τ ρ hW H_29 hT_32 a0 ha0) lk_X12_99 yd_X12_get hT_32 ha0 rfl (by decide) hS_32 (fun _ h => h.elim) ⟨by decide, by decide⟩ (Nat.le_of_ble_eq_true rfl) ⟨by decide, by decide⟩ rfl dX12_rounds_85 (fun r_35 H_35 locs_35 p_35 hT_35 hk_35 hS_35 => ?_)
    have p_35 : H_29 = H_35 ∧ (ai H_29 (ρ a0 0) 9 = r_35) := p_35
    obtain ⟨rfl, p_35_0⟩ := p_35
    have s_35 : r_35 = r_32 := p_35_0.symm.trans ((AU.o p_29 (by decide) (by decide)).trans t_32)
    refine th_topi s_35 ?_
    refine lv_iload_n hx hb dX12_rounds_88 rfl (lv_at hl 0 rfl) ?_
    refine lv_iadd hx hb dX12_rounds_89 ?_
    refine lv_topi (fun x_36 ex_36 => ?_)
    refine th_Vv (As := [.int 0, .int 9, .int x_36]) (rest := []) E hml hl.1 (y_set_v12 l D cI cS τ ρ hW H_29 hT_35 a0 x_36 ha0) lk_X12_95 yd_X12_set hT_35 ha0 rfl (by decide) hS_35 (fun q h => h) ⟨by decide, by decide⟩ (Nat.le_of_ble_eq_true rfl) ⟨by decide, by decide⟩ rfl dX12_rounds_90 (fun H_37 locs_37 p_37 hT_37 hk_37 hS_37 => ?_)
    have p_37 : (AU 985 H_29 H_37 (ρ a0 0) 9 x_36) := p_37
    have hW_37 : PW N H_37 (ρ a0 0) := PW.put hW_29 p_37 (by show (-2147483648 : Int) ≤ _; exact i_min _) (by show _ ≤ (2147483647 : Int); exact i_max _)
    refine lv_aload_n hx hb dX12_rounds_93 rfl (lv_at hl 2 rfl) ?_
    refine lv_iload_n hx hb dX12_rounds_94 rfl (lv_at hl 3 rfl) ?_
    refine lv_bipush (v := 10) hx hb dX12_rounds_95 (by decide) ?_
    refine lv_aload_n hx hb dX12_rounds_97 rfl (lv_at hl 2 rfl) ?_
    refine lv_iload_n hx hb dX12_rounds_98 rfl (lv_at hl 3 rfl) ?_
    refine lv_bipush (v := 10) hx hb dX12_rounds_99 (by decide) ?_
    refine th_Vi (As := [.int 0, .int 10]) (rest := [.int 10, .int 0, .ref a0]) E hml hl.1 (y_get_v12 l D cI cS τ ρ hW H_37 hT_37 a0 ha0) lk_X12_99 yd_X12_get hT_37 ha0 rfl (by decide) hS_37 (fun _ h => h.elim) ⟨by decide, by decide⟩ (Nat.le_of_ble_eq_true rfl) ⟨by decide, by decide⟩ rfl dX12_rounds_101 (fun r_38 H_38 locs_38 p_38 hT_38 hk_38 hS_38 => ?_)
    have p_38 : H_37 = H_38 ∧ (ai H_37 (ρ a0 0) 10 = r_38) := p_38
    obtain ⟨rfl, p_38_0⟩ := p_38
    have t_38 : ai H (ρ a0 0) 10 = r_38 := (Eq.trans (AU.o p_37 (by decide) (by decide)) (AU.o p_29 (by decide) (by decide))).symm.trans p_38_0
    have c_r_38 := congrArg Int32.toInt t_38
    refine lv_iload_n hx hb dX12_rounds_104 rfl (lv_at hl 0 rfl) ?_
    refine lv_if_ge (tgt := 113) hx hb dX12_rounds_105 (by decide) (fun c_39 => ?_) (fun c_39 => ?_)
    · have f_39 : 0 ≤ x_34.toInt := r_le (by decide) rfl c_39
      refine lv_iload_n hx hb dX12_rounds_113 rfl (lv_at hl 0 rfl) ?_
      exact J_114 H_37 locs_38 _ r_28 x_34 r_38 x_34 hT_38 hS_38 (lv_sub hl [2, 3, 1, 0] rfl) (by omega) ⟨hW_37, (QS.same (Eq.trans (AU.o p_37 (by decide) (by decide)) (AU.o p_29 (by decide) (by decide))) (Eq.trans (AU.o p_37 (by decide) (by decide)) (AU.o p_29 (by decide) (by decide))) hI.2.1), (QS.same (Eq.trans (AU.o p_37 (by decide) (by decide)) (AU.o p_29 (by decide) (by decide))) (Eq.trans (AU.o p_37 (by decide) (by decide)) (AU.o p_29 (by decide) (by decide))) hI.2.2.1), (PL.q (p_37.2 _ (th_ne (hW _ 12 2 ha0 (by decide) (by decide) (by decide)) (hW _ 12 0 ha0 (by decide) (by decide) (by decide)) (by decide))) (PL.q (p_29.2 _ (th_ne (hW _ 12 2 ha0 (by decide) (by decide) (by decide)) (hW _ 12 0 ha0 (by decide) (by decide) (by decide)) (by decide))) hI.2.2.2.1)), (PL.q (p_37.2 _ (th_ne (hW _ 12 3 ha0 (by decide) (by decide) (by decide)) (hW _ 12 0 ha0 (by decide) (by decide) (by decide)) (by decide))) (PL.q (p_29.2 _ (th_ne (hW _ 12 3 ha0 (by decide) (by decide) (by decide)) (hW _ 12 0 ha0 (by decide) (by decide) (by decide)) (by decide))) hI.2.2.2.2.1)), (IF.q (p_37.2 _ (th_ne ha0 (hW _ 12 0 ha0 (by decide) (by decide) (by decide)) (by decide))) (IF.q (p_29.2 _ (th_ne ha0 (hW _ 12 0 ha0 (by decide) (by decide) (by decide)) (by decide))) hI.2.2.2.2.2))⟩ (by rw [(Eq.trans (AU.o p_37 (by decide) (by decide)) (AU.o p_29 (by decide) (by decide)))]; omega) (Eq.trans (AU.o p_37 (by decide) (by decide)) (AU.o p_29 (by decide) (by decide))) (Eq.trans (AU.o p_37 (by decide) (by decide)) (AU.o p_29 (by decide) (by decide)))
    · have f_39 : x_34.toInt < 0 := r_nle (by decide) rfl c_39
      refine lv_iload_n hx hb dX12_rounds_108 rfl (lv_at hl 0 rfl) ?_
      refine lv_ineg hx hb dX12_rounds_109 ?_
      refine lv_topi (fun x_40 ex_40 => ?_)
      refine lv_goto (tgt := 114) hx hb dX12_rounds_110 (by decide) ?_
      exact J_114 H_37 locs_38 _ r_28 x_34 r_38 x_40 hT_38 hS_38 (lv_sub hl [2, 3, 1, 0] rfl) (by omega) ⟨hW_37, (QS.same (Eq.trans (AU.o p_37 (by decide) (by decide)) (AU.o p_29 (by decide) (by decide))) (Eq.trans (AU.o p_37 (by decide) (by decide)) (AU.o p_29 (by decide) (by decide))) hI.2.1), (QS.same (Eq.trans (AU.o p_37 (by decide) (by decide)) (AU.o p_29 (by decide) (by decide))) (Eq.trans (AU.o p_37 (by decide) (by decide)) (AU.o p_29 (by decide) (by decide))) hI.2.2.1), (PL.q (p_37.2 _ (th_ne (hW _ 12 2 ha0 (by decide) (by decide) (by decide)) (hW _ 12 0 ha0 (by decide) (by decide) (by decide)) (by decide))) (PL.q (p_29.2 _ (th_ne (hW _ 12 2 ha0 (by decide) (by decide) (by decide)) (hW _ 12 0 ha0 (by decide) (by decide) (by decide)) (by decide))) hI.2.2.2.1)), (PL.q (p_37.2 _ (th_ne (hW _ 12 3 ha0 (by decide) (by decide) (by decide)) (hW _ 12 0 ha0 (by decide) (by decide) (by decide)) (by decide))) (PL.q (p_29.2 _ (th_ne (hW _ 12 3 ha0 (by decide) (by decide) (by decide)) (hW _ 12 0 ha0 (by decide) (by decide) (by decide)) (by decide))) hI.2.2.2.2.1)), (IF.q (p_37.2 _ (th_ne ha0 (hW _ 12 0 ha0 (by decide) (by decide) (by decide)) (by decide))) (IF.q (p_29.2 _ (th_ne ha0 (hW _ 12 0 ha0 (by decide) (by decide) (by decide)) (by decide))) hI.2.2.2.2.2))⟩ (by rw [(Eq.trans (AU.o p_37 (by decide) (by decide)) (AU.o p_29 (by decide) (by decide)))]; omega) (Eq.trans (AU.o p_37 (by decide) (by decide)) (AU.o p_29 (by decide) (by decide))) (Eq.trans (AU.o p_37 (by decide) (by decide)) (AU.o p_29 (by decide) (by decide)))
  · have f_31 : r_30.toInt = 0 := r_eq rfl (by decide) c_31
    refine lv_aload_n hx hb dX12_rounds_40 rfl (lv_at hl 1 rfl) ?_
    refine lv_iload_n hx hb dX12_rounds_41 rfl (lv_at hl 2 rfl) ?_
    refine lv_bipush (v := 9) hx hb dX12_rounds_42 (by decide) ?_
    refine lv_bipush (v := 8) hx hb dX12_rounds_44 (by decide) ?_
    refine lv_iload_n hx hb dX12_rounds_46 rfl (lv_at hl 0 rfl) ?_
    refine lv_imul hx hb dX12_rounds_47 ?_
    refine lv_topi (fun x_41 ex_41 => ?_)
    refine th_Vv (As := [.int 0, .int 9, .int x_41]) (rest := []) E hml hl.1 (y_set_v12 l D cI cS τ ρ hW H_29 hT_30 a0 x_41 ha0) lk_X12_95 yd_X12_set hT_30 ha0 rfl (by decide) hS_30 (fun q h => h) ⟨by decide, by decide⟩ (Nat.le_of_ble_eq_true rfl) ⟨by decide, by decide⟩ rfl dX12_rounds_48 (fun H_42 locs_42 p_42 hT_42 hk_42 hS_42 => ?_)
    have p_42 : (AU 985 H_29 H_42 (ρ a0 0) 9 x_41) := p_42
    have hW_42 : PW N H_42 (ρ a0 0) := PW.put hW_29 p_42 (by show (-2147483648 : Int) ≤ _; exact i_min _) (by show _ ≤ (2147483647 : Int); exact i_max _)
    refine lv_aload_n hx hb dX12_rounds_51 rfl (lv_at hl 1 rfl) ?_
    refine lv_iload_n hx hb dX12_rounds_52 rfl (lv_at hl 2 rfl) ?_
    refine lv_bipush (v := 10) hx hb dX12_rounds_53 (by decide) ?_
    refine lv_iconst (v := 2) hx hb dX12_rounds_55 (by decide) ?_
    refine lv_iload_n hx hb dX12_rounds_56 rfl (lv_at hl 0 rfl) ?_
    refine lv_imul hx hb dX12_rounds_57 ?_
    refine lv_topi (fun x_43 ex_43 => ?_)
    refine th_Vv (As := [.int 0, .int 10, .int x_43]) (rest := []) E hml hl.1 (y_set_v13 l D cI cS τ ρ hW H_42 hT_42 a0 x_43 ha0) lk_X12_95 yd_X12_set hT_42 ha0 rfl (by decide) hS_42 (fun q h => h) ⟨by decide, by decide⟩ (Nat.le_of_ble_eq_true rfl) ⟨by decide, by decide⟩ rfl dX12_rounds_58 (fun H_44 locs_44 p_44 hT_44 hk_44 hS_44 => ?_)
    have p_44 : (AU 985 H_42 H_44 (ρ a0 0) 10 x_43) := p_44
    have hW_44 : PW N H_44 (ρ a0 0) := PW.put hW_42 p_44 (by show (-2147483648 : Int) ≤ _; exact i_min _) (by show _ ≤ (2147483647 : Int); exact i_max _)
    refine lv_goto (tgt := 128) hx hb dX12_rounds_61 (by decide) ?_
    exact J_128 H_44 locs_44 _ r_28 hT_44 hS_44 (lv_sub hl [1, 2, 0] rfl) (by omega) ⟨hW_44, (QS.same (Eq.trans (AU.o p_44 (by decide) (by decide)) (Eq.trans (AU.o p_42 (by decide) (by decide)) (AU.o p_29 (by decide) (by decide)))) (Eq.trans (AU.o p_44 (by decide) (by decide)) (Eq.trans (AU.o p_42 (by decide) (by decide)) (AU.o p_29 (by decide) (by decide)))) hI.2.1), (QS.same (Eq.trans (AU.o p_44 (by decide) (by decide)) (Eq.trans (AU.o p_42 (by decide) (by decide)) (AU.o p_29 (by decide) (by decide)))) (Eq.trans (AU.o p_44 (by decide) (by decide)) (Eq.trans (AU.o p_42 (by decide) (by decide)) (AU.o p_29 (by decide) (by decide)))) hI.2.2.1), (PL.q (p_44.2 _ (th_ne (hW _ 12 2 ha0 (by decide) (by decide) (by decide)) (hW _ 12 0 ha0 (by decide) (by decide) (by decide)) (by decide))) (PL.q (p_42.2 _ (th_ne (hW _ 12 2 ha0 (by decide) (by decide) (by decide)) (hW _ 12 0 ha0 (by decide) (by decide) (by decide)) (by decide))) (PL.q (p_29.2 _ (th_ne (hW _ 12 2 ha0 (by decide) (by decide) (by decide)) (hW _ 12 0 ha0 (by decide) (by decide) (by decide)) (by decide))) hI.2.2.2.1))), (PL.q (p_44.2 _ (th_ne (hW _ 12 3 ha0 (by decide) (by decide) (by decide)) (hW _ 12 0 ha0 (by decide) (by decide) (by decide)) (by decide))) (PL.q (p_42.2 _ (th_ne (hW _ 12 3 ha0 (by decide) (by decide) (by decide)) (hW _ 12 0 ha0 (by decide) (by decide) (by decide)) (by decide))) (PL.q (p_29.2 _ (th_ne (hW _ 12 3 ha0 (by decide) (by decide) (by decide)) (hW _ 12 0 ha0 (by decide) (by decide) (by decide)) (by decide))) hI.2.2.2.2.1))), (IF.q (p_44.2 _ (th_ne ha0 (hW _ 12 0 ha0 (by decide) (by decide) (by decide)) (by decide))) (IF.q (p_42.2 _ (th_ne ha0 (hW _ 12 0 ha0 (by decide) (by decide) (by decide)) (by decide))) (IF.q (p_29.2 _ (th_ne ha0 (hW _ 12 0 ha0 (by decide) (by decide) (by decide)) (by decide))) hI.2.2.2.2.2)))⟩ (by rw [(Eq.trans (AU.o p_44 (by decide) (by decide)) (Eq.trans (AU.o p_42 (by decide) (by decide)) (AU.o p_29 (by decide) (by decide))))]; omega) (Eq.trans (AU.o p_44 (by decide) (by decide)) (Eq.trans (AU.o p_42 (by decide) (by decide)) (AU.o p_29 (by decide) (by decide)))) (Eq.trans (AU.o p_44 (by decide) (by decide)) (Eq.trans (AU.o p_42 (by decide) (by decide)) (AU.o p_29 (by decide) (by decide))))
set_option maxHeartbeats 4000000 in
set_option maxRecDepth 100000 in
/-- the reference: get -/
theorem y_get_v15 (l : Launch) (D : va_G) (cI cS : ClassId) (τ : Nat → Option Nat) (ρ : Nat → Nat → Nat) (hW : WF τ ρ) (H : Heap) (hT : TH D cI cS τ ρ H) (a0 : Nat) (ha0 : τ a0 = some 12) : MI l D cI cS τ ρ yX12_get cX12_get 3 (some .int) 0 0 H [.ref a0, .int 0, .int 3] (fun (r : Int32) (u : Heap) => (H = u) ∧ (ai H (ρ a0 0) 3 = r)) (fun q => False) := by
  refine MI.of (by decide) (Nat.le_of_ble_eq_true rfl) ?_
  intro p e s m args below meth c E hml hr hlk hs ls hl
  have hx := E.1
  have hb := E.2.1
  have hown := E.2.2.1
  have hts := E.2.2.2.1
  have hS : SS (fun q => False) H H [] := SS.rf
  have hl : lv_has ls 3 [(0, .ref a0), (1, .int 0), (2, .int 3)] := hl
  refine lv_aload_n hx hb dX12_get_0 rfl (lv_at hl 0 rfl) ?_
  refine gf_X12_7 E hT hW ha0 dX12_get_1 (fun h_1 => ?_)
  refine lv_sipush (v := 288) hx hb dX12_get_4 (by decide) ?_
  refine lv_iload_n hx hb dX12_get_7 rfl (lv_at hl 1 rfl) ?_
  refine lv_imul hx hb dX12_get_8 ?_
  refine th_topi (y := 0) (by decide) ?_
  refine lv_iload_n hx hb dX12_get_9 rfl (lv_at hl 2 rfl) ?_
  refine lv_iadd hx hb dX12_get_10 ?_
  refine th_topi (y := 3) (by decide) ?_
  refine th_iald E hT h_1 (by decide) (vp_in_iff.mpr ⟨by decide, by decide⟩) dX12_get_11 ?_
  refine th_topi (y := ai H (ρ a0 0) 3) rfl ?_
  refine lv_topi (fun x_2 ex_2 => ?_)
  have c_x_2 := congrArg Int32.toInt ex_2.symm
  exact th_iret E hr hlk hs hT hS ⟨rfl, ex_2.symm⟩ dX12_get_12
set_option maxHeartbeats 4000000 in
set_option maxRecDepth 100000 in
/-- the reference: greater -/
theorem y_greater_v3 (l : Launch) (D : va_G) (cI cS : ClassId) (τ : Nat → Option Nat) (ρ : Nat → Nat → Nat) (hW : WF τ ρ) (H : Heap) (hT : TH D cI cS τ ρ H) (x0 : Int32) (x1 : Int32) : MI l D cI cS τ ρ yX12_greater cX12_greater 2 (some .int) 0 0 H [.int x0, .int x1] (fun (r : Int32) (u : Heap) => (H = u) ∧ (x0.toInt ≤ r.toInt ∧ x1.toInt ≤ r.toInt ∧ (r.toInt = x0.toInt ∨ r.toInt = x1.toInt))) (fun q => False) := by
  refine MI.of (by decide) (Nat.le_of_ble_eq_true rfl) ?_
  intro p e s m args below meth c E hml hr hlk hs ls hl
  have hx := E.1
  have hb := E.2.1
  have hown := E.2.2.1
  have hts := E.2.2.2.1
  have hS : SS (fun q => False) H H [] := SS.rf
  have hl : lv_has ls 2 [(0, .int x0), (1, .int x1)] := hl
  refine lv_iload_n hx hb dX12_greater_0 rfl (lv_at hl 0 rfl) ?_
  refine lv_iload_n hx hb dX12_greater_1 rfl (lv_at hl 1 rfl) ?_
  refine lv_icmp_le (tgt := 9) hx hb dX12_greater_2 (by decide) (fun c_1 => ?_) (fun c_1 => ?_)
  · have f_1 : x0.toInt ≤ x1.toInt := r_le rfl rfl c_1
    refine lv_iload_n hx hb dX12_greater_9 rfl (lv_at hl 1 rfl) ?_
    exact th_iret E hr hlk hs hT hS ⟨rfl, (by omega)⟩ dX12_greater_10
  · have f_1 : x1.toInt < x0.toInt := r_nle rfl rfl c_1
    refine lv_iload_n hx hb dX12_greater_5 rfl (lv_at hl 0 rfl) ?_
    refine lv_goto (tgt := 10) hx hb dX12_greater_6 (by decide) ?_
    exact th_iret E hr hlk hs hT hS ⟨rfl, (by omega)⟩ dX12_greater_10
set_option maxHeartbeats 4000000 in
set_option maxRecDepth 100000 in
/-- the reference: set -/
theorem y_set_v19 (l : Launch) (D : va_G) (cI cS : ClassId) (τ : Nat → Option Nat) (ρ : Nat → Nat → Nat) (hW : WF τ ρ) (H : Heap) (hT : TH D cI cS τ ρ H) (a0 : Nat) (x2 : Int32) (ha0 : τ a0 = some 12) : MV l D cI cS τ ρ yX12_set cX12_set 4 none 0 0 H [.ref a0, .int 0, .int 3, .int x2] (fun (u : Heap) => (AU 985 H u (ρ a0 0) 3 x2)) (fun q => q = ρ a0 0) := by
  refine MV.of (by decide) (Nat.le_of_ble_eq_true rfl) ?_
  intro p e s m args below meth c E hml hr hlk hs ls hl
  have hx := E.1
  have hb := E.2.1
  have hown := E.2.2.1
  have hts := E.2.2.2.1
  have hS : SS (fun q => q = ρ a0 0) H H [] := SS.rf
  have hl : lv_has ls 4 [(0, .ref a0), (1, .int 0), (2, .int 3), (3, .int x2)] := hl
  refine lv_aload_n hx hb dX12_set_0 rfl (lv_at hl 0 rfl) ?_
  refine gf_X12_7 E hT hW ha0 dX12_set_1 (fun h_1 => ?_)
  refine lv_sipush (v := 288) hx hb dX12_set_4 (by decide) ?_
  refine lv_iload_n hx hb dX12_set_7 rfl (lv_at hl 1 rfl) ?_
  refine lv_imul hx hb dX12_set_8 ?_
  refine th_topi (y := 0) (by decide) ?_
  refine lv_iload_n hx hb dX12_set_9 rfl (lv_at hl 2 rfl) ?_
  refine lv_iadd hx hb dX12_set_10 ?_
  refine th_topi (y := 3) (by decide) ?_
  refine lv_iload_n hx hb dX12_set_11 rfl (lv_at hl 3 rfl) ?_
  refine th_iast E hT hS h_1 rfl (by decide) (vp_in_iff.mpr ⟨by decide, by decide⟩) dX12_set_12 (fun H_2 locs_2 hT_2 hU_2 hS_2 => ?_)
  have hU_2 : AU 985 H H_2 (ρ a0 0) 3 x2 := hU_2
  exact th_vret E hr hlk hs hT_2 hS_2 hU_2 dX12_set_13
set_option maxHeartbeats 4000000 in
set_option maxRecDepth 100000 in
/-- the reference: means -/
theorem y_means (l : Launch) (D : va_G) (cI cS : ClassId) (τ : Nat → Option Nat) (ρ : Nat → Nat → Nat) (hW : WF τ ρ) (H : Heap) (hT : TH D cI cS τ ρ H) (a0 : Nat) (x1 : Int32) (x2 : Int32) (ha0 : τ a0 = some 12) (hp0 : 0 ≤ x2.toInt ∧ x2.toInt ≤ 700) : MI l D cI cS τ ρ yX12_means cX12_means 5 (some .int) 0 0 H [.ref a0, .int 0, .int x1, .int x2] (fun (r : Int32) (u : Heap) => (H = u) ∧ (x2.toInt - 128 ≤ r.toInt ∧ r.toInt ≤ x2.toInt + 127)) (fun q => False) := by
  refine MI.of (by decide) (Nat.le_of_ble_eq_true rfl) ?_
  intro p e s m args below meth c E hml hr hlk hs ls hl
  have hx := E.1
  have hb := E.2.1
  have hown := E.2.2.1
  have hts := E.2.2.2.1
  have hS : SS (fun q => False) H H [] := SS.rf
  have hl : lv_has ls 5 [(0, .ref a0), (1, .int 0), (2, .int x1), (3, .int x2)] := hl
  refine lv_iload_n hx hb dX12_means_0 rfl (lv_at hl 2 rfl) ?_
  refine lv_aload_n hx hb dX12_means_1 rfl (lv_at hl 0 rfl) ?_
  refine gf_X12_35 E hT hW ha0 dX12_means_2 (fun h_1 => ?_)
  refine lv_iload_n hx hb dX12_means_5 rfl (lv_at hl 1 rfl) ?_
  refine th_iald E hT h_1 (by decide) (vp_in_iff.mpr ⟨by decide, by decide⟩) dX12_means_6 ?_
  refine th_topi (y := ai H (ρ a0 9) 0) rfl ?_
  refine lv_topi (fun x_2 ex_2 => ?_)
  have c_x_2 := congrArg Int32.toInt ex_2.symm
  refine lv_isub hx hb dX12_means_7 ?_
  refine lv_topi (fun x_3 ex_3 => ?_)
  refine lv_iload_n hx hb dX12_means_8 rfl (lv_at hl 3 rfl) ?_
  refine lv_isub hx hb dX12_means_9 ?_
  refine lv_topi (fun x_4 ex_4 => ?_)
  refine lv_sipush (v := 128) hx hb dX12_means_10 (by decide) ?_
  refine lv_iadd hx hb dX12_means_13 ?_
  refine lv_topi (fun x_5 ex_5 => ?_)
  refine lv_sipush (v := 256) hx hb dX12_means_14 (by decide) ?_
  refine lv_irem hx hb dX12_means_17 (by decide) ?_
  refine lv_topi (fun x_6 ex_6 => ?_)
  have q_6 := i_rem (k := 256) (x := x_5) (by decide) (by decide) ex_6
  refine lv_istore (lv' := [(4, .int x_6), (0, .ref a0), (1, .int 0), (2, .int x1), (3, .int x2)]) hx hb dX12_means_18 hl (by decide) rfl (fun ls hl => ?_)
  refine lv_iload_n hx hb dX12_means_20 rfl (lv_at hl 4 rfl) ?_
  refine lv_sipush (v := 128) hx hb dX12_means_21 (by decide) ?_
  refine lv_isub hx hb dX12_means_24 ?_
  refine lv_topi (fun x_7 ex_7 => ?_)
  have q_7 : x_7.toInt = x2.toInt - 128 := i_mi rfl (by decide) ex_7 (by omega) (by omega)
  refine lv_iload hx hb dX12_means_25 (lv_at hl 0 rfl) ?_
  refine lv_if_ge (tgt := 39) hx hb dX12_means_27 (by decide) (fun c_8 => ?_) (fun c_8 => ?_)
  · have f_8 : 0 ≤ x_6.toInt := r_le (by decide) rfl c_8
    refine lv_iload hx hb dX12_means_39 (lv_at hl 0 rfl) ?_
    refine lv_iadd hx hb dX12_means_41 ?_
    refine lv_topi (fun x_9 ex_9 => ?_)
    have q_9 : x_9.toInt = x_7.toInt + x_6.toInt := i_pl rfl rfl ex_9 (by omega) (by omega)
    exact th_iret E hr hlk hs hT hS ⟨rfl, (by omega)⟩ dX12_means_42
  · have f_8 : x_6.toInt < 0 := r_nle (by decide) rfl c_8
    refine lv_iload hx hb dX12_means_30 (lv_at hl 0 rfl) ?_
    refine lv_sipush (v := 256) hx hb dX12_means_32 (by decide) ?_
    refine lv_iadd hx hb dX12_means_35 ?_
    refine lv_topi (fun x_10 ex_10 => ?_)
    have q_10 : x_10.toInt = x_6.toInt + 256 := i_pl rfl (by decide) ex_10 (by omega) (by omega)
    refine lv_goto (tgt := 41) hx hb dX12_means_36 (by decide) ?_
    refine lv_iadd hx hb dX12_means_41 ?_
    refine lv_topi (fun x_11 ex_11 => ?_)
    have q_11 : x_11.toInt = x_7.toInt + x_10.toInt := i_pl rfl rfl ex_11 (by omega) (by omega)
    exact th_iret E hr hlk hs hT hS ⟨rfl, (by omega)⟩ dX12_means_42
set_option maxHeartbeats 4000000 in
set_option maxRecDepth 100000 in
/-- the reference: get -/
theorem y_get_v16 (l : Launch) (D : va_G) (cI cS : ClassId) (τ : Nat → Option Nat) (ρ : Nat → Nat → Nat) (hW : WF τ ρ) (H : Heap) (hT : TH D cI cS τ ρ H) (a0 : Nat) (ha0 : τ a0 = some 12) : MI l D cI cS τ ρ yX12_get cX12_get 3 (some .int) 0 0 H [.ref a0, .int 0, .int 2] (fun (r : Int32) (u : Heap) => (H = u) ∧ (ai H (ρ a0 0) 2 = r)) (fun q => False) := by
  refine MI.of (by decide) (Nat.le_of_ble_eq_true rfl) ?_
  intro p e s m args below meth c E hml hr hlk hs ls hl
  have hx := E.1
  have hb := E.2.1
  have hown := E.2.2.1
  have hts := E.2.2.2.1
  have hS : SS (fun q => False) H H [] := SS.rf
  have hl : lv_has ls 3 [(0, .ref a0), (1, .int 0), (2, .int 2)] := hl
  refine lv_aload_n hx hb dX12_get_0 rfl (lv_at hl 0 rfl) ?_
  refine gf_X12_7 E hT hW ha0 dX12_get_1 (fun h_1 => ?_)
  refine lv_sipush (v := 288) hx hb dX12_get_4 (by decide) ?_
  refine lv_iload_n hx hb dX12_get_7 rfl (lv_at hl 1 rfl) ?_
  refine lv_imul hx hb dX12_get_8 ?_
  refine th_topi (y := 0) (by decide) ?_
  refine lv_iload_n hx hb dX12_get_9 rfl (lv_at hl 2 rfl) ?_
  refine lv_iadd hx hb dX12_get_10 ?_
  refine th_topi (y := 2) (by decide) ?_
  refine th_iald E hT h_1 (by decide) (vp_in_iff.mpr ⟨by decide, by decide⟩) dX12_get_11 ?_
  refine th_topi (y := ai H (ρ a0 0) 2) rfl ?_
  refine lv_topi (fun x_2 ex_2 => ?_)
  have c_x_2 := congrArg Int32.toInt ex_2.symm
  exact th_iret E hr hlk hs hT hS ⟨rfl, ex_2.symm⟩ dX12_get_12
