set_option maxHeartbeats 4000000 in
set_option maxRecDepth 100000 in
/-- StreamEndsModel.in -/
theorem f_in (l : Launch) (D : va_G) (cI cS : ClassId) (τ : Nat → Option Nat) (ρ : Nat → Nat → Nat) (hW : WF τ ρ) (H : Heap) (hT : TH D cI cS τ ρ H) (x0 y0 z0 : Int64) : MI l D cI cS τ ρ yX12_in cX12_in 6 (some .boolean) 0 0 H [.long x0, .long y0, .long z0] (fun (r : Int32) (u : Heap) => (H = u) ∧ (r = 0 ∨ r = 1) ∧ ((r.toInt = 1 ∧ y0.toInt ≤ x0.toInt ∧ x0.toInt ≤ z0.toInt) ∨ (r.toInt = 0 ∧ (x0.toInt < y0.toInt ∨ z0.toInt < x0.toInt)))) (fun q => False) := by
  refine MI.of (by decide) (Nat.le_of_ble_eq_true rfl) ?_
  intro p e s m args below meth c E hml hr hlk hs ls hl
  have hx := E.1
  have hb := E.2.1
  have hown := E.2.2.1
  have hts := E.2.2.2.1
  have hS : SS (fun q => False) H H [] := SS.rf
  have hl : lv_has ls 6 [(0, .long x0), (2, .long y0), (4, .long z0)] := hl
  refine lv_lload_n hx hb dX12_in_0 rfl (lv_at hl 0 rfl) ?_
  refine lv_lload_n hx hb dX12_in_1 rfl (lv_at hl 1 rfl) ?_
  refine W.lcmp hx hb dX12_in_2 ?_
  refine lv_topi (fun x_1 ex_1 => ?_)
  have q_1 := l_cmp (a := x0) (b := y0) (m := x0.toInt) (n := y0.toInt) rfl rfl ex_1
  refine lv_if_lt (tgt := 17) hx hb dX12_in_3 (by decide) (fun c_2 => ?_) (fun c_2 => ?_)
  · have f_2 : x_1.toInt < 0 := r_lt rfl (by decide) c_2
    refine lv_iconst (v := 0) hx hb dX12_in_17 (by decide) ?_
    exact th_zret E hr hlk hs (Or.inl rfl) hT hS ⟨rfl, (Or.inl rfl), (by have : (0 : Int32).toInt = 0 := (by decide); omega)⟩ dX12_in_18
  · have f_2 : 0 ≤ x_1.toInt := r_nlt rfl (by decide) c_2
    refine lv_lload_n hx hb dX12_in_6 rfl (lv_at hl 0 rfl) ?_
    refine lv_lload hx hb dX12_in_7 (lv_at hl 2 rfl) ?_
    refine W.lcmp hx hb dX12_in_9 ?_
    refine lv_topi (fun x_3 ex_3 => ?_)
    have q_3 := l_cmp (a := x0) (b := z0) (m := x0.toInt) (n := z0.toInt) rfl rfl ex_3
    refine lv_if_gt (tgt := 17) hx hb dX12_in_10 (by decide) (fun c_4 => ?_) (fun c_4 => ?_)
    · have f_4 : 0 < x_3.toInt := r_lt (by decide) rfl c_4
      refine lv_iconst (v := 0) hx hb dX12_in_17 (by decide) ?_
      exact th_zret E hr hlk hs (Or.inl rfl) hT hS ⟨rfl, (Or.inl rfl), (by have : (0 : Int32).toInt = 0 := (by decide); omega)⟩ dX12_in_18
    · have f_4 : x_3.toInt ≤ 0 := r_nlt (by decide) rfl c_4
      refine lv_iconst (v := 1) hx hb dX12_in_13 (by decide) ?_
      refine lv_goto (tgt := 18) hx hb dX12_in_14 (by decide) ?_
      exact th_zret E hr hlk hs (Or.inr rfl) hT hS ⟨rfl, (Or.inr rfl), (by have : (1 : Int32).toInt = 1 := (by decide); omega)⟩ dX12_in_18
/-- the reference's text: n codes T -/
def RX (D : va_G) (ρ : Nat → Nat → Nat) (T : Nat → Int32) (n : Nat) (H : Heap) (a : Nat) : Prop := n ≤ 200 ∧ (fi D 12 5 H a).toInt = n ∧ ∀ k, k < n → ai H (ρ a 4) k = T k
set_option maxHeartbeats 4000000 in
set_option maxRecDepth 100000 in
/-- StreamEndsModel.isFigure -/
theorem f_isFigure (l : Launch) (D : va_G) (cI cS : ClassId) (τ : Nat → Option Nat) (ρ : Nat → Nat → Nat) (hW : WF τ ρ) (H : Heap) (hT : TH D cI cS τ ρ H) (a0 : Nat) (ha0 : τ a0 = some 12) (T : Nat → Int32) (n h : Nat) (hX : RX D ρ T n H a0) (hh : (fi D 12 10 H a0).toInt = h) : MI l D cI cS τ ρ yX12_isFigure cX12_isFigure 1 (some .boolean) 1 25 H [.ref a0] (fun (r : Int32) (u : Heap) => (H = u) ∧ (r = 0 ∨ r = 1) ∧ (r = 1 ↔ fg T n h)) (fun q => False) := by
  refine MI.of (by decide) (Nat.le_of_ble_eq_true rfl) ?_
  intro p e s m args below meth c E hml hr hlk hs ls hl
  have hx := E.1
  have hb := E.2.1
  have hown := E.2.2.1
  have hts := E.2.2.2.1
  have hS : SS (fun q => False) H H [] := SS.rf
  have hl : lv_has ls 1 [(0, .ref a0)] := hl
  obtain ⟨hn, hlen, hco⟩ := hX
  have z0 : ¬ (0 : Int32) = 1 := by decide
  refine lv_aload_n hx hb dX12_isFigure_0 rfl (lv_at hl 0 rfl) ?_
  refine gf_X12_44 E hT ha0 dX12_isFigure_1 ?_
  refine lv_topi (fun x_1 ex_1 => ?_)
  have e_1 : x_1.toInt = (fi D 12 10 H a0).toInt := congrArg Int32.toInt ex_1
  refine lv_aload_n hx hb dX12_isFigure_4 rfl (lv_at hl 0 rfl) ?_
  refine gf_X12_47 E hT ha0 dX12_isFigure_5 ?_
  refine lv_topi (fun x_2 ex_2 => ?_)
  have e_2 : x_2.toInt = (fi D 12 5 H a0).toInt := congrArg Int32.toInt ex_2
  refine lv_icmp_ge (tgt := 37) hx hb dX12_isFigure_8 (by decide) (fun c_3 => ?_) (fun c_3 => ?_)
  · have f_3 : x_2.toInt ≤ x_1.toInt := r_le rfl rfl c_3
    refine lv_iconst (v := 0) hx hb dX12_isFigure_37 (by decide) ?_
    exact th_zret E hr hlk hs (Or.inl rfl) hT hS ⟨rfl, (Or.inl rfl), ⟨fun z => absurd z z0, fun z => by have := z.1; omega⟩⟩ dX12_isFigure_38
  · have f_3 : x_1.toInt < x_2.toInt := r_nle rfl rfl c_3
    refine lv_aload_n hx hb dX12_isFigure_11 rfl (lv_at hl 0 rfl) ?_
    refine gf_X12_22 E hT hW ha0 dX12_isFigure_12 (fun h_4 => ?_)
    refine lv_aload_n hx hb dX12_isFigure_15 rfl (lv_at hl 0 rfl) ?_
    refine gf_X12_44 E hT ha0 dX12_isFigure_16 ?_
    refine th_topi (y := x_1) ex_1.symm ?_
    refine th_iald E hT h_4 (by decide) (vp_in_iff.mpr ⟨by omega, by omega⟩) dX12_isFigure_19 ?_
    refine th_topi (y := ai H (ρ a0 4) x_1.toInt.toNat) rfl ?_
    refine lv_topi (fun x_5 ex_5 => ?_)
    obtain ⟨x_6, ex_6⟩ : ∃ y : Int64, x_5.toInt64 = y := ⟨_, rfl⟩
    refine lv_i2l (v := x_6) hx hb dX12_isFigure_20 ex_6 ?_
    have q_6 : x_6.toInt = x_5.toInt := by rw [← ex_6]; exact Int32.toInt_toInt64 _
    refine lv_ldc2 (v := 48) hx hb hown (hts _ qw_1204) dX12_isFigure_21 ?_
    refine lv_ldc2 (v := 57) hx hb hown (hts _ qw_1205) dX12_isFigure_24 ?_
    refine th_Si (As := [.long x_6, .long 48, .long 57]) (rest := []) E hml hl.1 (f_in l D cI cS τ ρ hW H hT x_6 48 57) lk_X12_54 yd_X12_in hS (fun _ h => h.elim) ⟨by decide, by decide⟩ (Nat.le_of_ble_eq_true rfl) ⟨by decide, by decide⟩ rfl dX12_isFigure_27 (fun r_7 H_7 locs_7 p_7 hT_7 hk_7 hS_7 => ?_)
    have c48 : (48 : Int64).toInt = 48 := by decide
    have c57 : (57 : Int64).toInt = 57 := by decide
    obtain ⟨rfl, p_7_0, p_7_1⟩ := p_7
    have z_7 := b_iv p_7_0
    refine lv_if_eq (tgt := 37) hx hb dX12_isFigure_30 (by decide) (fun c_8 => ?_) (fun c_8 => ?_)
    · have f_8 : r_7.toInt = 0 := r_eq rfl (by decide) c_8
      have e5 : x_5 = T h := by rw [ex_5, e_1, hh]; exact hco h (by omega)
      refine lv_iconst (v := 0) hx hb dX12_isFigure_37 (by decide) ?_
      exact th_zret E hr hlk hs (Or.inl rfl) hT_7 hS_7 ⟨rfl, (Or.inl rfl), ⟨fun z => absurd z z0, fun z => by have z1 := z.2; rw [← e5] at z1; omega⟩⟩ dX12_isFigure_38
    · have f_8 : ¬ r_7.toInt = 0 := r_ne rfl (by decide) c_8
      have nz_r_7 : ¬ r_7 = 0 := c_8
      have e5 : x_5 = T h := by rw [ex_5, e_1, hh]; exact hco h (by omega)
      have yes : fg T n h := ⟨by omega, by rw [← e5]; omega, by rw [← e5]; omega⟩
      refine lv_iconst (v := 1) hx hb dX12_isFigure_33 (by decide) ?_
      refine lv_goto (tgt := 38) hx hb dX12_isFigure_34 (by decide) ?_
      exact th_zret E hr hlk hs (Or.inr rfl) hT_7 hS_7 ⟨rfl, (Or.inr rfl), ⟨fun _ => yes, fun _ => rfl⟩⟩ dX12_isFigure_38
def RN (D : va_G) (T : Nat → Int32) (n h d : Nat) (x0 x1 x2 : Int32) (H u : Heap) (a0 : Nat) (r : Int32) : Prop := (fi D 12 10 u a0).toInt = (h : Int) + d + 1 ∧ (fi D 12 11 u a0).toInt = vl T h d ∧ (r.toInt = 1 ↔ (1 ≤ d ∧ d ≤ 3 ∧ x0.toInt ≤ vl T h d ∧ vl T h d ≤ x1.toInt ∧ h + d < n ∧ T (h + d) = x2)) ∧ ∀ k, k < 16 → k ≠ 10 → k ≠ 11 → fi D 12 k u a0 = fi D 12 k H a0
theorem RN.of {D : va_G} {T : Nat → Int32} {n h d : Nat} {x0 x1 x2 : Int32} {H Hc u : Heap} {a0 : Nat} {r x : Int32} (hU : PU D 12 10 Hc u a0 (.int x)) (hx : x.toInt = (h : Int) + d + 1) (ht : (fi D 12 11 Hc a0).toInt = vl T h d) (hf : ∀ k, k < 16 → k ≠ 10 → k ≠ 11 → fi D 12 k Hc a0 = fi D 12 k H a0) (hr : r.toInt = 1 ↔ (1 ≤ d ∧ d ≤ 3 ∧ x0.toInt ≤ vl T h d ∧ vl T h d ≤ x1.toInt ∧ h + d < n ∧ T (h + d) = x2)) : RN D T n h d x0 x1 x2 H u a0 r :=
  ⟨by rw [hU.i]; exact hx, by rw [hU.io (j := 11) (by decide) (by decide)]; exact ht, hr, fun k hk h1 h2 => (hU.io (j := k) hk h1).trans (hf k hk h1 h2)⟩
theorem RX.q {D : va_G} {ρ : Nat → Nat → Nat} {T : Nat → Int32} {n : Nat} {H H1 : Heap} {a : Nat} (h : RX D ρ T n H a) (e1 : fi D 12 5 H1 a = fi D 12 5 H a) (e2 : H1[ρ a 4]? = H[ρ a 4]?) : RX D ρ T n H1 a := ⟨h.1, by rw [e1]; exact h.2.1, fun k hk => by rw [ai_q e2]; exact h.2.2 k hk⟩
set_option maxHeartbeats 4000000 in
set_option maxRecDepth 100000 in
/-- StreamEndsModel.readsNumber -/
theorem f_readsNumber (l : Launch) (D : va_G) (cI cS : ClassId) (τ : Nat → Option Nat) (ρ : Nat → Nat → Nat) (hW : WF τ ρ) (H : Heap) (hT : TH D cI cS τ ρ H) (a0 : Nat) (ha0 : τ a0 = some 12) (x0 x1 x2 : Int32) (T : Nat → Int32) (n h : Nat) (hX : RX D ρ T n H a0) (hh : (fi D 12 10 H a0).toInt = h) (hh2 : h ≤ 300) : MI l D cI cS τ ρ yX12_readsNumber cX12_readsNumber 6 (some .boolean) 2 45 H [.ref a0, .int x0, .int x1, .int x2] (fun (r : Int32) (u : Heap) => (r = 0 ∨ r = 1) ∧ RN D T n h (dc T n h 4) x0 x1 x2 H u a0 r) (fun q => q = a0) := by
  refine MI.of (by decide) (Nat.le_of_ble_eq_true rfl) ?_
  intro p e s m args below meth c E hml hr hlk hs ls hl
  have hx := E.1
  have hb := E.2.1
  have hown := E.2.2.1
  have hts := E.2.2.2.1
  have hS : SS (fun q => q = a0) H H [] := SS.rf
  have hl : lv_has ls 6 [(0, .ref a0), (1, .int x0), (2, .int x1), (3, .int x2)] := hl
  have n4 : ρ a0 4 ≠ a0 := th_ne (hW _ 12 4 ha0 (by decide) (by decide) (by decide)) ha0 (by decide)
  have hn := hX.1
  have J_61 : ∀ (Hc : Heap) (lc : List Loc) (ls : Array Slot) (y4 : Int32) (d : Nat), dc T n h 4 = d → d ≤ 4 → RX D ρ T n Hc a0 → y4.toInt = (d : Nat) → (fi D 12 10 Hc a0).toInt = (h : Int) + (d : Nat) → (fi D 12 11 Hc a0).toInt = vl T h d → (∀ k, k < 16 → k ≠ 10 → k ≠ 11 → fi D 12 k Hc a0 = fi D 12 k H a0) → TH D cI cS τ ρ Hc → SS (fun q => q = a0) H Hc lc → lv_has ls 6 [(0, .ref a0), (1, .int x0), (2, .int x1), (3, .int x2), (4, .int y4)] → W p l e (rmO 2 45) s m args below meth c Hc lc 0 0 (MQ below (va_Qi (fun (r : Int32) (u : Heap) => (r = 0 ∨ r = 1) ∧ RN D T n h (dc T n h 4) x0 x1 x2 H u a0 r) (Bt D cI cS τ ρ H) (fun q => q = a0)) args s 0 0 (fun q => q = a0)) (F0 m 61 ls []) := by
    intro Hc lc ls y4 d hd hd4 hX hy he ht hf hTc hSc hl
    have hlen := hX.2.1
    have hco := hX.2.2
    refine lv_iload hx hb dX12_readsNumber_61 (lv_at hl 4 rfl) ?_
    obtain ⟨x_1, ex_1⟩ : ∃ y : Int64, y4.toInt64 = y := ⟨_, rfl⟩
    refine lv_i2l (v := x_1) hx hb dX12_readsNumber_63 ex_1 ?_
    have q_1 : x_1.toInt = y4.toInt := by rw [← ex_1]; exact Int32.toInt_toInt64 _
    refine lv_lconst (v := 1) hx hb dX12_readsNumber_64 (by decide) ?_
    refine lv_ldc2 (v := 3) hx hb hown (hts _ qw_1206) dX12_readsNumber_65 ?_
    refine th_Si (As := [.long x_1, .long 1, .long 3]) (rest := []) E hml hl.1 (f_in l D cI cS τ ρ hW Hc hTc x_1 1 3) lk_X12_54 yd_X12_in hSc (fun _ h => h.elim) ⟨by decide, by decide⟩ (Nat.le_of_ble_eq_true rfl) ⟨by decide, by decide⟩ rfl dX12_readsNumber_68 (fun r_2 H_2 locs_2 p_2 hT_2 hk_2 hS_2 => ?_)
    obtain ⟨rfl, p_2_0, p_2_1⟩ := p_2
    have c1 : (1 : Int64).toInt = 1 := by decide
    have c3 : (3 : Int64).toInt = 3 := by decide
    rw [q_1, hy, c1, c3] at p_2_1
    refine lv_if_eq (tgt := 117) hx hb dX12_readsNumber_71 (by decide) (fun c_3 => ?_) (fun c_3 => ?_)
    · have f_3 : r_2.toInt = 0 := r_eq rfl (by decide) c_3
      refine lv_iconst (v := 0) hx hb dX12_readsNumber_117 (by decide) ?_
      refine lv_istore (lv' := [(5, .int 0), (0, .ref a0), (1, .int x0), (2, .int x1), (3, .int x2), (4, .int y4)]) hx hb dX12_readsNumber_118 hl (by decide) rfl (fun ls hl => ?_)
      refine lv_aload_n hx hb dX12_readsNumber_120 rfl (lv_at hl 1 rfl) ?_
      refine lv_dup hx hb dX12_readsNumber_121 rfl ?_
      refine gf_X12_44 E hT_2 ha0 dX12_readsNumber_122 ?_
      refine lv_iconst (v := 1) hx hb dX12_readsNumber_125 (by decide) ?_
      refine lv_iadd hx hb dX12_readsNumber_126 ?_
      refine lv_topi (fun x_4 ex_4 => ?_)
      have q_4 : x_4.toInt = (h : Int) + d + 1 := i_pl he (b := 1) (by decide) ex_4 (by omega) (by omega)
      refine pf_X12_44 E hT_2 hS_2 ha0 rfl dX12_readsNumber_127 (fun H_4 locs_4 hT_4 hU_4 hS_4 => ?_)
      refine lv_iload hx hb dX12_readsNumber_130 (lv_at hl 0 rfl) ?_
      exact th_zret E hr hlk hs (Or.inl rfl) hT_4 hS_4 ⟨Or.inl rfl, by rw [hd]; exact RN.of hU_4 q_4 ht hf (ST0 (by omega))⟩ dX12_readsNumber_132
    · have f_3 : ¬ r_2.toInt = 0 := r_ne rfl (by decide) c_3
      refine lv_aload_n hx hb dX12_readsNumber_74 rfl (lv_at hl 0 rfl) ?_
      refine gf_X12_58 E hT_2 ha0 dX12_readsNumber_75 ?_
      refine lv_topi (fun x_7 ex_7 => ?_)
      have e_7 : x_7.toInt = vl T h d := (congrArg Int32.toInt ex_7).trans ht
      obtain ⟨x_8, ex_8⟩ : ∃ y : Int64, x_7.toInt64 = y := ⟨_, rfl⟩
      refine lv_i2l (v := x_8) hx hb dX12_readsNumber_78 ex_8 ?_
      have q_8 : x_8.toInt = x_7.toInt := by rw [← ex_8]; exact Int32.toInt_toInt64 _
      refine lv_iload_n hx hb dX12_readsNumber_79 rfl (lv_at hl 1 rfl) ?_
      refine lv_i2l (v := x0.toInt64) hx hb dX12_readsNumber_80 rfl ?_
      refine lv_iload_n hx hb dX12_readsNumber_81 rfl (lv_at hl 2 rfl) ?_
      refine lv_i2l (v := x1.toInt64) hx hb dX12_readsNumber_82 rfl ?_
      refine th_Si (As := [.long x_8, .long x0.toInt64, .long x1.toInt64]) (rest := []) E hml hl.1 (f_in l D cI cS τ ρ hW Hc hT_2 x_8 x0.toInt64 x1.toInt64) lk_X12_54 yd_X12_in hS_2 (fun _ h => h.elim) ⟨by decide, by decide⟩ (Nat.le_of_ble_eq_true rfl) ⟨by decide, by decide⟩ rfl dX12_readsNumber_83 (fun r_11 H_11 locs_11 p_11 hT_11 hk_11 hS_11 => ?_)
      obtain ⟨rfl, p_11_0, p_11_1⟩ := p_11
      rw [q_8, e_7, Int32.toInt_toInt64, Int32.toInt_toInt64] at p_11_1
      refine lv_if_eq (tgt := 117) hx hb dX12_readsNumber_86 (by decide) (fun c_12 => ?_) (fun c_12 => ?_)
      · have f_12 : r_11.toInt = 0 := r_eq rfl (by decide) c_12
        refine lv_iconst (v := 0) hx hb dX12_readsNumber_117 (by decide) ?_
        refine lv_istore (lv' := [(5, .int 0), (0, .ref a0), (1, .int x0), (2, .int x1), (3, .int x2), (4, .int y4)]) hx hb dX12_readsNumber_118 hl (by decide) rfl (fun ls hl => ?_)
        refine lv_aload_n hx hb dX12_readsNumber_120 rfl (lv_at hl 1 rfl) ?_
        refine lv_dup hx hb dX12_readsNumber_121 rfl ?_
        refine gf_X12_44 E hT_11 ha0 dX12_readsNumber_122 ?_
        refine lv_iconst (v := 1) hx hb dX12_readsNumber_125 (by decide) ?_
        refine lv_iadd hx hb dX12_readsNumber_126 ?_
        refine lv_topi (fun x_15 ex_15 => ?_)
        have q_15 : x_15.toInt = (h : Int) + d + 1 := i_pl he (b := 1) (by decide) ex_15 (by omega) (by omega)
        refine pf_X12_44 E hT_11 hS_11 ha0 rfl dX12_readsNumber_127 (fun H_15 locs_15 hT_15 hU_15 hS_15 => ?_)
        refine lv_iload hx hb dX12_readsNumber_130 (lv_at hl 0 rfl) ?_
        exact th_zret E hr hlk hs (Or.inl rfl) hT_15 hS_15 ⟨Or.inl rfl, by rw [hd]; exact RN.of hU_15 q_15 ht hf (ST0 (by omega))⟩ dX12_readsNumber_132
      · have f_12 : ¬ r_11.toInt = 0 := r_ne rfl (by decide) c_12
        refine lv_aload_n hx hb dX12_readsNumber_89 rfl (lv_at hl 0 rfl) ?_
        refine gf_X12_44 E hT_11 ha0 dX12_readsNumber_90 ?_
        refine lv_aload_n hx hb dX12_readsNumber_93 rfl (lv_at hl 0 rfl) ?_
        refine gf_X12_47 E hT_11 ha0 dX12_readsNumber_94 ?_
        refine lv_icmp_ge (tgt := 117) hx hb dX12_readsNumber_97 (by decide) (fun c_18 => ?_) (fun c_18 => ?_)
        · have f_18 : (n : Int) ≤ (h : Int) + d := r_le hlen he c_18
          refine lv_iconst (v := 0) hx hb dX12_readsNumber_117 (by decide) ?_
          refine lv_istore (lv' := [(5, .int 0), (0, .ref a0), (1, .int x0), (2, .int x1), (3, .int x2), (4, .int y4)]) hx hb dX12_readsNumber_118 hl (by decide) rfl (fun ls hl => ?_)
          refine lv_aload_n hx hb dX12_readsNumber_120 rfl (lv_at hl 1 rfl) ?_
          refine lv_dup hx hb dX12_readsNumber_121 rfl ?_
          refine gf_X12_44 E hT_11 ha0 dX12_readsNumber_122 ?_
          refine lv_iconst (v := 1) hx hb dX12_readsNumber_125 (by decide) ?_
          refine lv_iadd hx hb dX12_readsNumber_126 ?_
          refine lv_topi (fun x_20 ex_20 => ?_)
          have q_20 : x_20.toInt = (h : Int) + d + 1 := i_pl he (b := 1) (by decide) ex_20 (by omega) (by omega)
          refine pf_X12_44 E hT_11 hS_11 ha0 rfl dX12_readsNumber_127 (fun H_20 locs_20 hT_20 hU_20 hS_20 => ?_)
          refine lv_iload hx hb dX12_readsNumber_130 (lv_at hl 0 rfl) ?_
          exact th_zret E hr hlk hs (Or.inl rfl) hT_20 hS_20 ⟨Or.inl rfl, by rw [hd]; exact RN.of hU_20 q_20 ht hf (ST0 (by omega))⟩ dX12_readsNumber_132
        · have f_18 : (h : Int) + d < (n : Int) := r_nle hlen he c_18
          refine lv_aload_n hx hb dX12_readsNumber_100 rfl (lv_at hl 0 rfl) ?_
          refine gf_X12_22 E hT_11 hW ha0 dX12_readsNumber_101 (fun h_21 => ?_)
          refine lv_aload_n hx hb dX12_readsNumber_104 rfl (lv_at hl 0 rfl) ?_
          refine gf_X12_44 E hT_11 ha0 dX12_readsNumber_105 ?_
          refine th_iald E hT_11 h_21 (by decide) (vp_in_iff.mpr ⟨by omega, by omega⟩) dX12_readsNumber_108 ?_
          refine th_topi (y := T (h + d)) (by rw [i_nat (i := h + d) (by omega)]; exact hco (h + d) (by omega)) ?_
          refine lv_iload_n hx hb dX12_readsNumber_109 rfl (lv_at hl 3 rfl) ?_
          refine lv_icmp_ne (tgt := 117) hx hb dX12_readsNumber_110 (by decide) (fun c_23 => ?_) (fun c_23 => ?_)
          · skip
            refine lv_iconst (v := 0) hx hb dX12_readsNumber_117 (by decide) ?_
            refine lv_istore (lv' := [(5, .int 0), (0, .ref a0), (1, .int x0), (2, .int x1), (3, .int x2), (4, .int y4)]) hx hb dX12_readsNumber_118 hl (by decide) rfl (fun ls hl => ?_)
            refine lv_aload_n hx hb dX12_readsNumber_120 rfl (lv_at hl 1 rfl) ?_
            refine lv_dup hx hb dX12_readsNumber_121 rfl ?_
            refine gf_X12_44 E hT_11 ha0 dX12_readsNumber_122 ?_
            refine lv_iconst (v := 1) hx hb dX12_readsNumber_125 (by decide) ?_
            refine lv_iadd hx hb dX12_readsNumber_126 ?_
            refine lv_topi (fun x_25 ex_25 => ?_)
            have q_25 : x_25.toInt = (h : Int) + d + 1 := i_pl he (b := 1) (by decide) ex_25 (by omega) (by omega)
            refine pf_X12_44 E hT_11 hS_11 ha0 rfl dX12_readsNumber_127 (fun H_25 locs_25 hT_25 hU_25 hS_25 => ?_)
            refine lv_iload hx hb dX12_readsNumber_130 (lv_at hl 0 rfl) ?_
            exact th_zret E hr hlk hs (Or.inl rfl) hT_25 hS_25 ⟨Or.inl rfl, by rw [hd]; exact RN.of hU_25 q_25 ht hf (ST0 (fun q => c_23 q.2.2.2.2.2))⟩ dX12_readsNumber_132
          · skip
            refine lv_iconst (v := 1) hx hb dX12_readsNumber_113 (by decide) ?_
            refine lv_goto (tgt := 118) hx hb dX12_readsNumber_114 (by decide) ?_
            refine lv_istore (lv' := [(5, .int 1), (0, .ref a0), (1, .int x0), (2, .int x1), (3, .int x2), (4, .int y4)]) hx hb dX12_readsNumber_118 hl (by decide) rfl (fun ls hl => ?_)
            refine lv_aload_n hx hb dX12_readsNumber_120 rfl (lv_at hl 1 rfl) ?_
            refine lv_dup hx hb dX12_readsNumber_121 rfl ?_
            refine gf_X12_44 E hT_11 ha0 dX12_readsNumber_122 ?_
            refine lv_iconst (v := 1) hx hb dX12_readsNumber_125 (by decide) ?_
            refine lv_iadd hx hb dX12_readsNumber_126 ?_
            refine lv_topi (fun x_27 ex_27 => ?_)
            have q_27 : x_27.toInt = (h : Int) + d + 1 := i_pl he (b := 1) (by decide) ex_27 (by omega) (by omega)
            refine pf_X12_44 E hT_11 hS_11 ha0 rfl dX12_readsNumber_127 (fun H_27 locs_27 hT_27 hU_27 hS_27 => ?_)
            refine lv_iload hx hb dX12_readsNumber_130 (lv_at hl 0 rfl) ?_
            exact th_zret E hr hlk hs (Or.inr rfl) hT_27 hS_27 ⟨Or.inr rfl, by rw [hd]; exact RN.of hU_27 q_27 ht hf (ST1 ⟨by omega, by omega, by omega, by omega, by omega, c_23⟩)⟩ dX12_readsNumber_132
  have L_8 : ∀ (k d : Nat) (Hc : Heap) (lc : List Loc) (ls : Array Slot) (y4 : Int32), d + k = 4 → (∀ q, q < d → fg T n (h + q)) → RX D ρ T n Hc a0 → y4.toInt = (d : Nat) → (fi D 12 10 Hc a0).toInt = (h : Int) + (d : Nat) → (fi D 12 11 Hc a0).toInt = vl T h d → (∀ k, k < 16 → k ≠ 10 → k ≠ 11 → fi D 12 k Hc a0 = fi D 12 k H a0) → TH D cI cS τ ρ Hc → SS (fun q => q = a0) H Hc lc → lv_has ls 6 [(0, .ref a0), (1, .int x0), (2, .int x1), (3, .int x2), (4, .int y4)] → W p l e (rmO 2 45) s m args below meth c Hc lc 0 0 (MQ below (va_Qi (fun (r : Int32) (u : Heap) => (r = 0 ∨ r = 1) ∧ RN D T n h (dc T n h 4) x0 x1 x2 H u a0 r) (Bt D cI cS τ ρ H) (fun q => q = a0)) args s 0 0 (fun q => q = a0)) (F0 m 8 ls []) := by
    intro k
    induction k with
    | zero =>
      intro d Hc lc ls y4 hk hg hX hy he ht hf hTc hSc hl
      refine lv_aload_n hx hb dX12_readsNumber_8 rfl (lv_at hl 0 rfl) ?_
      refine th_Vi (As := []) (rest := []) E hml hl.1 (f_isFigure l D cI cS τ ρ hW Hc hTc a0 ha0 T n (h + d) hX (by omega)) lk_X12_61 yd_X12_isFigure hTc ha0 rfl (by decide) hSc (fun _ h => h.elim) ⟨by decide, by decide⟩ (Nat.le_of_ble_eq_true rfl) ⟨by decide, by decide⟩ rfl dX12_readsNumber_9 (fun r_28 H_28 locs_28 p_28 hT_28 hk_28 hS_28 => ?_)
      obtain ⟨rfl, p_28_0, p_28_1⟩ := p_28
      refine lv_if_eq (tgt := 61) hx hb dX12_readsNumber_12 (by decide) (fun c_29 => ?_) (fun c_29 => ?_)
      · have nf : ¬ fg T n (h + d) := fun q => by
          have := p_28_1.mpr q
          rw [this] at c_29
          exact absurd c_29 (by decide)
        exact J_61 Hc locs_28 _ y4 d (dc_of 4 h d (by omega) hg (Or.inr nf)) (by omega) hX hy he ht hf hT_28 hS_28 hl
      · have yf : fg T n (h + d) := p_28_1.mp (p_28_0.resolve_left c_29)
        refine lv_iload hx hb dX12_readsNumber_15 (lv_at hl 4 rfl) ?_
        refine lv_iconst (v := 4) hx hb dX12_readsNumber_17 (by decide) ?_
        refine lv_icmp_ge (tgt := 61) hx hb dX12_readsNumber_18 (by decide) (fun c_30 => ?_) (fun c_30 => ?_)
        · have f_30 : 4 ≤ y4.toInt := r_le (by decide) rfl c_30
          exact J_61 Hc locs_28 _ y4 d (dc_of 4 h d (by omega) hg (Or.inl (by omega))) (by omega) hX hy he ht hf hT_28 hS_28 hl
        · have f_30 : y4.toInt < 4 := r_nle (by decide) rfl c_30
          omega
    | succ k ih_8 =>
      intro d Hc lc ls y4 hk hg hX hy he ht hf hTc hSc hl
      refine lv_aload_n hx hb dX12_readsNumber_8 rfl (lv_at hl 0 rfl) ?_
      refine th_Vi (As := []) (rest := []) E hml hl.1 (f_isFigure l D cI cS τ ρ hW Hc hTc a0 ha0 T n (h + d) hX (by omega)) lk_X12_61 yd_X12_isFigure hTc ha0 rfl (by decide) hSc (fun _ h => h.elim) ⟨by decide, by decide⟩ (Nat.le_of_ble_eq_true rfl) ⟨by decide, by decide⟩ rfl dX12_readsNumber_9 (fun r_28 H_28 locs_28 p_28 hT_28 hk_28 hS_28 => ?_)
      obtain ⟨rfl, p_28_0, p_28_1⟩ := p_28
      refine lv_if_eq (tgt := 61) hx hb dX12_readsNumber_12 (by decide) (fun c_29 => ?_) (fun c_29 => ?_)
      · have nf : ¬ fg T n (h + d) := fun q => by
          have := p_28_1.mpr q
          rw [this] at c_29
          exact absurd c_29 (by decide)
        exact J_61 Hc locs_28 _ y4 d (dc_of 4 h d (by omega) hg (Or.inr nf)) (by omega) hX hy he ht hf hT_28 hS_28 hl
      · have yf : fg T n (h + d) := p_28_1.mp (p_28_0.resolve_left c_29)
        refine lv_iload hx hb dX12_readsNumber_15 (lv_at hl 4 rfl) ?_
        refine lv_iconst (v := 4) hx hb dX12_readsNumber_17 (by decide) ?_
        refine lv_icmp_ge (tgt := 61) hx hb dX12_readsNumber_18 (by decide) (fun c_30 => ?_) (fun c_30 => ?_)
        · have f_30 : 4 ≤ y4.toInt := r_le (by decide) rfl c_30
          omega
        · have hco := hX.2.2
          have hbj := vl_bd (T := T) (n := n) (i := h) d hg
          have hbn := bd3 d (by omega)
          have hn2 := yf.1
          have hfa := yf.2.1
          have hfb := yf.2.2
          refine lv_aload_n hx hb dX12_readsNumber_21 rfl (lv_at hl 0 rfl) ?_
          refine lv_bipush (v := 10) hx hb dX12_readsNumber_22 (by decide) ?_
          refine lv_aload_n hx hb dX12_readsNumber_24 rfl (lv_at hl 0 rfl) ?_
          refine gf_X12_58 E hT_28 ha0 dX12_readsNumber_25 ?_
          refine lv_imul hx hb dX12_readsNumber_28 ?_
          refine lv_topi (fun x_32 ex_32 => ?_)
          have e_32 : x_32.toInt = 10 * vl T h d := i_ml (x := 10) (a := 10) (by decide) ht ex_32 (by omega) (by omega)
          refine lv_aload_n hx hb dX12_readsNumber_29 rfl (lv_at hl 0 rfl) ?_
          refine gf_X12_22 E hT_28 hW ha0 dX12_readsNumber_30 (fun h_33 => ?_)
          refine lv_aload_n hx hb dX12_readsNumber_33 rfl (lv_at hl 0 rfl) ?_
          refine gf_X12_44 E hT_28 ha0 dX12_readsNumber_34 ?_
          refine th_iald E hT_28 h_33 (by decide) (vp_in_iff.mpr ⟨by omega, by omega⟩) dX12_readsNumber_37 ?_
          refine th_topi (y := T (h + d)) (by rw [i_nat (i := h + d) (by omega)]; exact hco (h + d) (by omega)) ?_
          refine lv_iadd hx hb dX12_readsNumber_38 ?_
          refine lv_topi (fun x_36 ex_36 => ?_)
          have e_36 : x_36.toInt = 10 * vl T h d + (T (h + d)).toInt := i_pl e_32 rfl ex_36 (by omega) (by omega)
          refine lv_bipush (v := 48) hx hb dX12_readsNumber_39 (by decide) ?_
          refine lv_isub hx hb dX12_readsNumber_41 ?_
          refine lv_topi (fun x_37 ex_37 => ?_)
          have e_37 : x_37.toInt = vl T h (d + 1) := i_mi e_36 (b := 48) (by decide) ex_37 (by omega) (by omega)
          refine pf_X12_58 E hT_28 hS_28 ha0 rfl dX12_readsNumber_42 (fun H_38 locs_38 hT_38 hU_38 hS_38 => ?_)
          obtain ⟨x_39, ex_39⟩ : ∃ y : Int32, y4 + 1 = y := ⟨_, rfl⟩
          have q_39 : x_39.toInt = y4.toInt + 1 := i_add (k := 1) (by decide) ex_39 (by omega) (by omega)
          refine lv_iinc (v := x_39) (lv' := [(4, .int x_39), (0, .ref a0), (1, .int x0), (2, .int x1), (3, .int x2)]) hx hb dX12_readsNumber_45 hl (k := 4) rfl (by rw [← ex_39]; rfl) (by decide) rfl (fun ls hl => ?_)
          refine lv_aload_n hx hb dX12_readsNumber_48 rfl (lv_at hl 1 rfl) ?_
          refine lv_dup hx hb dX12_readsNumber_49 rfl ?_
          refine gf_X12_44 E hT_38 ha0 dX12_readsNumber_50 ?_
          refine th_topi (y := fi D 12 10 Hc a0) (PU.io hU_38 (j := 10) (by decide) (by decide)) ?_
          refine lv_iconst (v := 1) hx hb dX12_readsNumber_53 (by decide) ?_
          refine lv_iadd hx hb dX12_readsNumber_54 ?_
          refine lv_topi (fun x_40 ex_40 => ?_)
          have q_40 : x_40.toInt = (h : Int) + d + 1 := i_pl he (b := 1) (by decide) ex_40 (by omega) (by omega)
          refine pf_X12_44 E hT_38 hS_38 ha0 rfl dX12_readsNumber_55 (fun H_41 locs_41 hT_41 hU_41 hS_41 => ?_)
          refine lv_goto (tgt := 8) hx hb dX12_readsNumber_58 (by decide) ?_
          have hf41 : ∀ k, k < 16 → k ≠ 10 → k ≠ 11 → fi D 12 k H_41 a0 = fi D 12 k Hc a0 := fun k hk h1 h2 => (hU_41.io (j := k) hk h1).trans (hU_38.io (j := k) hk h2)
          have hX41 : RX D ρ T n H_41 a0 := hX.q (hf41 5 (by decide) (by decide) (by decide)) ((hU_41.2.2 _ n4).trans (hU_38.2.2 _ n4))
          exact ih_8 (d + 1) H_41 locs_41 _ x_39 (by omega) (fun q hq => by
            by_cases z : q = d
            · rw [z]; exact yf
            · exact hg q (by omega)) hX41 (by omega) (by rw [hU_41.i]; omega) (by rw [hU_41.io (j := 11) (by decide) (by decide), hU_38.i]; exact e_37) (fun k hk h1 h2 => (hf41 k hk h1 h2).trans (hf k hk h1 h2)) hT_41 hS_41 (lv_sub hl [1, 2, 3, 4, 0] rfl)
  refine lv_iconst (v := 0) hx hb dX12_readsNumber_0 (by decide) ?_
  refine lv_istore (lv' := [(4, .int 0), (0, .ref a0), (1, .int x0), (2, .int x1), (3, .int x2)]) hx hb dX12_readsNumber_1 hl (by decide) rfl (fun ls hl => ?_)
  refine lv_aload_n hx hb dX12_readsNumber_3 rfl (lv_at hl 1 rfl) ?_
  refine lv_iconst (v := 0) hx hb dX12_readsNumber_4 (by decide) ?_
  refine pf_X12_58 E hT hS ha0 rfl dX12_readsNumber_5 (fun H_42 locs_42 hT_42 hU_42 hS_42 => ?_)
  exact L_8 4 0 H_42 locs_42 _ 0 (by omega) (fun q hq => by omega) (hX.q (hU_42.io (j := 5) (by decide) (by decide)) (hU_42.2.2 _ n4)) (by decide) (by rw [hU_42.io (j := 10) (by decide) (by decide), hh]; omega) (by rw [hU_42.i]; rfl) (fun k hk h1 h2 => hU_42.io (j := k) hk h2) hT_42 hS_42 (lv_sub hl [1, 2, 3, 4, 0] rfl)
section ITR
variable {T : Nat → Int32} {n st : Nat}
/-- a letter with one number: what the reference's look answers is what item says -/
theorem itr1 {c lo hi : Int} {x2 : Int32} (hx : x2.toInt = 59) (hc : (T st).toInt = c) (hq : (c = 112 ∧ lo = 1 ∧ hi = 8) ∨ (c = 98 ∧ lo = 2 ∧ hi = 32) ∨ (c = 108 ∧ lo = 1 ∧ hi = 20)) :
    ((1 ≤ dc T n (st + 1) 4 ∧ dc T n (st + 1) 4 ≤ 3 ∧ lo ≤ vl T (st + 1) (dc T n (st + 1) 4) ∧ vl T (st + 1) (dc T n (st + 1) 4) ≤ hi ∧ st + 1 + dc T n (st + 1) 4 < n ∧ T (st + 1 + dc T n (st + 1) 4) = x2) → item T n st = (st : Int) + 1 + dc T n (st + 1) 4 + 1 ∧ dc T n (st + 1) 3 = dc T n (st + 1) 4) ∧
    (¬ (1 ≤ dc T n (st + 1) 4 ∧ dc T n (st + 1) 4 ≤ 3 ∧ lo ≤ vl T (st + 1) (dc T n (st + 1) 4) ∧ vl T (st + 1) (dc T n (st + 1) 4) ≤ hi ∧ st + 1 + dc T n (st + 1) 4 < n ∧ T (st + 1 + dc T n (st + 1) 4) = x2) → item T n st = -4) := by
  have hT : ∀ j, T j = x2 ↔ (T j).toInt = 59 := fun j => ⟨fun q => by rw [q]; exact hx, fun q => Int32.toInt_inj.mp (q.trans hx.symm)⟩
  rw [hT]
  rcases dc_43 (T := T) (n := n) (st + 1) with ⟨h3, e⟩ | ⟨h4, e, hf⟩
  · unfold item
    rw [if_neg (by omega), e]
    refine ⟨fun q => ⟨?_, rfl⟩, fun q => ?_⟩
    · rw [if_pos (by omega)]; omega
    · rw [if_neg (by omega)]
  · have hf2 := hf.2.2
    unfold item
    rw [if_neg (by omega), e, h4]
    refine ⟨fun q => by omega, fun q => ?_⟩
    rw [if_neg (by omega)]
/-- the letter f's two numbers -/
theorem itr2 {x2 y2 : Int32} (hx : x2.toInt = 44) (hy : y2.toInt = 59) (hc : (T st).toInt = 102) :
    (¬ (1 ≤ dc T n (st + 1) 4 ∧ dc T n (st + 1) 4 ≤ 3 ∧ 0 ≤ vl T (st + 1) (dc T n (st + 1) 4) ∧ vl T (st + 1) (dc T n (st + 1) 4) ≤ 255 ∧ st + 1 + dc T n (st + 1) 4 < n ∧ T (st + 1 + dc T n (st + 1) 4) = x2) → item T n st = -4) ∧
    ((1 ≤ dc T n (st + 1) 4 ∧ dc T n (st + 1) 4 ≤ 3 ∧ 0 ≤ vl T (st + 1) (dc T n (st + 1) 4) ∧ vl T (st + 1) (dc T n (st + 1) 4) ≤ 255 ∧ st + 1 + dc T n (st + 1) 4 < n ∧ T (st + 1 + dc T n (st + 1) 4) = x2) → ∀ g, g = st + 1 + dc T n (st + 1) 4 + 1 →
      ((1 ≤ dc T n g 4 ∧ dc T n g 4 ≤ 3 ∧ 0 ≤ vl T g (dc T n g 4) ∧ vl T g (dc T n g 4) ≤ 255 ∧ g + dc T n g 4 < n ∧ T (g + dc T n g 4) = y2) → item T n st = (g : Int) + dc T n g 4 + 1) ∧
      (¬ (1 ≤ dc T n g 4 ∧ dc T n g 4 ≤ 3 ∧ 0 ≤ vl T g (dc T n g 4) ∧ vl T g (dc T n g 4) ≤ 255 ∧ g + dc T n g 4 < n ∧ T (g + dc T n g 4) = y2) → item T n st = -4)) := by
  have hT : ∀ j, T j = x2 ↔ (T j).toInt = 44 := fun j => ⟨fun q => by rw [q]; exact hx, fun q => Int32.toInt_inj.mp (q.trans hx.symm)⟩
  have hS : ∀ j, T j = y2 ↔ (T j).toInt = 59 := fun j => ⟨fun q => by rw [q]; exact hy, fun q => Int32.toInt_inj.mp (q.trans hy.symm)⟩
  have b1 := vl_bd (T := T) (n := n) (i := st + 1) (dc T n (st + 1) 4) (fun k hk => dc_fg 4 (st + 1) k hk)
  rcases dc_43 (T := T) (n := n) (st + 1) with ⟨h3, e⟩ | ⟨h4, e, hf⟩
  · refine ⟨fun q => ?_, fun q g hg => ?_⟩
    · rw [hT] at q
      unfold item
      rw [if_pos hc, e, if_neg (by omega)]
    · rw [hT] at q
      have b2 := vl_bd (T := T) (n := n) (i := g) (dc T n g 4) (fun k hk => dc_fg 4 g k hk)
      rw [hS]
      unfold item
      rw [if_pos hc, e, ← hg]
      rcases dc_43 (T := T) (n := n) g with ⟨h5, e2⟩ | ⟨h6, e2, hf2⟩
      · rw [e2]
        refine ⟨fun z => ?_, fun z => ?_⟩
        · rw [if_pos (by omega)]; omega
        · rw [if_neg (by omega)]
      · have hf3 := hf2.2.2
        rw [e2, h6]
        exact ⟨fun z => by omega, fun z => by rw [if_neg (by omega)]⟩
  · have hf1 := hf.2.1
    refine ⟨fun q => ?_, fun q => by omega⟩
    unfold item
    rw [if_pos hc, e, if_neg (by omega)]
end ITR
