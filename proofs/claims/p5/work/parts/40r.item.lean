/-! the reference's look at one item, at all of them: what item and flt say -/
/-- the bounds of what has been read -/
def VB (D : va_G) (H : Heap) (a : Nat) : Prop := 1 ≤ (fi D 12 12 H a).toInt ∧ (fi D 12 12 H a).toInt ≤ 8 ∧ 2 ≤ (fi D 12 13 H a).toInt ∧ (fi D 12 13 H a).toInt ≤ 32 ∧ 1 ≤ (fi D 12 14 H a).toInt ∧ (fi D 12 14 H a).toInt ≤ 20
def RI (D : va_G) (T : Nat → Int32) (n s : Nat) (H u : Heap) (a : Nat) (r : Int32) : Prop := (∀ k, k < 10 → fi D 12 k u a = fi D 12 k H a) ∧ ((r.toInt = 0 ∧ item T n s = -4) ∨ (r.toInt = 1 ∧ 0 ≤ item T n s ∧ (fi D 12 10 u a).toInt = item T n s ∧ (fi D 12 12 u a).toInt = itv T n s 112 (fi D 12 12 H a).toInt ∧ (fi D 12 13 u a).toInt = itv T n s 98 (fi D 12 13 H a).toInt ∧ (VB D H a → VB D u a)))
theorem itv_y {T : Nat → Int32} {n s : Nat} {c v : Int} (h : (T s).toInt = c) : itv T n s c v = vl T (s + 1) (dc T n (s + 1) 3) := by unfold itv; rw [if_pos h]
theorem itv_n {T : Nat → Int32} {n s : Nat} {c v : Int} (h : ¬ (T s).toInt = c) : itv T n s c v = v := by unfold itv; rw [if_neg h]
section RIT
variable {D : va_G} {T : Nat → Int32} {n st : Nat} {H H5 H7 H9 u : Heap} {a0 : Nat} {r x0 x1 x2 x4 x8 : Int32}
theorem RI.one {c lo hi : Int} {kf : Nat} (hq : (c = 112 ∧ lo = 1 ∧ hi = 8 ∧ kf = 12) ∨ (c = 98 ∧ lo = 2 ∧ hi = 32 ∧ kf = 13) ∨ (c = 108 ∧ lo = 1 ∧ hi = 20 ∧ kf = 14)) (hc : (T st).toInt = c) (hU5 : PU D 12 10 H H5 a0 (.int x4))
    (hR : RN D T n (st + 1) (dc T n (st + 1) 4) x0 x1 x2 H5 H7 a0 r) (h0 : x0.toInt = lo) (h1 : x1.toInt = hi) (h2 : x2.toInt = 59) (hr : r = 0 ∨ r = 1) (hU9 : PU D 12 kf H7 H9 a0 (.int x8)) (e8 : x8 = fi D 12 11 H7 a0) : RI D T n st H H9 a0 r := by
  obtain ⟨q1, q2, q3, q4⟩ := hR
  rw [h0, h1] at q3
  have i1 := itr1 (T := T) (n := n) (st := st) (c := c) (lo := lo) (hi := hi) h2 hc (by omega)
  have hb := b_iv hr
  have kk : ∀ k, k < 15 → k ≠ 10 → k ≠ 11 → k ≠ kf → fi D 12 k H9 a0 = fi D 12 k H a0 := fun k h h10 h11 hk => (hU9.io (j := k) (show k < 16 by omega) hk).trans ((q4 k (by omega) h10 h11).trans (hU5.io (j := k) (show k < 16 by omega) h10))
  refine ⟨fun k hk => kk k (by omega) (by omega) (by omega) (by omega), ?_⟩
  by_cases z : 1 ≤ dc T n (st + 1) 4 ∧ dc T n (st + 1) 4 ≤ 3 ∧ lo ≤ vl T (st + 1) (dc T n (st + 1) 4) ∧ vl T (st + 1) (dc T n (st + 1) 4) ≤ hi ∧ st + 1 + dc T n (st + 1) 4 < n ∧ T (st + 1 + dc T n (st + 1) 4) = x2
  · right
    have i2 := i1.1 z
    have e10 : (fi D 12 10 H9 a0).toInt = (fi D 12 10 H7 a0).toInt := congrArg Int32.toInt (hU9.io (j := 10) (show 10 < 16 by omega) (by omega))
    have ev : x8.toInt = vl T (st + 1) (dc T n (st + 1) 3) := by rw [e8, q2, i2.2]
    have ev4 : x8.toInt = vl T (st + 1) (dc T n (st + 1) 4) := by rw [e8, q2]
    refine ⟨q3.mpr z, by omega, by rw [e10, q1]; omega, ?_⟩
    rcases hq with ⟨rfl, rfl, rfl, rfl⟩ | ⟨rfl, rfl, rfl, rfl⟩ | ⟨rfl, rfl, rfl, rfl⟩
    · have k13 := kk 13 (by decide) (by decide) (by decide) (by decide)
      have k14 := kk 14 (by decide) (by decide) (by decide) (by decide)
      have k12 : fi D 12 12 H9 a0 = x8 := hU9.i
      unfold VB
      rw [itv_y hc, itv_n (c := 98) (by omega), k12, k13, k14]
      exact ⟨ev, rfl, fun h => by omega⟩
    · have k12 := kk 12 (by decide) (by decide) (by decide) (by decide)
      have k14 := kk 14 (by decide) (by decide) (by decide) (by decide)
      have k13 : fi D 12 13 H9 a0 = x8 := hU9.i
      unfold VB
      rw [itv_y hc, itv_n (c := 112) (by omega), k12, k13, k14]
      exact ⟨rfl, ev, fun h => by omega⟩
    · have k12 := kk 12 (by decide) (by decide) (by decide) (by decide)
      have k13 := kk 13 (by decide) (by decide) (by decide) (by decide)
      have k14 : fi D 12 14 H9 a0 = x8 := hU9.i
      unfold VB
      rw [itv_n (c := 98) (by omega), itv_n (c := 112) (by omega), k12, k13, k14]
      exact ⟨rfl, rfl, fun h => by omega⟩
  · left
    have : ¬ r.toInt = 1 := fun q => z (q3.mp q)
    exact ⟨by omega, i1.2 z⟩
/-- the letter f: its first number doesn't go -/
theorem RI.two0 (hc : (T st).toInt = 102) (hU5 : PU D 12 10 H H5 a0 (.int x4)) (hR : RN D T n (st + 1) (dc T n (st + 1) 4) x0 x1 x2 H5 H7 a0 r) (h0 : x0.toInt = 0) (h1 : x1.toInt = 255) (h2 : x2.toInt = 44) (hr : r.toInt = 0) (e : ∀ k, fi D 12 k u a0 = fi D 12 k H7 a0) : RI D T n st H u a0 0 := by
  obtain ⟨q1, q2, q3, q4⟩ := hR
  rw [h0, h1] at q3
  refine ⟨fun k hk => (e k).trans ((q4 k (by omega) (by omega) (by omega)).trans (hU5.io (j := k) (show k < 16 by omega) (by omega))), Or.inl ⟨by decide, ?_⟩⟩
  exact (itr2 (T := T) (n := n) (st := st) (x2 := x2) (y2 := 59) h2 (by decide) hc).1 (fun z => by have := q3.mpr z; omega)
/-- the letter f: its second number is looked at -/
theorem RI.two1 {g : Nat} {H10 H13 H17 : Heap} {r2 y0 y1 y2 v : Int32} (hc : (T st).toInt = 102) (hU5 : PU D 12 10 H H5 a0 (.int x4)) (hR : RN D T n (st + 1) (dc T n (st + 1) 4) x0 x1 x2 H5 H10 a0 r) (h0 : x0.toInt = 0) (h1 : x1.toInt = 255) (h2 : x2.toInt = 44) (hr : r.toInt = 1) (hg : g = st + 1 + dc T n (st + 1) 4 + 1)
    (e13 : ∀ k, fi D 12 k H13 a0 = fi D 12 k H10 a0) (hR2 : RN D T n g (dc T n g 4) y0 y1 y2 H13 H17 a0 r2) (g0 : y0.toInt = 0) (g1 : y1.toInt = 255) (g2 : y2.toInt = 59) (hv : (r2.toInt = 0 ∧ v = 0) ∨ (r2.toInt = 1 ∧ v = 1)) (e : ∀ k, fi D 12 k u a0 = fi D 12 k H17 a0) : RI D T n st H u a0 v := by
  obtain ⟨q1, q2, q3, q4⟩ := hR
  obtain ⟨p1, p2, p3, p4⟩ := hR2
  rw [h0, h1] at q3
  rw [g0, g1] at p3
  have kk : ∀ k, k < 15 → k ≠ 10 → k ≠ 11 → fi D 12 k u a0 = fi D 12 k H a0 := fun k h h10 h11 => (e k).trans ((p4 k (by omega) h10 h11).trans ((e13 k).trans ((q4 k (by omega) h10 h11).trans (hU5.io (j := k) (show k < 16 by omega) h10))))
  have it := (itr2 (T := T) (n := n) (st := st) (x2 := x2) (y2 := y2) h2 g2 hc).2 (q3.mp hr) g hg
  refine ⟨fun k hk => kk k (by omega) (by omega) (by omega), ?_⟩
  rcases hv with ⟨z, rfl⟩ | ⟨z, rfl⟩
  · exact Or.inl ⟨by decide, it.2 (fun w => by have := p3.mpr w; omega)⟩
  · have k12 := kk 12 (by decide) (by decide) (by decide)
    have k13 := kk 13 (by decide) (by decide) (by decide)
    have k14 := kk 14 (by decide) (by decide) (by decide)
    refine Or.inr ⟨by decide, by have := it.1 (p3.mp z); omega, (by rw [e 10, p1]; have := it.1 (p3.mp z); omega), ?_⟩
    unfold VB
    rw [itv_n (c := 98) (by omega), itv_n (c := 112) (by omega), k12, k13, k14]
    exact ⟨rfl, rfl, fun h => h⟩
end RIT
set_option maxHeartbeats 4000000 in
set_option maxRecDepth 100000 in
/-- StreamEndsModel.readsItem -/
theorem f_readsItem (l : Launch) (D : va_G) (cI cS : ClassId) (τ : Nat → Option Nat) (ρ : Nat → Nat → Nat) (hW : WF τ ρ) (H : Heap) (hT : TH D cI cS τ ρ H) (a0 : Nat) (ha0 : τ a0 = some 12) (T : Nat → Int32) (n st : Nat) (hX : RX D ρ T n H a0) (hh : (fi D 12 10 H a0).toInt = st) (hin : st < n) : MI l D cI cS τ ρ yX12_readsItem cX12_readsItem 3 (some .boolean) 3 70 H [.ref a0] (fun (r : Int32) (u : Heap) => (r = 0 ∨ r = 1) ∧ RI D T n st H u a0 r) (fun q => q = a0 ∨ q = ρ a0 15) := by
  refine MI.of (by decide) (Nat.le_of_ble_eq_true rfl) ?_
  intro p e s m args below meth c E hml hr hlk hs ls hl
  have hx := E.1
  have hb := E.2.1
  have hown := E.2.2.1
  have hts := E.2.2.2.1
  have hS : SS (fun q => q = a0 ∨ q = ρ a0 15) H H [] := SS.rf
  have hl : lv_has ls 3 [(0, .ref a0)] := hl
  obtain ⟨hn, hlen, hco⟩ := hX
  have hX : RX D ρ T n H a0 := ⟨hn, hlen, hco⟩
  refine lv_aload_n hx hb dX12_readsItem_0 rfl (lv_at hl 0 rfl) ?_
  refine gf_X12_22 E hT hW ha0 dX12_readsItem_1 (fun h_1 => ?_)
  refine lv_aload_n hx hb dX12_readsItem_4 rfl (lv_at hl 0 rfl) ?_
  refine gf_X12_44 E hT ha0 dX12_readsItem_5 ?_
  refine lv_topi (fun x_2 ex_2 => ?_)
  have e_2 : x_2.toInt = (fi D 12 10 H a0).toInt := congrArg Int32.toInt ex_2
  refine th_iald E hT h_1 (by decide) (vp_in_iff.mpr ⟨by omega, by omega⟩) dX12_readsItem_8 ?_
  refine th_topi (y := T st) (by rw [i_nat (i := st) (by omega)]; exact hco st hin) ?_
  refine lv_topi (fun x_3 ex_3 => ?_)
  refine lv_istore_n (lv' := [(1, .int x_3), (0, .ref a0)]) hx hb dX12_readsItem_9 rfl hl (by decide) rfl (fun ls hl => ?_)
  refine lv_aload_n hx hb dX12_readsItem_10 rfl (lv_at hl 1 rfl) ?_
  refine lv_dup hx hb dX12_readsItem_11 rfl ?_
  refine gf_X12_44 E hT ha0 dX12_readsItem_12 ?_
  refine th_topi (y := x_2) ex_2.symm ?_
  refine lv_iconst (v := 1) hx hb dX12_readsItem_15 (by decide) ?_
  refine lv_iadd hx hb dX12_readsItem_16 ?_
  refine lv_topi (fun x_4 ex_4 => ?_)
  have q_4 : x_4.toInt = x_2.toInt + 1 := i_pl rfl (by decide) ex_4 (by omega) (by omega)
  refine pf_X12_44 E hT hS ha0 (Or.inl rfl) dX12_readsItem_17 (fun H_5 locs_5 hT_5 hU_5 hS_5 => ?_)
  have e4 : x_4.toInt = ((st + 1 : Nat) : Int) := by omega
  have hX5 : RX D ρ T n H_5 a0 := hX.q (hU_5.io (j := 5) (by decide) (by decide)) (hU_5.2.2 _ (th_ne (hW _ 12 4 ha0 (by decide) (by decide) (by decide)) ha0 (by decide)))
  have h10 : (fi D 12 10 H_5 a0).toInt = ((st + 1 : Nat) : Int) := by rw [hU_5.i]; exact e4
  refine lv_iload_n hx hb dX12_readsItem_20 rfl (lv_at hl 0 rfl) ?_
  by_cases k6_98 : x_3 = 98
  · refine th_topi k6_98 ?_
    refine lv_lookup (tgt := 84) hx hb dX12_readsItem_21 (by decide) rfl (by decide) ?_
    have kc6_98 : x_3.toInt = 98 := r_eq rfl (by decide) k6_98
    have hc : (T st).toInt = 98 := by rw [← ex_3]; exact kc6_98
    refine lv_aload_n hx hb dX12_readsItem_84 rfl (lv_at hl 1 rfl) ?_
    refine lv_iconst (v := 2) hx hb dX12_readsItem_85 (by decide) ?_
    refine lv_bipush (v := 32) hx hb dX12_readsItem_86 (by decide) ?_
    refine lv_bipush (v := 59) hx hb dX12_readsItem_88 (by decide) ?_
    refine th_Vi (As := [.int 2, .int 32, .int 59]) (rest := []) E hml hl.1 (f_readsNumber l D cI cS τ ρ hW H_5 hT_5 a0 ha0 2 32 59 T n (st + 1) hX5 h10 (by omega)) lk_X12_67 yd_X12_readsNumber hT_5 ha0 rfl (by decide) hS_5 (fun q h => (Or.inl h)) ⟨by decide, by decide⟩ (Nat.le_of_ble_eq_true rfl) ⟨by decide, by decide⟩ rfl dX12_readsItem_90 (fun r_7 H_7 locs_7 p_7 hT_7 hk_7 hS_7 => ?_)
    obtain ⟨pb_7, p_7⟩ := p_7
    have z_7 := b_iv pb_7
    refine lv_istore_n (lv' := [(2, .int r_7), (1, .int x_3), (0, .ref a0)]) hx hb dX12_readsItem_93 rfl hl (by decide) rfl (fun ls hl => ?_)
    refine lv_aload_n hx hb dX12_readsItem_94 rfl (lv_at hl 2 rfl) ?_
    refine lv_aload_n hx hb dX12_readsItem_95 rfl (lv_at hl 2 rfl) ?_
    refine gf_X12_58 E hT_7 ha0 dX12_readsItem_96 ?_
    refine lv_topi (fun x_8 ex_8 => ?_)
    have e_8 : x_8.toInt = (fi D 12 11 H_7 a0).toInt := congrArg Int32.toInt ex_8
    refine pf_X12_74 E hT_7 hS_7 ha0 (Or.inl rfl) dX12_readsItem_99 (fun H_9 locs_9 hT_9 hU_9 hS_9 => ?_)
    refine lv_iload_n hx hb dX12_readsItem_102 rfl (lv_at hl 0 rfl) ?_
    exact th_zret E hr hlk hs pb_7 hT_9 hS_9 ⟨pb_7, RI.one (c := 98) (lo := 2) (hi := 32) (by omega) hc hU_5 p_7 (by decide) (by decide) (by decide) pb_7 hU_9 ex_8⟩ dX12_readsItem_103
  by_cases k6_102 : x_3 = 102
  · refine th_topi k6_102 ?_
    refine lv_lookup (tgt := 124) hx hb dX12_readsItem_21 (by decide) rfl (by decide) ?_
    have kc6_102 : x_3.toInt = 102 := r_eq rfl (by decide) k6_102
    have hc : (T st).toInt = 102 := by rw [← ex_3]; exact kc6_102
    refine lv_aload_n hx hb dX12_readsItem_124 rfl (lv_at hl 1 rfl) ?_
    refine lv_iconst (v := 0) hx hb dX12_readsItem_125 (by decide) ?_
    refine lv_sipush (v := 255) hx hb dX12_readsItem_126 (by decide) ?_
    refine lv_bipush (v := 44) hx hb dX12_readsItem_129 (by decide) ?_
    refine th_Vi (As := [.int 0, .int 255, .int 44]) (rest := []) E hml hl.1 (f_readsNumber l D cI cS τ ρ hW H_5 hT_5 a0 ha0 0 255 44 T n (st + 1) hX5 h10 (by omega)) lk_X12_67 yd_X12_readsNumber hT_5 ha0 rfl (by decide) hS_5 (fun q h => (Or.inl h)) ⟨by decide, by decide⟩ (Nat.le_of_ble_eq_true rfl) ⟨by decide, by decide⟩ rfl dX12_readsItem_131 (fun r_10 H_10 locs_10 p_10 hT_10 hk_10 hS_10 => ?_)
    obtain ⟨pb_10, p_10⟩ := p_10
    have z_10 := b_iv pb_10
    refine lv_istore_n (lv' := [(2, .int r_10), (1, .int x_3), (0, .ref a0)]) hx hb dX12_readsItem_134 rfl hl (by decide) rfl (fun ls hl => ?_)
    refine lv_aload_n hx hb dX12_readsItem_135 rfl (lv_at hl 2 rfl) ?_
    refine gf_X12_38 E hT_10 hW ha0 dX12_readsItem_136 (fun h_11 => ?_)
    refine lv_iconst (v := 0) hx hb dX12_readsItem_139 (by decide) ?_
    refine lv_aload_n hx hb dX12_readsItem_140 rfl (lv_at hl 2 rfl) ?_
    refine gf_X12_58 E hT_10 ha0 dX12_readsItem_141 ?_
    refine lv_topi (fun x_12 ex_12 => ?_)
    have e_12 : x_12.toInt = (fi D 12 11 H_10 a0).toInt := congrArg Int32.toInt ex_12
    refine th_iast E hT_10 hS_10 h_11 (Or.inr rfl) (by decide) (vp_in_iff.mpr ⟨by decide, by decide⟩) dX12_readsItem_144 (fun H_13 locs_13 hT_13 hU_13 hS_13 => ?_)
    have hU_13 : AU 2 H_10 H_13 (ρ a0 15) 0 x_12 := hU_13
    have e13 : ∀ k, fi D 12 k H_13 a0 = fi D 12 k H_10 a0 := fun k => fi_q (hU_13.2 _ (th_ne ha0 (hW _ 12 15 ha0 (by decide) (by decide) (by decide)) (by decide)))
    refine lv_iload_n hx hb dX12_readsItem_145 rfl (lv_at hl 0 rfl) ?_
    refine lv_if_eq (tgt := 166) hx hb dX12_readsItem_146 (by decide) (fun c_14 => ?_) (fun c_14 => ?_)
    · have f_14 : r_10.toInt = 0 := r_eq rfl (by decide) c_14
      refine lv_iconst (v := 0) hx hb dX12_readsItem_166 (by decide) ?_
      refine lv_istore_n (lv' := [(2, .int 0), (1, .int x_3), (0, .ref a0)]) hx hb dX12_readsItem_167 rfl hl (by decide) rfl (fun ls hl => ?_)
      refine lv_aload_n hx hb dX12_readsItem_168 rfl (lv_at hl 2 rfl) ?_
      refine gf_X12_38 E hT_13 hW ha0 dX12_readsItem_169 (fun h_15 => ?_)
      refine lv_iconst (v := 1) hx hb dX12_readsItem_172 (by decide) ?_
      refine lv_aload_n hx hb dX12_readsItem_173 rfl (lv_at hl 2 rfl) ?_
      refine gf_X12_58 E hT_13 ha0 dX12_readsItem_174 ?_
      refine th_topi (y := x_12) ((e13 11).trans ex_12.symm) ?_
      refine th_iast E hT_13 hS_13 h_15 (Or.inr rfl) (by decide) (vp_in_iff.mpr ⟨by decide, by decide⟩) dX12_readsItem_177 (fun H_16 locs_16 hT_16 hU_16 hS_16 => ?_)
      have hU_16 : AU 2 H_13 H_16 (ρ a0 15) 1 x_12 := hU_16
      have e16 : ∀ k, fi D 12 k H_16 a0 = fi D 12 k H_13 a0 := fun k => fi_q (hU_16.2 _ (th_ne ha0 (hW _ 12 15 ha0 (by decide) (by decide) (by decide)) (by decide)))
      refine lv_iload_n hx hb dX12_readsItem_178 rfl (lv_at hl 0 rfl) ?_
      exact th_zret E hr hlk hs (Or.inl rfl) hT_16 hS_16 ⟨Or.inl rfl, RI.two0 hc hU_5 p_10 (by decide) (by decide) (by decide) f_14 (fun k => (e16 k).trans (e13 k))⟩ dX12_readsItem_179
    · have f_14 : ¬ r_10.toInt = 0 := r_ne rfl (by decide) c_14
      have nz_r_10 : ¬ r_10 = 0 := c_14
      refine lv_aload_n hx hb dX12_readsItem_149 rfl (lv_at hl 2 rfl) ?_
      refine lv_iconst (v := 0) hx hb dX12_readsItem_150 (by decide) ?_
      refine lv_sipush (v := 255) hx hb dX12_readsItem_151 (by decide) ?_
      refine lv_bipush (v := 59) hx hb dX12_readsItem_154 (by decide) ?_
      have hr1 : r_10.toInt = 1 := by omega
      have d4 := dc_le (T := T) (n := n) 4 (st + 1)
      have hX13 : RX D ρ T n H_13 a0 := hX5.q ((e13 5).trans (p_10.2.2.2 5 (by decide) (by decide) (by decide))) ((hU_13.2 _ (th_ne (hW _ 12 4 ha0 (by decide) (by decide) (by decide)) (hW _ 12 15 ha0 (by decide) (by decide) (by decide)) (by decide))).trans (hk_10 _ (th_ne (hW _ 12 4 ha0 (by decide) (by decide) (by decide)) ha0 (by decide))))
      refine th_Vi (As := [.int 0, .int 255, .int 59]) (rest := []) E hml hl.1 (f_readsNumber l D cI cS τ ρ hW H_13 hT_13 a0 ha0 0 255 59 T n (st + 1 + dc T n (st + 1) 4 + 1) hX13 (by rw [e13 10, p_10.1]; omega) (by omega)) lk_X12_67 yd_X12_readsNumber hT_13 ha0 rfl (by decide) hS_13 (fun q h => (Or.inl h)) ⟨by decide, by decide⟩ (Nat.le_of_ble_eq_true rfl) ⟨by decide, by decide⟩ rfl dX12_readsItem_156 (fun r_17 H_17 locs_17 p_17 hT_17 hk_17 hS_17 => ?_)
      obtain ⟨pb_17, p_17⟩ := p_17
      have z_17 := b_iv pb_17
      refine lv_if_eq (tgt := 166) hx hb dX12_readsItem_159 (by decide) (fun c_18 => ?_) (fun c_18 => ?_)
      · have f_18 : r_17.toInt = 0 := r_eq rfl (by decide) c_18
        refine lv_iconst (v := 0) hx hb dX12_readsItem_166 (by decide) ?_
        refine lv_istore_n (lv' := [(2, .int 0), (1, .int x_3), (0, .ref a0)]) hx hb dX12_readsItem_167 rfl hl (by decide) rfl (fun ls hl => ?_)
        refine lv_aload_n hx hb dX12_readsItem_168 rfl (lv_at hl 2 rfl) ?_
        refine gf_X12_38 E hT_17 hW ha0 dX12_readsItem_169 (fun h_19 => ?_)
        refine lv_iconst (v := 1) hx hb dX12_readsItem_172 (by decide) ?_
        refine lv_aload_n hx hb dX12_readsItem_173 rfl (lv_at hl 2 rfl) ?_
        refine gf_X12_58 E hT_17 ha0 dX12_readsItem_174 ?_
        refine lv_topi (fun x_20 ex_20 => ?_)
        have e_20 : x_20.toInt = (fi D 12 11 H_17 a0).toInt := congrArg Int32.toInt ex_20
        refine th_iast E hT_17 hS_17 h_19 (Or.inr rfl) (by decide) (vp_in_iff.mpr ⟨by decide, by decide⟩) dX12_readsItem_177 (fun H_21 locs_21 hT_21 hU_21 hS_21 => ?_)
        have hU_21 : AU 2 H_17 H_21 (ρ a0 15) 1 x_20 := hU_21
        have e21 : ∀ k, fi D 12 k H_21 a0 = fi D 12 k H_17 a0 := fun k => fi_q (hU_21.2 _ (th_ne ha0 (hW _ 12 15 ha0 (by decide) (by decide) (by decide)) (by decide)))
        refine lv_iload_n hx hb dX12_readsItem_178 rfl (lv_at hl 0 rfl) ?_
        exact th_zret E hr hlk hs (Or.inl rfl) hT_21 hS_21 ⟨Or.inl rfl, RI.two1 hc hU_5 p_10 (by decide) (by decide) (by decide) hr1 rfl e13 p_17 (by decide) (by decide) (by decide) (Or.inl ⟨f_18, rfl⟩) e21⟩ dX12_readsItem_179
      · have f_18 : ¬ r_17.toInt = 0 := r_ne rfl (by decide) c_18
        have nz_r_17 : ¬ r_17 = 0 := c_18
        refine lv_iconst (v := 1) hx hb dX12_readsItem_162 (by decide) ?_
        refine lv_goto (tgt := 167) hx hb dX12_readsItem_163 (by decide) ?_
        refine lv_istore_n (lv' := [(2, .int 1), (1, .int x_3), (0, .ref a0)]) hx hb dX12_readsItem_167 rfl hl (by decide) rfl (fun ls hl => ?_)
        refine lv_aload_n hx hb dX12_readsItem_168 rfl (lv_at hl 2 rfl) ?_
        refine gf_X12_38 E hT_17 hW ha0 dX12_readsItem_169 (fun h_22 => ?_)
        refine lv_iconst (v := 1) hx hb dX12_readsItem_172 (by decide) ?_
        refine lv_aload_n hx hb dX12_readsItem_173 rfl (lv_at hl 2 rfl) ?_
        refine gf_X12_58 E hT_17 ha0 dX12_readsItem_174 ?_
        refine lv_topi (fun x_23 ex_23 => ?_)
        have e_23 : x_23.toInt = (fi D 12 11 H_17 a0).toInt := congrArg Int32.toInt ex_23
        refine th_iast E hT_17 hS_17 h_22 (Or.inr rfl) (by decide) (vp_in_iff.mpr ⟨by decide, by decide⟩) dX12_readsItem_177 (fun H_24 locs_24 hT_24 hU_24 hS_24 => ?_)
        have hU_24 : AU 2 H_17 H_24 (ρ a0 15) 1 x_23 := hU_24
        have e24 : ∀ k, fi D 12 k H_24 a0 = fi D 12 k H_17 a0 := fun k => fi_q (hU_24.2 _ (th_ne ha0 (hW _ 12 15 ha0 (by decide) (by decide) (by decide)) (by decide)))
        refine lv_iload_n hx hb dX12_readsItem_178 rfl (lv_at hl 0 rfl) ?_
        exact th_zret E hr hlk hs (Or.inr rfl) hT_24 hS_24 ⟨Or.inr rfl, RI.two1 hc hU_5 p_10 (by decide) (by decide) (by decide) hr1 rfl e13 p_17 (by decide) (by decide) (by decide) (Or.inr ⟨by omega, rfl⟩) e24⟩ dX12_readsItem_179
  by_cases k6_108 : x_3 = 108
  · refine th_topi k6_108 ?_
    refine lv_lookup (tgt := 104) hx hb dX12_readsItem_21 (by decide) rfl (by decide) ?_
    have kc6_108 : x_3.toInt = 108 := r_eq rfl (by decide) k6_108
    have hc : (T st).toInt = 108 := by rw [← ex_3]; exact kc6_108
    refine lv_aload_n hx hb dX12_readsItem_104 rfl (lv_at hl 1 rfl) ?_
    refine lv_iconst (v := 1) hx hb dX12_readsItem_105 (by decide) ?_
    refine lv_bipush (v := 20) hx hb dX12_readsItem_106 (by decide) ?_
    refine lv_bipush (v := 59) hx hb dX12_readsItem_108 (by decide) ?_
    refine th_Vi (As := [.int 1, .int 20, .int 59]) (rest := []) E hml hl.1 (f_readsNumber l D cI cS τ ρ hW H_5 hT_5 a0 ha0 1 20 59 T n (st + 1) hX5 h10 (by omega)) lk_X12_67 yd_X12_readsNumber hT_5 ha0 rfl (by decide) hS_5 (fun q h => (Or.inl h)) ⟨by decide, by decide⟩ (Nat.le_of_ble_eq_true rfl) ⟨by decide, by decide⟩ rfl dX12_readsItem_110 (fun r_25 H_25 locs_25 p_25 hT_25 hk_25 hS_25 => ?_)
    obtain ⟨pb_25, p_25⟩ := p_25
    have z_25 := b_iv pb_25
    refine lv_istore_n (lv' := [(2, .int r_25), (1, .int x_3), (0, .ref a0)]) hx hb dX12_readsItem_113 rfl hl (by decide) rfl (fun ls hl => ?_)
    refine lv_aload_n hx hb dX12_readsItem_114 rfl (lv_at hl 2 rfl) ?_
    refine lv_aload_n hx hb dX12_readsItem_115 rfl (lv_at hl 2 rfl) ?_
    refine gf_X12_58 E hT_25 ha0 dX12_readsItem_116 ?_
    refine lv_topi (fun x_26 ex_26 => ?_)
    have e_26 : x_26.toInt = (fi D 12 11 H_25 a0).toInt := congrArg Int32.toInt ex_26
    refine pf_X12_77 E hT_25 hS_25 ha0 (Or.inl rfl) dX12_readsItem_119 (fun H_27 locs_27 hT_27 hU_27 hS_27 => ?_)
    refine lv_iload_n hx hb dX12_readsItem_122 rfl (lv_at hl 0 rfl) ?_
    exact th_zret E hr hlk hs pb_25 hT_27 hS_27 ⟨pb_25, RI.one (c := 108) (lo := 1) (hi := 20) (by omega) hc hU_5 p_25 (by decide) (by decide) (by decide) pb_25 hU_27 ex_26⟩ dX12_readsItem_123
  by_cases k6_112 : x_3 = 112
  · refine th_topi k6_112 ?_
    refine lv_lookup (tgt := 64) hx hb dX12_readsItem_21 (by decide) rfl (by decide) ?_
    have kc6_112 : x_3.toInt = 112 := r_eq rfl (by decide) k6_112
    have hc : (T st).toInt = 112 := by rw [← ex_3]; exact kc6_112
    refine lv_aload_n hx hb dX12_readsItem_64 rfl (lv_at hl 1 rfl) ?_
    refine lv_iconst (v := 1) hx hb dX12_readsItem_65 (by decide) ?_
    refine lv_bipush (v := 8) hx hb dX12_readsItem_66 (by decide) ?_
    refine lv_bipush (v := 59) hx hb dX12_readsItem_68 (by decide) ?_
    refine th_Vi (As := [.int 1, .int 8, .int 59]) (rest := []) E hml hl.1 (f_readsNumber l D cI cS τ ρ hW H_5 hT_5 a0 ha0 1 8 59 T n (st + 1) hX5 h10 (by omega)) lk_X12_67 yd_X12_readsNumber hT_5 ha0 rfl (by decide) hS_5 (fun q h => (Or.inl h)) ⟨by decide, by decide⟩ (Nat.le_of_ble_eq_true rfl) ⟨by decide, by decide⟩ rfl dX12_readsItem_70 (fun r_28 H_28 locs_28 p_28 hT_28 hk_28 hS_28 => ?_)
    obtain ⟨pb_28, p_28⟩ := p_28
    have z_28 := b_iv pb_28
    refine lv_istore_n (lv' := [(2, .int r_28), (1, .int x_3), (0, .ref a0)]) hx hb dX12_readsItem_73 rfl hl (by decide) rfl (fun ls hl => ?_)
    refine lv_aload_n hx hb dX12_readsItem_74 rfl (lv_at hl 2 rfl) ?_
    refine lv_aload_n hx hb dX12_readsItem_75 rfl (lv_at hl 2 rfl) ?_
    refine gf_X12_58 E hT_28 ha0 dX12_readsItem_76 ?_
    refine lv_topi (fun x_29 ex_29 => ?_)
    have e_29 : x_29.toInt = (fi D 12 11 H_28 a0).toInt := congrArg Int32.toInt ex_29
    refine pf_X12_71 E hT_28 hS_28 ha0 (Or.inl rfl) dX12_readsItem_79 (fun H_30 locs_30 hT_30 hU_30 hS_30 => ?_)
    refine lv_iload_n hx hb dX12_readsItem_82 rfl (lv_at hl 0 rfl) ?_
    exact th_zret E hr hlk hs pb_28 hT_30 hS_30 ⟨pb_28, RI.one (c := 112) (lo := 1) (hi := 8) (by omega) hc hU_5 p_28 (by decide) (by decide) (by decide) pb_28 hU_30 ex_29⟩ dX12_readsItem_83
  have n6_98 := i_ne k6_98 (k := 98) (by decide)
  have n6_102 := i_ne k6_102 (k := 102) (by decide)
  have n6_108 := i_ne k6_108 (k := 108) (by decide)
  have n6_112 := i_ne k6_112 (k := 112) (by decide)
  refine lv_lookup (tgt := 180) hx hb dX12_readsItem_21 (off := 159) (by decide) (by show Op.lookupswitch.offset [(98, 63), (102, 103), (108, 83), (112, 43)] _ _ = _; rw [lv_osw k6_98 (by decide), lv_osw k6_102 (by decide), lv_osw k6_108 (by decide), lv_osw k6_112 (by decide)]; rfl) (by decide) ?_
  refine lv_iconst (v := 0) hx hb dX12_readsItem_180 (by decide) ?_
  have it0 : item T n st = -4 := by
    have h3 := congrArg Int32.toInt ex_3
    unfold item
    rw [if_neg (by omega), if_neg (by omega)]
  exact th_zret E hr hlk hs (Or.inl rfl) hT_5 hS_5 ⟨Or.inl rfl, fun k hk => hU_5.io (j := k) (show k < 16 by omega) (by omega), Or.inl ⟨by decide, it0⟩⟩ dX12_readsItem_181
set_option maxHeartbeats 4000000 in
set_option maxRecDepth 100000 in
/-- StreamEndsModel.reads -/
theorem f_reads (l : Launch) (D : va_G) (cI cS : ClassId) (τ : Nat → Option Nat) (ρ : Nat → Nat → Nat) (hW : WF τ ρ) (H : Heap) (hT : TH D cI cS τ ρ H) (a0 : Nat) (ha0 : τ a0 = some 12) (T : Nat → Int32) (n : Nat) (hX : RX D ρ T n H a0) : MI l D cI cS τ ρ yX12_reads cX12_reads 2 (some .int) 4 92 H [.ref a0] (fun (r : Int32) (u : Heap) => r.toInt = (flt T n (n + 1) 0 4 16).1 ∧ ((flt T n (n + 1) 0 4 16).1 = -4 → (fi D 12 12 u a0).toInt = (flt T n (n + 1) 0 4 16).2.1 ∧ (fi D 12 13 u a0).toInt = (flt T n (n + 1) 0 4 16).2.2 ∧ VB D u a0) ∧ ∀ k, k < 10 → fi D 12 k u a0 = fi D 12 k H a0) (fun q => q = a0 ∨ q = ρ a0 15) := by
  refine MI.of (by decide) (Nat.le_of_ble_eq_true rfl) ?_
  intro p e s m args below meth c E hml hr hlk hs ls hl
  have hx := E.1
  have hb := E.2.1
  have hown := E.2.2.1
  have hts := E.2.2.2.1
  have hS : SS (fun q => q = a0 ∨ q = ρ a0 15) H H [] := SS.rf
  have hl : lv_has ls 2 [(0, .ref a0)] := hl
  have n4 : ¬ (ρ a0 4 = a0 ∨ ρ a0 4 = ρ a0 15) := fun h => h.elim (th_ne (hW _ 12 4 ha0 (by decide) (by decide) (by decide)) ha0 (by decide)) (th_ne (hW _ 12 4 ha0 (by decide) (by decide) (by decide)) (hW _ 12 15 ha0 (by decide) (by decide) (by decide)) (by decide))
  have L_35 : ∀ (f : Nat) (Hc : Heap) (lc : List Loc) (ls : Array Slot) (g : Int32) (st : Nat), RX D ρ T n Hc a0 → fi D 12 10 Hc a0 = g → g.toInt = st → st ≤ n → n < st + f → (flt T n (n + 1) 0 4 16 = flt T n f st (fi D 12 12 Hc a0).toInt (fi D 12 13 Hc a0).toInt) → VB D Hc a0 → (∀ k, k < 10 → fi D 12 k Hc a0 = fi D 12 k H a0) → TH D cI cS τ ρ Hc → SS (fun q => q = a0 ∨ q = ρ a0 15) H Hc lc → lv_has ls 2 [(0, .ref a0)] → W p l e (rmO 4 92) s m args below meth c Hc lc 0 0 (MQ below (va_Qi (fun (r : Int32) (u : Heap) => r.toInt = (flt T n (n + 1) 0 4 16).1 ∧ ((flt T n (n + 1) 0 4 16).1 = -4 → (fi D 12 12 u a0).toInt = (flt T n (n + 1) 0 4 16).2.1 ∧ (fi D 12 13 u a0).toInt = (flt T n (n + 1) 0 4 16).2.2 ∧ VB D u a0) ∧ ∀ k, k < 10 → fi D 12 k u a0 = fi D 12 k H a0) (Bt D cI cS τ ρ H) (fun q => q = a0 ∨ q = ρ a0 15)) args s 0 0 (fun q => q = a0 ∨ q = ρ a0 15)) (F0 m 35 ls []) := by
    intro f
    induction f with
    | zero => intro Hc lc ls g st hX hg hs1 hs2 hs3; exact absurd hs3 (by omega)
    | succ f ih =>
      intro Hc lc ls g st hX hg hs1 hs2 hs3 hF hV hk hTc hSc hl
      have hlen := hX.2.1
      refine lv_aload_n hx hb dX12_reads_35 rfl (lv_at hl 0 rfl) ?_
      refine gf_X12_44 E hTc ha0 dX12_reads_36 ?_
      refine th_topi (y := g) hg ?_
      refine lv_aload_n hx hb dX12_reads_39 rfl (lv_at hl 0 rfl) ?_
      refine gf_X12_47 E hTc ha0 dX12_reads_40 ?_
      refine lv_topi (fun x_1 ex_1 => ?_)
      have e_1 : x_1.toInt = n := (congrArg Int32.toInt ex_1).trans hlen
      refine lv_icmp_ge (tgt := 63) hx hb dX12_reads_43 (by decide) (fun c_2 => ?_) (fun c_2 => ?_)
      · have f_2 : x_1.toInt ≤ g.toInt := r_le rfl rfl c_2
        have hF := hF.trans (flt_ge (by omega))
        refine lv_bipush (v := (-4)) hx hb dX12_reads_63 (by decide) ?_
        exact th_iret E hr hlk hs hTc hSc (by rw [hF]; exact ⟨(by decide : (-4 : Int32).toInt = -4), fun _ => ⟨rfl, rfl, hV⟩, hk⟩) dX12_reads_65
      · have f_2 : g.toInt < x_1.toInt := r_nle rfl rfl c_2
        have hlt : st < n := by omega
        have hgt := item_gt (T := T) (n := n) (s := st)
        refine lv_aload_n hx hb dX12_reads_46 rfl (lv_at hl 0 rfl) ?_
        refine gf_X12_44 E hTc ha0 dX12_reads_47 ?_
        refine th_topi (y := g) hg ?_
        refine lv_istore_n (lv' := [(1, .int g), (0, .ref a0)]) hx hb dX12_reads_50 rfl hl (by decide) rfl (fun ls hl => ?_)
        refine lv_aload_n hx hb dX12_reads_51 rfl (lv_at hl 1 rfl) ?_
        refine th_Vi (As := []) (rest := []) E hml hl.1 (f_readsItem l D cI cS τ ρ hW Hc hTc a0 ha0 T n st hX (by rw [hg]; exact hs1) hlt) lk_X12_80 yd_X12_readsItem hTc ha0 rfl (by decide) hSc (fun q => (fun h => h.elim (fun h => (Or.inl h)) (fun h => (Or.inr h)))) ⟨by decide, by decide⟩ (Nat.le_of_ble_eq_true rfl) ⟨by decide, by decide⟩ rfl dX12_reads_52 (fun r_3 H_3 locs_3 p_3 hT_3 hk_3 hS_3 => ?_)
        obtain ⟨pb_3, pk_3, p_3⟩ := p_3
        have z_3 := b_iv pb_3
        refine lv_if_ne (tgt := 60) hx hb dX12_reads_55 (by decide) (fun c_4 => ?_) (fun c_4 => ?_)
        · have f_4 : ¬ r_3.toInt = 0 := r_ne rfl (by decide) c_4
          have nz_r_3 : ¬ r_3 = 0 := c_4
          refine lv_goto (tgt := 35) hx hb dX12_reads_60 (by decide) ?_
          obtain ⟨p1, p1b, p2, p3, p4, p5⟩ := p_3.resolve_left (fun q => by have := q.1; omega)
          have hX3 : RX D ρ T n H_3 a0 := hX.q (pk_3 5 (by decide)) (hk_3 _ n4)
          have hi0 : 0 ≤ item T n st := p1b
          exact ih H_3 locs_3 _ (fi D 12 10 H_3 a0) (item T n st).toNat hX3 rfl (by omega) (by omega) (by omega) (by rw [p3, p4, hF]; exact flt_go hlt (by omega)) (p5 hV) (fun k h => (pk_3 k h).trans (hk k h)) hT_3 hS_3 (lv_sub hl [1] rfl)
        · have f_4 : r_3.toInt = 0 := r_eq rfl (by decide) c_4
          refine lv_iload_n hx hb dX12_reads_58 rfl (lv_at hl 0 rfl) ?_
          have p_3 := p_3.resolve_right (fun q => by have := q.1; omega)
          have hF := hF.trans (flt_no hlt (by omega))
          exact th_iret E hr hlk hs hT_3 hS_3 (by rw [hF]; exact ⟨hs1, fun q => by have q : (st : Int) = -4 := q; omega, fun k h => (pk_3 k h).trans (hk k h)⟩) dX12_reads_59
  refine lv_aload_n hx hb dX12_reads_0 rfl (lv_at hl 0 rfl) ?_
  refine lv_iconst (v := 4) hx hb dX12_reads_1 (by decide) ?_
  refine pf_X12_71 E hT hS ha0 (Or.inl rfl) dX12_reads_2 (fun H_5 locs_5 hT_5 hU_5 hS_5 => ?_)
  refine lv_aload_n hx hb dX12_reads_5 rfl (lv_at hl 0 rfl) ?_
  refine lv_bipush (v := 16) hx hb dX12_reads_6 (by decide) ?_
  refine pf_X12_74 E hT_5 hS_5 ha0 (Or.inl rfl) dX12_reads_8 (fun H_6 locs_6 hT_6 hU_6 hS_6 => ?_)
  refine lv_aload_n hx hb dX12_reads_11 rfl (lv_at hl 0 rfl) ?_
  refine lv_iconst (v := 5) hx hb dX12_reads_12 (by decide) ?_
  refine pf_X12_77 E hT_6 hS_6 ha0 (Or.inl rfl) dX12_reads_13 (fun H_7 locs_7 hT_7 hU_7 hS_7 => ?_)
  refine lv_aload_n hx hb dX12_reads_16 rfl (lv_at hl 0 rfl) ?_
  refine gf_X12_38 E hT_7 hW ha0 dX12_reads_17 (fun h_8 => ?_)
  refine lv_iconst (v := 0) hx hb dX12_reads_20 (by decide) ?_
  refine lv_iconst (v := 0) hx hb dX12_reads_21 (by decide) ?_
  refine th_iast E hT_7 hS_7 h_8 (Or.inr rfl) (by decide) (vp_in_iff.mpr ⟨by decide, by decide⟩) dX12_reads_22 (fun H_9 locs_9 hT_9 hU_9 hS_9 => ?_)
  have hU_9 : AU 2 H_7 H_9 (ρ a0 15) 0 (0) := hU_9
  have e9 : ∀ k, fi D 12 k H_9 a0 = fi D 12 k H_7 a0 := fun k => fi_q (hU_9.2 _ (th_ne ha0 (hW _ 12 15 ha0 (by decide) (by decide) (by decide)) (by decide)))
  refine lv_aload_n hx hb dX12_reads_23 rfl (lv_at hl 0 rfl) ?_
  refine gf_X12_38 E hT_9 hW ha0 dX12_reads_24 (fun h_10 => ?_)
  refine lv_iconst (v := 1) hx hb dX12_reads_27 (by decide) ?_
  refine lv_iconst (v := 0) hx hb dX12_reads_28 (by decide) ?_
  refine th_iast E hT_9 hS_9 h_10 (Or.inr rfl) (by decide) (vp_in_iff.mpr ⟨by decide, by decide⟩) dX12_reads_29 (fun H_11 locs_11 hT_11 hU_11 hS_11 => ?_)
  have hU_11 : AU 2 H_9 H_11 (ρ a0 15) 1 (0) := hU_11
  have e11 : ∀ k, fi D 12 k H_11 a0 = fi D 12 k H_9 a0 := fun k => fi_q (hU_11.2 _ (th_ne ha0 (hW _ 12 15 ha0 (by decide) (by decide) (by decide)) (by decide)))
  refine lv_aload_n hx hb dX12_reads_30 rfl (lv_at hl 0 rfl) ?_
  refine lv_iconst (v := 0) hx hb dX12_reads_31 (by decide) ?_
  refine pf_X12_44 E hT_11 hS_11 ha0 (Or.inl rfl) dX12_reads_32 (fun H_12 locs_12 hT_12 hU_12 hS_12 => ?_)
  have ek : ∀ k, k < 10 → fi D 12 k H_12 a0 = fi D 12 k H a0 := fun k h => (hU_12.io (j := k) (show k < 16 by omega) (by omega)).trans ((e11 k).trans ((e9 k).trans ((hU_7.io (j := k) (show k < 16 by omega) (by omega)).trans ((hU_6.io (j := k) (show k < 16 by omega) (by omega)).trans (hU_5.io (j := k) (show k < 16 by omega) (by omega))))))
  have k12 : fi D 12 12 H_12 a0 = 4 := (hU_12.io (j := 12) (by decide) (by decide)).trans ((e11 12).trans ((e9 12).trans ((hU_7.io (j := 12) (by decide) (by decide)).trans ((hU_6.io (j := 12) (by decide) (by decide)).trans hU_5.i))))
  have k13 : fi D 12 13 H_12 a0 = 16 := (hU_12.io (j := 13) (by decide) (by decide)).trans ((e11 13).trans ((e9 13).trans ((hU_7.io (j := 13) (by decide) (by decide)).trans hU_6.i)))
  have k14 : fi D 12 14 H_12 a0 = 5 := (hU_12.io (j := 14) (by decide) (by decide)).trans ((e11 14).trans ((e9 14).trans hU_7.i))
  have hX12 : RX D ρ T n H_12 a0 := hX.q (ek 5 (by decide)) ((hU_12.2.2 _ (th_ne (hW _ 12 4 ha0 (by decide) (by decide) (by decide)) ha0 (by decide))).trans ((hU_11.2 _ (th_ne (hW _ 12 4 ha0 (by decide) (by decide) (by decide)) (hW _ 12 15 ha0 (by decide) (by decide) (by decide)) (by decide))).trans ((hU_9.2 _ (th_ne (hW _ 12 4 ha0 (by decide) (by decide) (by decide)) (hW _ 12 15 ha0 (by decide) (by decide) (by decide)) (by decide))).trans ((hU_7.2.2 _ (th_ne (hW _ 12 4 ha0 (by decide) (by decide) (by decide)) ha0 (by decide))).trans ((hU_6.2.2 _ (th_ne (hW _ 12 4 ha0 (by decide) (by decide) (by decide)) ha0 (by decide))).trans (hU_5.2.2 _ (th_ne (hW _ 12 4 ha0 (by decide) (by decide) (by decide)) ha0 (by decide))))))))
  exact L_35 (n + 1) H_12 locs_12 _ 0 0 hX12 hU_12.i (by decide) (by omega) (by omega) (by have c4 : (4 : Int32).toInt = 4 := (by decide); have c16 : (16 : Int32).toInt = 16 := (by decide); rw [k12, k13, c4, c16]) (by unfold VB; rw [k12, k13, k14]; decide) ek hT_12 hS_12 hl
set_option maxHeartbeats 4000000 in
set_option maxRecDepth 100000 in
/-- StreamEndsModel.fault -/
theorem f_fault (l : Launch) (D : va_G) (cI cS : ClassId) (τ : Nat → Option Nat) (ρ : Nat → Nat → Nat) (hW : WF τ ρ) (H : Heap) (hT : TH D cI cS τ ρ H) (a0 : Nat) (ha0 : τ a0 = some 12) (T : Nat → Int32) (n : Nat) (hX : RX D ρ T n H a0) : MI l D cI cS τ ρ yX12_fault cX12_fault 1 (some .int) 5 113 H [.ref a0] (fun (r : Int32) (u : Heap) => r.toInt = (flt T n (n + 1) 0 4 16).1 ∧ ∀ k, k < 10 → fi D 12 k u a0 = fi D 12 k H a0) (fun q => q = a0 ∨ q = ρ a0 15) := by
  refine MI.of (by decide) (Nat.le_of_ble_eq_true rfl) ?_
  intro p e s m args below meth c E hml hr hlk hs ls hl
  have hx := E.1
  have hb := E.2.1
  have hown := E.2.2.1
  have hts := E.2.2.2.1
  have hS : SS (fun q => q = a0 ∨ q = ρ a0 15) H H [] := SS.rf
  have hl : lv_has ls 1 [(0, .ref a0)] := hl
  refine lv_aload_n hx hb dX12_fault_0 rfl (lv_at hl 0 rfl) ?_
  refine th_Vi (As := []) (rest := []) E hml hl.1 (f_reads l D cI cS τ ρ hW H hT a0 ha0 T n hX) lk_X12_87 yd_X12_reads hT ha0 rfl (by decide) hS (fun q => (fun h => h.elim (fun h => (Or.inl h)) (fun h => (Or.inr h)))) ⟨by decide, by decide⟩ (Nat.le_of_ble_eq_true rfl) ⟨by decide, by decide⟩ rfl dX12_fault_1 (fun r_1 H_1 locs_1 p_1 hT_1 hk_1 hS_1 => ?_)
  exact th_iret E hr hlk hs hT_1 hS_1 ⟨p_1.1, p_1.2.2⟩ dX12_fault_4
