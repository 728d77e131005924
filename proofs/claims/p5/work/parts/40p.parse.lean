/-! WHAT A TEXT SAYS: figures, numbers, items, the first fault; T its codes, n its length -/
abbrev fg (T : Nat → Int32) (n i : Nat) : Prop := i < n ∧ 48 ≤ (T i).toInt ∧ (T i).toInt ≤ 57
/-- how many figures stand from i on, at most c -/
def dc (T : Nat → Int32) (n : Nat) : Nat → Nat → Nat
  | _, 0 => 0
  | i, c + 1 => if fg T n i then dc T n (i + 1) c + 1 else 0
/-- the number that k figures from i on make -/
def vl (T : Nat → Int32) (i : Nat) : Nat → Int
  | 0 => 0
  | k + 1 => 10 * vl T i k + (T (i + k)).toInt - 48
def bd : Nat → Int
  | 0 => 0
  | k + 1 => 10 * bd k + 9
section PRS
variable {T : Nat → Int32} {n : Nat}
theorem dc_of : ∀ (c i j : Nat), j ≤ c → (∀ k, k < j → fg T n (i + k)) → (j = c ∨ ¬ fg T n (i + j)) → dc T n i c = j
  | 0, i, j, h, _, _ => by unfold dc; omega
  | c + 1, i, 0, _, _, h => by
    have h : ¬ fg T n i := h.elim (fun q => by omega) id
    unfold dc
    rw [if_neg h]
  | c + 1, i, j + 1, h1, h2, h3 => by
    have a : fg T n i := h2 0 (by omega)
    have b := dc_of c (i + 1) j (by omega) (fun k hk => by rw [show i + 1 + k = i + (k + 1) by omega]; exact h2 (k + 1) (by omega)) (h3.imp (fun q => by omega) (fun q => by rw [show i + 1 + j = i + (j + 1) by omega]; exact q))
    unfold dc
    rw [if_pos a, b]
theorem dc_le : ∀ (c i : Nat), dc T n i c ≤ c
  | 0, i => by unfold dc; omega
  | c + 1, i => by
    have := dc_le c (i + 1)
    unfold dc
    split <;> omega
theorem dc_fg : ∀ (c i k : Nat), k < dc T n i c → fg T n (i + k)
  | 0, i, k, h => by unfold dc at h; omega
  | c + 1, i, 0, h => by
    unfold dc at h
    split at h
    · assumption
    · omega
  | c + 1, i, k + 1, h => by
    unfold dc at h
    split at h
    · rw [show i + (k + 1) = i + 1 + k by omega]; exact dc_fg c (i + 1) k (by omega)
    · omega
theorem dc_stop : ∀ (c i : Nat), dc T n i c = c ∨ ¬ fg T n (i + dc T n i c)
  | 0, i => by unfold dc; omega
  | c + 1, i => by
    have h := dc_stop c (i + 1)
    unfold dc
    split
    · rw [show i + (dc T n (i + 1) c + 1) = i + 1 + dc T n (i + 1) c by omega]; exact h.imp (fun q => by omega) id
    · exact Or.inr (by assumption)
/-- four figures looked at or three: the same number of them, or a fourth stands there -/
theorem dc_43 (i : Nat) : (dc T n i 4 ≤ 3 ∧ dc T n i 3 = dc T n i 4) ∨ (dc T n i 4 = 4 ∧ dc T n i 3 = 3 ∧ fg T n (i + 3)) := by
  have h := dc_le (T := T) (n := n) 4 i
  have hf := dc_fg (T := T) (n := n) 4 i
  by_cases q : dc T n i 4 ≤ 3
  · exact Or.inl ⟨q, dc_of 3 i _ q (fun k hk => hf k hk) ((dc_stop 4 i).imp (fun z => by omega) id)⟩
  · have q4 : dc T n i 4 = 4 := by omega
    exact Or.inr ⟨q4, dc_of 3 i 3 (by omega) (fun k hk => hf k (by omega)) (Or.inl rfl), hf 3 (by omega)⟩
theorem vl_bd {i : Nat} : ∀ (j : Nat), (∀ k, k < j → fg T n (i + k)) → 0 ≤ vl T i j ∧ vl T i j ≤ bd j
  | 0, _ => by unfold vl bd; omega
  | j + 1, h => by
    have a := vl_bd j (fun k hk => h k (by omega))
    have b := (h j (by omega)).2
    unfold vl bd
    omega
theorem bd4 : ∀ j, j ≤ 4 → bd j ≤ 9999 := by decide
theorem bd3 : ∀ j, j ≤ 3 → bd j ≤ 999 := by decide
end PRS
/-- the place behind the item that begins at s, or -4 -/
def item (T : Nat → Int32) (n s : Nat) : Int :=
  if (T s).toInt = 102 then
    if 1 ≤ dc T n (s + 1) 3 ∧ vl T (s + 1) (dc T n (s + 1) 3) ≤ 255 ∧ s + 1 + dc T n (s + 1) 3 < n ∧ (T (s + 1 + dc T n (s + 1) 3)).toInt = 44 ∧ 1 ≤ dc T n (s + 1 + dc T n (s + 1) 3 + 1) 3 ∧ vl T (s + 1 + dc T n (s + 1) 3 + 1) (dc T n (s + 1 + dc T n (s + 1) 3 + 1) 3) ≤ 255 ∧ s + 1 + dc T n (s + 1) 3 + 1 + dc T n (s + 1 + dc T n (s + 1) 3 + 1) 3 < n ∧ (T (s + 1 + dc T n (s + 1) 3 + 1 + dc T n (s + 1 + dc T n (s + 1) 3 + 1) 3)).toInt = 59 then ((s + 1 + dc T n (s + 1) 3 + 1 + dc T n (s + 1 + dc T n (s + 1) 3 + 1) 3 : Nat) : Int) + 1 else -4
  else if 1 ≤ dc T n (s + 1) 3 ∧ s + 1 + dc T n (s + 1) 3 < n ∧ (T (s + 1 + dc T n (s + 1) 3)).toInt = 59 ∧ (((T s).toInt = 112 ∧ 1 ≤ vl T (s + 1) (dc T n (s + 1) 3) ∧ vl T (s + 1) (dc T n (s + 1) 3) ≤ 8) ∨ ((T s).toInt = 98 ∧ 2 ≤ vl T (s + 1) (dc T n (s + 1) 3) ∧ vl T (s + 1) (dc T n (s + 1) 3) ≤ 32) ∨ ((T s).toInt = 108 ∧ 1 ≤ vl T (s + 1) (dc T n (s + 1) 3) ∧ vl T (s + 1) (dc T n (s + 1) 3) ≤ 20)) then ((s + 1 + dc T n (s + 1) 3 : Nat) : Int) + 1 else -4
/-- the letter c's value after the item at s, v before it -/
def itv (T : Nat → Int32) (n s : Nat) (c v : Int) : Int := if (T s).toInt = c then vl T (s + 1) (dc T n (s + 1) 3) else v
/-- from s on, with values p and b of the letters p and b: the first fault or -4, and the values then -/
def flt (T : Nat → Int32) (n : Nat) : Nat → Nat → Int → Int → Int × Int × Int
  | 0, _, p, b => (-4, p, b)
  | f + 1, s, p, b => if s < n then (if item T n s < 0 then (s, p, b) else flt T n f (item T n s).toNat (itv T n s 112 p) (itv T n s 98 b)) else (-4, p, b)
theorem item_gt {T : Nat → Int32} {n s : Nat} : item T n s = -4 ∨ ((s : Int) + 3 ≤ item T n s ∧ item T n s ≤ n) := by
  unfold item
  split <;> split <;> first | (left; rfl) | (right; omega)
/-- the class's text: n codes T -/
def TX (D : va_G) (ρ : Nat → Nat → Nat) (T : Nat → Int32) (n : Nat) (H : Heap) (a : Nat) : Prop := n ≤ 200 ∧ (fi D 9 1 H a).toInt = n ∧ ∀ k, k < n → ai H (ρ a 0) k = T k
theorem TX.q {D : va_G} {ρ : Nat → Nat → Nat} {T : Nat → Int32} {n : Nat} {H H1 : Heap} {a : Nat} (h : TX D ρ T n H a) (e1 : H1[a]? = H[a]?) (e2 : H1[ρ a 0]? = H[ρ a 0]?) : TX D ρ T n H1 a := ⟨h.1, by rw [fi_q e1]; exact h.2.1, fun k hk => by rw [ai_q e2]; exact h.2.2 k hk⟩
theorem AT.nil {τ : Nat → Option Nat} {q : Nat} (h : AT τ [] q) : False := by
  obtain ⟨t, -, m⟩ := h
  cases m
theorem i_nat {x : Int32} {i : Nat} (h : x.toInt = i) : x.toNatClampNeg = i := by
  show x.toInt.toNat = i
  omega
/-- what at answers -/
def AP (T : Nat → Int32) (n i : Nat) (r : Int32) : Prop := (i < n → r = T i) ∧ (n ≤ i → r.toInt = -4)
theorem AP.no {T : Nat → Int32} {n i : Nat} (h : n ≤ i) : AP T n i (-4) := ⟨fun q => by omega, fun _ => by decide⟩
set_option maxHeartbeats 4000000 in
set_option maxRecDepth 100000 in
/-- StreamEnds$Text.at -/
theorem e_at (l : Launch) (D : va_G) (cI cS : ClassId) (τ : Nat → Option Nat) (ρ : Nat → Nat → Nat) (hW : WF τ ρ) (H : Heap) (hT : TH D cI cS τ ρ H) (a0 : Nat) (x0 : Int32) (ha0 : τ a0 = some 9) (T : Nat → Int32) (n i : Nat) (hX : TX D ρ T n H a0) (hi : x0.toInt = i) : MI l D cI cS τ ρ yX9_at cX9_at 2 (some .int) 0 0 H [.ref a0, .int x0] (fun (r : Int32) (u : Heap) => AP T n i r) (AT τ []) := by
  refine MI.of (by decide) (Nat.le_of_ble_eq_true rfl) ?_
  intro p e s m args below meth c E hml hr hlk hs ls hl
  have hx := E.1
  have hb := E.2.1
  have hown := E.2.2.1
  have hts := E.2.2.2.1
  have hS : SS (AT τ []) H H [] := SS.rf
  have hl : lv_has ls 2 [(0, .ref a0), (1, .int x0)] := hl
  obtain ⟨hn, hlen, hco⟩ := hX
  refine lv_iload_n hx hb dX9_at_0 rfl (lv_at hl 1 rfl) ?_
  refine lv_if_lt (tgt := 28) hx hb dX9_at_1 (by decide) (fun c_1 => ?_) (fun c_1 => ?_)
  · have f_1 : x0.toInt < 0 := r_lt rfl (by decide) c_1
    omega
  · refine lv_iload_n hx hb dX9_at_4 rfl (lv_at hl 1 rfl) ?_
    refine lv_aload_n hx hb dX9_at_5 rfl (lv_at hl 0 rfl) ?_
    refine gf_X9_15 E hT ha0 dX9_at_6 ?_
    refine lv_icmp_ge (tgt := 28) hx hb dX9_at_9 (by decide) (fun c_3 => ?_) (fun c_3 => ?_)
    · have f_3 : (n : Int) ≤ x0.toInt := r_le hlen rfl c_3
      refine lv_bipush (v := (-4)) hx hb dX9_at_28 (by decide) ?_
      exact th_iret E hr hlk hs hT hS (AP.no (by omega)) dX9_at_30
    · have f_3 : x0.toInt < (n : Int) := r_nle hlen rfl c_3
      refine lv_iload_n hx hb dX9_at_12 rfl (lv_at hl 1 rfl) ?_
      refine lv_sipush (v := 200) hx hb dX9_at_13 (by decide) ?_
      refine lv_icmp_ge (tgt := 28) hx hb dX9_at_16 (by decide) (fun c_4 => ?_) (fun c_4 => ?_)
      · have f_4 : 200 ≤ x0.toInt := r_le (by decide) rfl c_4
        omega
      · refine lv_aload_n hx hb dX9_at_19 rfl (lv_at hl 0 rfl) ?_
        refine gf_X9_9 E hT hW ha0 dX9_at_20 (fun h_5 => ?_)
        refine lv_iload_n hx hb dX9_at_23 rfl (lv_at hl 1 rfl) ?_
        refine th_iald E hT h_5 (by decide) (vp_in_iff.mpr ⟨by omega, by omega⟩) dX9_at_24 ?_
        refine lv_topi (fun x_6 ex_6 => ?_)
        have e6 : x_6 = T i := by rw [ex_6, i_nat hi]; exact hco i (by omega)
        refine lv_goto (tgt := 30) hx hb dX9_at_25 (by decide) ?_
        exact th_iret E hr hlk hs hT hS ⟨fun _ => e6, fun q => by omega⟩ dX9_at_30
set_option maxHeartbeats 4000000 in
set_option maxRecDepth 100000 in
/-- StreamEnds$Text.isDigit -/
theorem e_isDigit (l : Launch) (D : va_G) (cI cS : ClassId) (τ : Nat → Option Nat) (ρ : Nat → Nat → Nat) (hW : WF τ ρ) (H : Heap) (hT : TH D cI cS τ ρ H) (a0 : Nat) (x0 : Int32) (ha0 : τ a0 = some 9) (T : Nat → Int32) (n i : Nat) (hX : TX D ρ T n H a0) (hi : x0.toInt = i) : MI l D cI cS τ ρ yX9_isDigit cX9_isDigit 3 (some .boolean) 1 21 H [.ref a0, .int x0] (fun (r : Int32) (u : Heap) => (r = 0 ∨ r = 1) ∧ (r = 1 ↔ fg T n i)) (AT τ []) := by
  refine MI.of (by decide) (Nat.le_of_ble_eq_true rfl) ?_
  intro p e s m args below meth c E hml hr hlk hs ls hl
  have hx := E.1
  have hb := E.2.1
  have hown := E.2.2.1
  have hts := E.2.2.2.1
  have hS : SS (AT τ []) H H [] := SS.rf
  have hl : lv_has ls 3 [(0, .ref a0), (1, .int x0)] := hl
  refine lv_aload_n hx hb dX9_isDigit_0 rfl (lv_at hl 0 rfl) ?_
  refine lv_iload_n hx hb dX9_isDigit_1 rfl (lv_at hl 1 rfl) ?_
  refine th_Vi (As := [.int x0]) (rest := []) E hml hl.1 (e_at l D cI cS τ ρ hW H hT a0 x0 ha0 T n i hX hi) lk_X9_19 yd_X9_at hT ha0 rfl (by decide) hS (AT.sub (by decide)) ⟨by decide, by decide⟩ (Nat.le_of_ble_eq_true rfl) ⟨by decide, by decide⟩ rfl dX9_isDigit_2 (fun r_1 H_1 locs_1 p_1 hT_1 hk_1 hS_1 => ?_)
  have z0 : ¬ (0 : Int32) = 1 := by decide
  have no : (r_1.toInt < 48 ∨ 57 < r_1.toInt) → ((0 : Int32) = 1 ↔ fg T n i) := fun q => ⟨fun z => absurd z z0, fun z => by
    have e1 := p_1.1 z.1
    have z2 := z.2
    rw [← e1] at z2
    omega⟩
  refine lv_istore_n (lv' := [(2, .int r_1), (0, .ref a0), (1, .int x0)]) hx hb dX9_isDigit_5 rfl hl (by decide) rfl (fun ls hl => ?_)
  refine lv_iload_n hx hb dX9_isDigit_6 rfl (lv_at hl 0 rfl) ?_
  refine lv_bipush (v := 48) hx hb dX9_isDigit_7 (by decide) ?_
  refine lv_icmp_lt (tgt := 22) hx hb dX9_isDigit_9 (by decide) (fun c_2 => ?_) (fun c_2 => ?_)
  · have f_2 : r_1.toInt < 48 := r_lt rfl (by decide) c_2
    refine lv_iconst (v := 0) hx hb dX9_isDigit_22 (by decide) ?_
    exact th_zret E hr hlk hs (Or.inl rfl) hT_1 hS_1 ⟨Or.inl rfl, no (Or.inl f_2)⟩ dX9_isDigit_23
  · have f_2 : 48 ≤ r_1.toInt := r_nlt rfl (by decide) c_2
    refine lv_iload_n hx hb dX9_isDigit_12 rfl (lv_at hl 0 rfl) ?_
    refine lv_bipush (v := 57) hx hb dX9_isDigit_13 (by decide) ?_
    refine lv_icmp_gt (tgt := 22) hx hb dX9_isDigit_15 (by decide) (fun c_3 => ?_) (fun c_3 => ?_)
    · have f_3 : 57 < r_1.toInt := r_lt (by decide) rfl c_3
      refine lv_iconst (v := 0) hx hb dX9_isDigit_22 (by decide) ?_
      exact th_zret E hr hlk hs (Or.inl rfl) hT_1 hS_1 ⟨Or.inl rfl, no (Or.inr f_3)⟩ dX9_isDigit_23
    · have f_3 : r_1.toInt ≤ 57 := r_nlt (by decide) rfl c_3
      have hin : i < n := Nat.not_le.mp fun q => by have := p_1.2 q; omega
      refine lv_iconst (v := 1) hx hb dX9_isDigit_18 (by decide) ?_
      refine lv_goto (tgt := 23) hx hb dX9_isDigit_19 (by decide) ?_
      exact th_zret E hr hlk hs (Or.inr rfl) hT_1 hS_1 ⟨Or.inr rfl, fun _ => by have e1 := p_1.1 hin; rw [e1] at f_2 f_3; exact ⟨hin, f_2, f_3⟩, fun _ => rfl⟩ dX9_isDigit_23
set_option maxHeartbeats 4000000 in
set_option maxRecDepth 100000 in
/-- StreamEnds$Text.digitsEnd -/
theorem e_digitsEnd (l : Launch) (D : va_G) (cI cS : ClassId) (τ : Nat → Option Nat) (ρ : Nat → Nat → Nat) (hW : WF τ ρ) (H : Heap) (hT : TH D cI cS τ ρ H) (a0 : Nat) (x0 : Int32) (ha0 : τ a0 = some 9) (T : Nat → Int32) (n i : Nat) (hX : TX D ρ T n H a0) (hi : x0.toInt = i) (hi2 : i ≤ 300) : MI l D cI cS τ ρ yX9_digitsEnd cX9_digitsEnd 3 (some .int) 2 43 H [.ref a0, .int x0] (fun (r : Int32) (u : Heap) => r.toInt = ((i + dc T n i 3 : Nat) : Int)) (AT τ []) := by
  refine MI.of (by decide) (Nat.le_of_ble_eq_true rfl) ?_
  intro p e s m args below meth c E hml hr hlk hs ls hl
  have hx := E.1
  have hb := E.2.1
  have hown := E.2.2.1
  have hts := E.2.2.2.1
  have hS : SS (AT τ []) H H [] := SS.rf
  have hl : lv_has ls 3 [(0, .ref a0), (1, .int x0)] := hl
  have hx3 : (x0 + 3).toInt = i + 3 := i_pl hi (b := 3) (by decide) rfl (by omega) (by omega)
  have L_2 : ∀ (k j : Nat) (H_c2 : Heap) (lc_c2 : List Loc) (ls : Array Slot) (y2_2 : Int32), TH D cI cS τ ρ H_c2 → SS (AT τ []) H H_c2 lc_c2 → TX D ρ T n H_c2 a0 → lv_has ls 3 [(0, .ref a0), (1, .int x0), (2, .int y2_2)] → y2_2.toInt = ((i + j : Nat) : Int) → j + k = 3 → (∀ q, q < j → fg T n (i + q)) → W p l e (rmO 2 43) s m args below meth c H_c2 lc_c2 0 0 (MQ below (va_Qi (fun (r : Int32) (u : Heap) => r.toInt = ((i + dc T n i 3 : Nat) : Int)) (Bt D cI cS τ ρ H) (AT τ [])) args s 0 0 (AT τ [])) (F0 m 2 ls []) := by
    intro k
    induction k with
    | zero =>
      intro j H_c2 lc_c2 ls y2_2 hT_c2 hS_c2 hX hl hy hk hf
      refine lv_iload_n hx hb dX9_digitsEnd_2 rfl (lv_at hl 2 rfl) ?_
      refine lv_iload_n hx hb dX9_digitsEnd_3 rfl (lv_at hl 1 rfl) ?_
      refine lv_iconst (v := 3) hx hb dX9_digitsEnd_4 (by decide) ?_
      refine lv_iadd hx hb dX9_digitsEnd_5 ?_
      refine lv_icmp_ge (tgt := 23) hx hb dX9_digitsEnd_6 (by decide) (fun c_1 => ?_) (fun c_1 => ?_)
      · refine lv_iload_n hx hb dX9_digitsEnd_23 rfl (lv_at hl 2 rfl) ?_
        exact th_iret E hr hlk hs hT_c2 hS_c2 (by rw [hy, dc_of 3 i j (by omega) hf (Or.inl (by omega))]) dX9_digitsEnd_24
      · have f_1 : y2_2.toInt < (x0 + 3).toInt := r_nle rfl rfl c_1
        omega
    | succ k ih_2 =>
      intro j H_c2 lc_c2 ls y2_2 hT_c2 hS_c2 hX hl hy hk hf
      refine lv_iload_n hx hb dX9_digitsEnd_2 rfl (lv_at hl 2 rfl) ?_
      refine lv_iload_n hx hb dX9_digitsEnd_3 rfl (lv_at hl 1 rfl) ?_
      refine lv_iconst (v := 3) hx hb dX9_digitsEnd_4 (by decide) ?_
      refine lv_iadd hx hb dX9_digitsEnd_5 ?_
      refine lv_icmp_ge (tgt := 23) hx hb dX9_digitsEnd_6 (by decide) (fun c_1 => ?_) (fun c_1 => ?_)
      · have f_1 : (x0 + 3).toInt ≤ y2_2.toInt := r_le rfl rfl c_1
        omega
      · refine lv_aload_n hx hb dX9_digitsEnd_9 rfl (lv_at hl 0 rfl) ?_
        refine lv_iload_n hx hb dX9_digitsEnd_10 rfl (lv_at hl 2 rfl) ?_
        refine th_Vi (As := [.int y2_2]) (rest := []) E hml hl.1 (e_isDigit l D cI cS τ ρ hW H_c2 hT_c2 a0 y2_2 ha0 T n (i + j) hX hy) lk_X9_23 yd_X9_isDigit hT_c2 ha0 rfl (by decide) hS_c2 (AT.sub (by decide)) ⟨by decide, by decide⟩ (Nat.le_of_ble_eq_true rfl) ⟨by decide, by decide⟩ rfl dX9_digitsEnd_11 (fun r_2 H_2 locs_2 p_2 hT_2 hk_2 hS_2 => ?_)
        have hX2 : TX D ρ T n H_2 a0 := hX.q (hk_2 _ AT.nil) (hk_2 _ AT.nil)
        refine lv_if_eq (tgt := 23) hx hb dX9_digitsEnd_14 (by decide) (fun c_3 => ?_) (fun c_3 => ?_)
        · have nf : ¬ fg T n (i + j) := fun q => by
            have := p_2.2.mpr q
            rw [this] at c_3
            exact absurd c_3 (by decide)
          refine lv_iload_n hx hb dX9_digitsEnd_23 rfl (lv_at hl 2 rfl) ?_
          exact th_iret E hr hlk hs hT_2 hS_2 (by rw [hy, dc_of 3 i j (by omega) hf (Or.inr nf)]) dX9_digitsEnd_24
        · have yf : fg T n (i + j) := p_2.2.mp (p_2.1.resolve_left c_3)
          obtain ⟨x_4, ex_4⟩ : ∃ y : Int32, y2_2 + 1 = y := ⟨_, rfl⟩
          have q_x_4 : x_4.toInt = y2_2.toInt + 1 := i_add (k := 1) (by decide) ex_4 (by omega) (by omega)
          refine lv_iinc (v := x_4) (lv' := [(2, .int x_4), (0, .ref a0), (1, .int x0)]) hx hb dX9_digitsEnd_17 hl (k := 2) rfl (by rw [← ex_4]; rfl) (by decide) rfl (fun ls hl => ?_)
          refine lv_goto (tgt := 2) hx hb dX9_digitsEnd_20 (by decide) ?_
          exact ih_2 (j + 1) H_2 locs_2 _ x_4 hT_2 hS_2 hX2 (lv_sub hl [1, 2, 0] rfl) (by omega) (by omega) (fun q hq => by
            by_cases z : q = j
            · rw [z]; exact yf
            · exact hf q (by omega))
  refine lv_iload_n hx hb dX9_digitsEnd_0 rfl (lv_at hl 1 rfl) ?_
  refine lv_istore_n (lv' := [(2, .int x0), (0, .ref a0), (1, .int x0)]) hx hb dX9_digitsEnd_1 rfl hl (by decide) rfl (fun ls hl => ?_)
  exact L_2 3 0 H [] _ x0 hT hS hX (lv_sub hl [1, 2, 0] rfl) (by omega) (by omega) (fun q hq => by omega)
set_option maxHeartbeats 4000000 in
set_option maxRecDepth 100000 in
/-- StreamEnds$Text.number -/
theorem e_number (l : Launch) (D : va_G) (cI cS : ClassId) (τ : Nat → Option Nat) (ρ : Nat → Nat → Nat) (hW : WF τ ρ) (H : Heap) (hT : TH D cI cS τ ρ H) (a0 : Nat) (x0 : Int32) (x1 : Int32) (ha0 : τ a0 = some 9) (T : Nat → Int32) (n i d : Nat) (hX : TX D ρ T n H a0) (hi : x0.toInt = i) (hi2 : i ≤ 300) (hd : d ≤ 3) (hi3 : x1.toInt = ((i + d : Nat) : Int)) (hf : ∀ k, k < d → fg T n (i + k)) : MI l D cI cS τ ρ yX9_number cX9_number 5 (some .int) 1 21 H [.ref a0, .int x0, .int x1] (fun (r : Int32) (u : Heap) => r.toInt = if d = 0 then -4 else vl T i d) (AT τ []) := by
  refine MI.of (by decide) (Nat.le_of_ble_eq_true rfl) ?_
  intro p e s m args below meth c E hml hr hlk hs ls hl
  have hx := E.1
  have hb := E.2.1
  have hown := E.2.2.1
  have hts := E.2.2.2.1
  have hS : SS (AT τ []) H H [] := SS.rf
  have hl : lv_has ls 5 [(0, .ref a0), (1, .int x0), (2, .int x1)] := hl
  have L_15 : ∀ (k j : Nat) (H_c15 : Heap) (lc_c15 : List Loc) (ls : Array Slot) (y15_3 : Int32) (y15_4 : Int32), TX D ρ T n H_c15 a0 → j + k = d → y15_4.toInt = ((i + j : Nat) : Int) → (y15_3.toInt = if d = 0 then -4 else vl T i j) → TH D cI cS τ ρ H_c15 → SS (AT τ []) H H_c15 lc_c15 → lv_has ls 5 [(0, .ref a0), (1, .int x0), (2, .int x1), (3, .int y15_3), (4, .int y15_4)] → W p l e (rmO 1 21) s m args below meth c H_c15 lc_c15 0 0 (MQ below (va_Qi (fun (r : Int32) (u : Heap) => r.toInt = if d = 0 then -4 else vl T i d) (Bt D cI cS τ ρ H) (AT τ [])) args s 0 0 (AT τ [])) (F0 m 15 ls []) := by
    intro k
    induction k with
    | zero =>
      intro j H_c15 lc_c15 ls y15_3 y15_4 hX hk hy hv hT_c15 hS_c15 hl
      have hj : j = d := by omega
      refine lv_iload hx hb dX9_number_15 (lv_at hl 4 rfl) ?_
      refine lv_iload_n hx hb dX9_number_17 rfl (lv_at hl 2 rfl) ?_
      refine lv_icmp_ge (tgt := 42) hx hb dX9_number_18 (by decide) (fun c_1 => ?_) (fun c_1 => ?_)
      · refine lv_iload_n hx hb dX9_number_42 rfl (lv_at hl 3 rfl) ?_
        exact th_iret E hr hlk hs hT_c15 hS_c15 (by rw [hv, hj]) dX9_number_43
      · have f_1 : y15_4.toInt < x1.toInt := r_nle rfl rfl c_1
        omega
    | succ k ih_15 =>
      intro j H_c15 lc_c15 ls y15_3 y15_4 hX hk hy hv hT_c15 hS_c15 hl
      have hd0 : ¬ d = 0 := by omega
      rw [if_neg hd0] at hv
      have hfj := hf j (by omega)
      have hbj := vl_bd (T := T) (n := n) (i := i) j (fun q hq => hf q (by omega))
      have hbn := bd3 j (by omega)
      refine lv_iload hx hb dX9_number_15 (lv_at hl 4 rfl) ?_
      refine lv_iload_n hx hb dX9_number_17 rfl (lv_at hl 2 rfl) ?_
      refine lv_icmp_ge (tgt := 42) hx hb dX9_number_18 (by decide) (fun c_1 => ?_) (fun c_1 => ?_)
      · have f_1 : x1.toInt ≤ y15_4.toInt := r_le rfl rfl c_1
        omega
      · have f_1 : y15_4.toInt < x1.toInt := r_nle rfl rfl c_1
        refine lv_bipush (v := 10) hx hb dX9_number_21 (by decide) ?_
        refine lv_iload_n hx hb dX9_number_23 rfl (lv_at hl 3 rfl) ?_
        refine lv_imul hx hb dX9_number_24 ?_
        refine lv_topi (fun x_2 ex_2 => ?_)
        refine lv_aload_n hx hb dX9_number_25 rfl (lv_at hl 0 rfl) ?_
        refine lv_iload hx hb dX9_number_26 (lv_at hl 4 rfl) ?_
        refine th_Vi (As := [.int y15_4]) (rest := [.int x_2]) E hml hl.1 (e_at l D cI cS τ ρ hW H_c15 hT_c15 a0 y15_4 ha0 T n (i + j) hX hy) lk_X9_19 yd_X9_at hT_c15 ha0 rfl (by decide) hS_c15 (AT.sub (by decide)) ⟨by decide, by decide⟩ (Nat.le_of_ble_eq_true rfl) ⟨by decide, by decide⟩ rfl dX9_number_28 (fun r_3 H_3 locs_3 p_3 hT_3 hk_3 hS_3 => ?_)
        have hX3 : TX D ρ T n H_3 a0 := hX.q (hk_3 _ AT.nil) (hk_3 _ AT.nil)
        have e_3 : r_3.toInt = (T (i + j)).toInt := congrArg Int32.toInt (p_3.1 hfj.1)
        have e_2 : x_2.toInt = 10 * vl T i j := i_ml (x := 10) (a := 10) (by decide) hv ex_2 (by omega) (by omega)
        have hfa := hfj.2.1
        have hfb := hfj.2.2
        refine lv_iadd hx hb dX9_number_31 ?_
        refine lv_topi (fun x_4 ex_4 => ?_)
        refine lv_bipush (v := 48) hx hb dX9_number_32 (by decide) ?_
        refine lv_isub hx hb dX9_number_34 ?_
        refine lv_topi (fun x_5 ex_5 => ?_)
        have e_4 : x_4.toInt = 10 * vl T i j + (T (i + j)).toInt := i_pl e_2 e_3 ex_4 (by omega) (by omega)
        have e_5 : x_5.toInt = vl T i (j + 1) := i_mi e_4 (b := 48) (by decide) ex_5 (by omega) (by omega)
        refine lv_istore_n (lv' := [(3, .int x_5), (0, .ref a0), (1, .int x0), (2, .int x1), (4, .int y15_4)]) hx hb dX9_number_35 rfl hl (by decide) rfl (fun ls hl => ?_)
        obtain ⟨x_6, ex_6⟩ : ∃ y : Int32, y15_4 + 1 = y := ⟨_, rfl⟩
        have q_x_6 : x_6.toInt = y15_4.toInt + 1 := i_add (k := 1) (by decide) ex_6 (by omega) (by omega)
        refine lv_iinc (v := x_6) (lv' := [(4, .int x_6), (3, .int x_5), (0, .ref a0), (1, .int x0), (2, .int x1)]) hx hb dX9_number_36 hl (k := 4) rfl (by rw [← ex_6]; rfl) (by decide) rfl (fun ls hl => ?_)
        refine lv_goto (tgt := 15) hx hb dX9_number_39 (by decide) ?_
        exact ih_15 (j + 1) H_3 locs_3 _ x_5 x_6 hX3 (by omega) (by omega) (by rw [if_neg hd0]; exact e_5) hT_3 hS_3 (lv_sub hl [2, 3, 4, 1, 0] rfl)
  have J_11 : ∀ (H_c11 : Heap) (lc_c11 : List Loc) (ls : Array Slot) (z11_0 : Int32), TX D ρ T n H_c11 a0 → (z11_0.toInt = if d = 0 then -4 else 0) → TH D cI cS τ ρ H_c11 → SS (AT τ []) H H_c11 lc_c11 → lv_has ls 5 [(0, .ref a0), (1, .int x0), (2, .int x1)] → W p l e (rmO 1 21) s m args below meth c H_c11 lc_c11 0 0 (MQ below (va_Qi (fun (r : Int32) (u : Heap) => r.toInt = if d = 0 then -4 else vl T i d) (Bt D cI cS τ ρ H) (AT τ [])) args s 0 0 (AT τ [])) (F0 m 11 ls [.int z11_0]) := by
    intro H_c11 lc_c11 ls z11_0 hX hz hT_c11 hS_c11 hl
    refine lv_istore_n (lv' := [(3, .int z11_0), (0, .ref a0), (1, .int x0), (2, .int x1)]) hx hb dX9_number_11 rfl hl (by decide) rfl (fun ls hl => ?_)
    refine lv_iload_n hx hb dX9_number_12 rfl (lv_at hl 2 rfl) ?_
    refine lv_istore (lv' := [(4, .int x0), (3, .int z11_0), (0, .ref a0), (1, .int x0), (2, .int x1)]) hx hb dX9_number_13 hl (by decide) rfl (fun ls hl => ?_)
    exact L_15 d 0 H_c11 lc_c11 _ z11_0 x0 hX (by omega) (by omega) hz hT_c11 hS_c11 (lv_sub hl [2, 3, 4, 1, 0] rfl)
  refine lv_iload_n hx hb dX9_number_0 rfl (lv_at hl 1 rfl) ?_
  refine lv_iload_n hx hb dX9_number_1 rfl (lv_at hl 2 rfl) ?_
  refine lv_icmp_ge (tgt := 9) hx hb dX9_number_2 (by decide) (fun c_7 => ?_) (fun c_7 => ?_)
  · have f_7 : x1.toInt ≤ x0.toInt := r_le rfl rfl c_7
    refine lv_bipush (v := (-4)) hx hb dX9_number_9 (by decide) ?_
    exact J_11 H [] _ (-4) hX (by rw [if_pos (by omega)]; decide) hT hS hl
  · have f_7 : x0.toInt < x1.toInt := r_nle rfl rfl c_7
    refine lv_iconst (v := 0) hx hb dX9_number_5 (by decide) ?_
    refine lv_goto (tgt := 11) hx hb dX9_number_6 (by decide) ?_
    exact J_11 H [] _ 0 hX (by rw [if_neg (by omega)]; decide) hT hS hl
abbrev ST (l v s : Int) : Prop := (l = 112 ∧ 1 ≤ v ∧ v ≤ 8) ∨ (l = 98 ∧ 2 ≤ v ∧ v ≤ 32) ∨ (l = 102 ∧ 0 ≤ v ∧ v ≤ 255 ∧ 0 ≤ s ∧ s ≤ 255) ∨ (l = 108 ∧ 1 ≤ v ∧ v ≤ 20)
/-- the letters p and b set the two values -/
def CP (D : va_G) (H u : Heap) (a : Nat) (l : Int) (v : Int32) : Prop := fi D 1 0 u a = (if l = 112 then v else fi D 1 0 H a) ∧ fi D 1 1 u a = (if l = 98 then v else fi D 1 1 H a)
theorem ST0 {P : Prop} (h : ¬ P) : ((0 : Int32).toInt = 1 ↔ P) := ⟨fun q => absurd q (by decide), fun q => absurd q h⟩
theorem ST1 {P : Prop} (h : P) : ((1 : Int32).toInt = 1 ↔ P) := ⟨fun _ => h, fun _ => by decide⟩
section CPS
variable {D : va_G} {H u w : Heap} {a k : Nat} {l : Int} {v : Int32} {x : Value}
theorem CP.rf (h1 : ¬ l = 112) (h2 : ¬ l = 98) : CP D H H a l v := ⟨by rw [if_neg h1], by rw [if_neg h2]⟩
theorem CP.p (hU : PU D 1 0 H u a (.int v)) (h : l = 112) : CP D H u a l v := ⟨by rw [hU.i, if_pos h], by rw [hU.io (j := 1) (by decide) (by decide), if_neg (by omega)]⟩
theorem CP.b (hU : PU D 1 1 H u a (.int v)) (h : l = 98) : CP D H u a l v := ⟨by rw [hU.io (j := 0) (by decide) (by decide), if_neg (by omega)], by rw [hU.i, if_pos h]⟩
theorem CP.o (hU : PU D 1 k H u a x) (h0 : 0 ≠ k) (h1 : 1 ≠ k) (h2 : ¬ l = 112) (h3 : ¬ l = 98) : CP D H u a l v := ⟨by rw [hU.io (j := 0) (by decide) h0, if_neg h2], by rw [hU.io (j := 1) (by decide) h1, if_neg h3]⟩
theorem CP.o2 (h : CP D H u a l v) (hU : PU D 1 k u w a x) (h0 : 0 ≠ k) (h1 : 1 ≠ k) : CP D H w a l v := ⟨by rw [hU.io (j := 0) (by decide) h0]; exact h.1, by rw [hU.io (j := 1) (by decide) h1]; exact h.2⟩
end CPS
set_option maxHeartbeats 4000000 in
set_option maxRecDepth 100000 in
/-- StreamEnds$Config.set -/
theorem e_set (l : Launch) (D : va_G) (cI cS : ClassId) (τ : Nat → Option Nat) (ρ : Nat → Nat → Nat) (hW : WF τ ρ) (H : Heap) (hT : TH D cI cS τ ρ H) (a0 : Nat) (x0 : Int32) (x1 : Int32) (x2 : Int32) (ha0 : τ a0 = some 1) : MI l D cI cS τ ρ yX1_set cX1_set 5 (some .boolean) 0 0 H [.ref a0, .int x0, .int x1, .int x2] (fun (r : Int32) (u : Heap) => (r = 0 ∨ r = 1) ∧ (r.toInt = 1 ↔ ST x0.toInt x1.toInt x2.toInt) ∧ CP D H u a0 x0.toInt x1) (AT τ [1]) := by
  refine MI.of (by decide) (Nat.le_of_ble_eq_true rfl) ?_
  intro p e s m args below meth c E hml hr hlk hs ls hl
  have hx := E.1
  have hb := E.2.1
  have hown := E.2.2.1
  have hts := E.2.2.2.1
  have hS : SS (AT τ [1]) H H [] := SS.rf
  have hl : lv_has ls 5 [(0, .ref a0), (1, .int x0), (2, .int x1), (3, .int x2)] := hl
  have J_153 : ∀ (H_c153 : Heap) (lc_c153 : List Loc) (ls : Array Slot), H_c153 = H → x0.toInt = 108 → ¬ ST x0.toInt x1.toInt x2.toInt → TH D cI cS τ ρ H_c153 → SS (AT τ [1]) H H_c153 lc_c153 → lv_has ls 5 [(0, .ref a0), (1, .int x0), (2, .int x1), (3, .int x2)] → W p l e (rmO 0 0) s m args below meth c H_c153 lc_c153 0 0 (MQ below (va_Qi (fun (r : Int32) (u : Heap) => (r = 0 ∨ r = 1) ∧ (r.toInt = 1 ↔ ST x0.toInt x1.toInt x2.toInt) ∧ CP D H u a0 x0.toInt x1) (Bt D cI cS τ ρ H) (AT τ [1])) args s 0 0 (AT τ [1])) (F0 m 153 ls []) := by
    intro H_c153 lc_c153 ls hc l0 no hT_c153 hS_c153 hl
    refine lv_iconst (v := 0) hx hb dX1_set_153 (by decide) ?_
    refine lv_istore (lv' := [(4, .int 0), (0, .ref a0), (1, .int x0), (2, .int x1), (3, .int x2)]) hx hb dX1_set_154 hl (by decide) rfl (fun ls hl => ?_)
    refine lv_aload_n hx hb dX1_set_156 rfl (lv_at hl 1 rfl) ?_
    refine lv_iload_n hx hb dX1_set_157 rfl (lv_at hl 3 rfl) ?_
    refine pf_X1_27 E hT_c153 hS_c153 ha0 ⟨_, ha0, by decide⟩ dX1_set_158 (fun H_1 locs_1 hT_1 hU_1 hS_1 => ?_)
    refine lv_goto (tgt := 167) hx hb dX1_set_161 (by decide) ?_
    refine lv_iload hx hb dX1_set_167 (lv_at hl 0 rfl) ?_
    exact th_zret E hr hlk hs (Or.inl rfl) hT_1 hS_1 ⟨(Or.inl rfl), ST0 no, (by rw [← hc]; exact CP.o (k := 4) hU_1 (by decide) (by decide) (by omega) (by omega))⟩ dX1_set_169
  have J_123 : ∀ (H_c123 : Heap) (lc_c123 : List Loc) (ls : Array Slot) (z123_0 : Int32), H_c123 = H → x0.toInt = 102 → (z123_0.toInt = 1 ↔ ST x0.toInt x1.toInt x2.toInt) → TH D cI cS τ ρ H_c123 → SS (AT τ [1]) H H_c123 lc_c123 → lv_has ls 5 [(0, .ref a0), (1, .int x0), (2, .int x1), (3, .int x2)] → z123_0 = 0 ∨ z123_0 = 1 → W p l e (rmO 0 0) s m args below meth c H_c123 lc_c123 0 0 (MQ below (va_Qi (fun (r : Int32) (u : Heap) => (r = 0 ∨ r = 1) ∧ (r.toInt = 1 ↔ ST x0.toInt x1.toInt x2.toInt) ∧ CP D H u a0 x0.toInt x1) (Bt D cI cS τ ρ H) (AT τ [1])) args s 0 0 (AT τ [1])) (F0 m 123 ls [.int z123_0]) := by
    intro H_c123 lc_c123 ls z123_0 hc l0 no hT_c123 hS_c123 hl bz123_0
    have z_z123_0 := b_iv bz123_0
    refine lv_istore (lv' := [(4, .int z123_0), (0, .ref a0), (1, .int x0), (2, .int x1), (3, .int x2)]) hx hb dX1_set_123 hl (by decide) rfl (fun ls hl => ?_)
    refine lv_aload_n hx hb dX1_set_125 rfl (lv_at hl 1 rfl) ?_
    refine lv_iload_n hx hb dX1_set_126 rfl (lv_at hl 3 rfl) ?_
    refine pf_X1_21 E hT_c123 hS_c123 ha0 ⟨_, ha0, by decide⟩ dX1_set_127 (fun H_2 locs_2 hT_2 hU_2 hS_2 => ?_)
    refine lv_aload_n hx hb dX1_set_130 rfl (lv_at hl 1 rfl) ?_
    refine lv_iload_n hx hb dX1_set_131 rfl (lv_at hl 4 rfl) ?_
    refine pf_X1_24 E hT_2 hS_2 ha0 ⟨_, ha0, by decide⟩ dX1_set_132 (fun H_3 locs_3 hT_3 hU_3 hS_3 => ?_)
    refine lv_goto (tgt := 167) hx hb dX1_set_135 (by decide) ?_
    refine lv_iload hx hb dX1_set_167 (lv_at hl 0 rfl) ?_
    exact th_zret E hr hlk hs bz123_0 hT_3 hS_3 ⟨bz123_0, no, (by rw [← hc]; exact (CP.o (k := 2) hU_2 (by decide) (by decide) (by omega) (by omega)).o2 (k := 3) hU_3 (by decide) (by decide))⟩ dX1_set_169
  have J_122 : ∀ (H_c122 : Heap) (lc_c122 : List Loc) (ls : Array Slot), H_c122 = H → x0.toInt = 102 → ¬ ST x0.toInt x1.toInt x2.toInt → TH D cI cS τ ρ H_c122 → SS (AT τ [1]) H H_c122 lc_c122 → lv_has ls 5 [(0, .ref a0), (1, .int x0), (2, .int x1), (3, .int x2)] → W p l e (rmO 0 0) s m args below meth c H_c122 lc_c122 0 0 (MQ below (va_Qi (fun (r : Int32) (u : Heap) => (r = 0 ∨ r = 1) ∧ (r.toInt = 1 ↔ ST x0.toInt x1.toInt x2.toInt) ∧ CP D H u a0 x0.toInt x1) (Bt D cI cS τ ρ H) (AT τ [1])) args s 0 0 (AT τ [1])) (F0 m 122 ls []) := by
    intro H_c122 lc_c122 ls hc l0 no hT_c122 hS_c122 hl
    refine lv_iconst (v := 0) hx hb dX1_set_122 (by decide) ?_
    exact J_123 H_c122 lc_c122 _ 0 hc l0 (ST0 no) hT_c122 hS_c122 hl (Or.inl rfl)
  have J_85 : ∀ (H_c85 : Heap) (lc_c85 : List Loc) (ls : Array Slot), H_c85 = H → x0.toInt = 98 → ¬ ST x0.toInt x1.toInt x2.toInt → TH D cI cS τ ρ H_c85 → SS (AT τ [1]) H H_c85 lc_c85 → lv_has ls 5 [(0, .ref a0), (1, .int x0), (2, .int x1), (3, .int x2)] → W p l e (rmO 0 0) s m args below meth c H_c85 lc_c85 0 0 (MQ below (va_Qi (fun (r : Int32) (u : Heap) => (r = 0 ∨ r = 1) ∧ (r.toInt = 1 ↔ ST x0.toInt x1.toInt x2.toInt) ∧ CP D H u a0 x0.toInt x1) (Bt D cI cS τ ρ H) (AT τ [1])) args s 0 0 (AT τ [1])) (F0 m 85 ls []) := by
    intro H_c85 lc_c85 ls hc l0 no hT_c85 hS_c85 hl
    refine lv_iconst (v := 0) hx hb dX1_set_85 (by decide) ?_
    refine lv_istore (lv' := [(4, .int 0), (0, .ref a0), (1, .int x0), (2, .int x1), (3, .int x2)]) hx hb dX1_set_86 hl (by decide) rfl (fun ls hl => ?_)
    refine lv_aload_n hx hb dX1_set_88 rfl (lv_at hl 1 rfl) ?_
    refine lv_iload_n hx hb dX1_set_89 rfl (lv_at hl 3 rfl) ?_
    refine pf_X1_18 E hT_c85 hS_c85 ha0 ⟨_, ha0, by decide⟩ dX1_set_90 (fun H_4 locs_4 hT_4 hU_4 hS_4 => ?_)
    refine lv_goto (tgt := 167) hx hb dX1_set_93 (by decide) ?_
    refine lv_iload hx hb dX1_set_167 (lv_at hl 0 rfl) ?_
    exact th_zret E hr hlk hs (Or.inl rfl) hT_4 hS_4 ⟨(Or.inl rfl), ST0 no, (by rw [← hc]; exact CP.b hU_4 l0)⟩ dX1_set_169
  have J_59 : ∀ (H_c59 : Heap) (lc_c59 : List Loc) (ls : Array Slot), H_c59 = H → x0.toInt = 112 → ¬ ST x0.toInt x1.toInt x2.toInt → TH D cI cS τ ρ H_c59 → SS (AT τ [1]) H H_c59 lc_c59 → lv_has ls 5 [(0, .ref a0), (1, .int x0), (2, .int x1), (3, .int x2)] → W p l e (rmO 0 0) s m args below meth c H_c59 lc_c59 0 0 (MQ below (va_Qi (fun (r : Int32) (u : Heap) => (r = 0 ∨ r = 1) ∧ (r.toInt = 1 ↔ ST x0.toInt x1.toInt x2.toInt) ∧ CP D H u a0 x0.toInt x1) (Bt D cI cS τ ρ H) (AT τ [1])) args s 0 0 (AT τ [1])) (F0 m 59 ls []) := by
    intro H_c59 lc_c59 ls hc l0 no hT_c59 hS_c59 hl
    refine lv_iconst (v := 0) hx hb dX1_set_59 (by decide) ?_
    refine lv_istore (lv' := [(4, .int 0), (0, .ref a0), (1, .int x0), (2, .int x1), (3, .int x2)]) hx hb dX1_set_60 hl (by decide) rfl (fun ls hl => ?_)
    refine lv_aload_n hx hb dX1_set_62 rfl (lv_at hl 1 rfl) ?_
    refine lv_iload_n hx hb dX1_set_63 rfl (lv_at hl 3 rfl) ?_
    refine pf_X1_14 E hT_c59 hS_c59 ha0 ⟨_, ha0, by decide⟩ dX1_set_64 (fun H_5 locs_5 hT_5 hU_5 hS_5 => ?_)
    refine lv_goto (tgt := 167) hx hb dX1_set_67 (by decide) ?_
    refine lv_iload hx hb dX1_set_167 (lv_at hl 0 rfl) ?_
    exact th_zret E hr hlk hs (Or.inl rfl) hT_5 hS_5 ⟨(Or.inl rfl), ST0 no, (by rw [← hc]; exact CP.p hU_5 l0)⟩ dX1_set_169
  refine lv_iload_n hx hb dX1_set_0 rfl (lv_at hl 1 rfl) ?_
  by_cases k6_98 : x0 = 98
  · have l0 : x0.toInt = 98 := by rw [k6_98]; decide
    refine th_topi k6_98 ?_
    refine lv_lookup (tgt := 70) hx hb dX1_set_1 (by decide) rfl (by decide) ?_
    refine lv_iload_n hx hb dX1_set_70 rfl (lv_at hl 2 rfl) ?_
    refine lv_iconst (v := 2) hx hb dX1_set_71 (by decide) ?_
    refine lv_icmp_lt (tgt := 85) hx hb dX1_set_72 (by decide) (fun c_7 => ?_) (fun c_7 => ?_)
    · have f_7 : x1.toInt < 2 := r_lt rfl (by decide) c_7
      exact J_85 H [] _ rfl l0 (by unfold ST; omega) hT hS hl
    · have f_7 : 2 ≤ x1.toInt := r_nlt rfl (by decide) c_7
      refine lv_iload_n hx hb dX1_set_75 rfl (lv_at hl 2 rfl) ?_
      refine lv_bipush (v := 32) hx hb dX1_set_76 (by decide) ?_
      refine lv_icmp_gt (tgt := 85) hx hb dX1_set_78 (by decide) (fun c_8 => ?_) (fun c_8 => ?_)
      · have f_8 : 32 < x1.toInt := r_lt (by decide) rfl c_8
        exact J_85 H [] _ rfl l0 (by unfold ST; omega) hT hS hl
      · have f_8 : x1.toInt ≤ 32 := r_nlt (by decide) rfl c_8
        refine lv_iconst (v := 1) hx hb dX1_set_81 (by decide) ?_
        refine lv_goto (tgt := 86) hx hb dX1_set_82 (by decide) ?_
        refine lv_istore (lv' := [(4, .int 1), (0, .ref a0), (1, .int x0), (2, .int x1), (3, .int x2)]) hx hb dX1_set_86 hl (by decide) rfl (fun ls hl => ?_)
        refine lv_aload_n hx hb dX1_set_88 rfl (lv_at hl 1 rfl) ?_
        refine lv_iload_n hx hb dX1_set_89 rfl (lv_at hl 3 rfl) ?_
        refine pf_X1_18 E hT hS ha0 ⟨_, ha0, by decide⟩ dX1_set_90 (fun H_9 locs_9 hT_9 hU_9 hS_9 => ?_)
        refine lv_goto (tgt := 167) hx hb dX1_set_93 (by decide) ?_
        refine lv_iload hx hb dX1_set_167 (lv_at hl 0 rfl) ?_
        exact th_zret E hr hlk hs (Or.inr rfl) hT_9 hS_9 ⟨(Or.inr rfl), ST1 (by unfold ST; omega), CP.b hU_9 l0⟩ dX1_set_169
  by_cases k6_102 : x0 = 102
  · have l0 : x0.toInt = 102 := by rw [k6_102]; decide
    refine th_topi k6_102 ?_
    refine lv_lookup (tgt := 96) hx hb dX1_set_1 (by decide) rfl (by decide) ?_
    refine lv_iload_n hx hb dX1_set_96 rfl (lv_at hl 2 rfl) ?_
    refine lv_if_lt (tgt := 122) hx hb dX1_set_97 (by decide) (fun c_10 => ?_) (fun c_10 => ?_)
    · have f_10 : x1.toInt < 0 := r_lt rfl (by decide) c_10
      exact J_122 H [] _ rfl l0 (by unfold ST; omega) hT hS hl
    · have f_10 : 0 ≤ x1.toInt := r_nlt rfl (by decide) c_10
      refine lv_iload_n hx hb dX1_set_100 rfl (lv_at hl 2 rfl) ?_
      refine lv_sipush (v := 255) hx hb dX1_set_101 (by decide) ?_
      refine lv_icmp_gt (tgt := 122) hx hb dX1_set_104 (by decide) (fun c_11 => ?_) (fun c_11 => ?_)
      · have f_11 : 255 < x1.toInt := r_lt (by decide) rfl c_11
        exact J_122 H [] _ rfl l0 (by unfold ST; omega) hT hS hl
      · have f_11 : x1.toInt ≤ 255 := r_nlt (by decide) rfl c_11
        refine lv_iload_n hx hb dX1_set_107 rfl (lv_at hl 3 rfl) ?_
        refine lv_if_lt (tgt := 122) hx hb dX1_set_108 (by decide) (fun c_12 => ?_) (fun c_12 => ?_)
        · have f_12 : x2.toInt < 0 := r_lt rfl (by decide) c_12
          exact J_122 H [] _ rfl l0 (by unfold ST; omega) hT hS hl
        · have f_12 : 0 ≤ x2.toInt := r_nlt rfl (by decide) c_12
          refine lv_iload_n hx hb dX1_set_111 rfl (lv_at hl 3 rfl) ?_
          refine lv_sipush (v := 255) hx hb dX1_set_112 (by decide) ?_
          refine lv_icmp_gt (tgt := 122) hx hb dX1_set_115 (by decide) (fun c_13 => ?_) (fun c_13 => ?_)
          · have f_13 : 255 < x2.toInt := r_lt (by decide) rfl c_13
            exact J_122 H [] _ rfl l0 (by unfold ST; omega) hT hS hl
          · have f_13 : x2.toInt ≤ 255 := r_nlt (by decide) rfl c_13
            refine lv_iconst (v := 1) hx hb dX1_set_118 (by decide) ?_
            refine lv_goto (tgt := 123) hx hb dX1_set_119 (by decide) ?_
            exact J_123 H [] _ 1 rfl l0 (ST1 (by unfold ST; omega)) hT hS hl (Or.inr rfl)
  by_cases k6_108 : x0 = 108
  · have l0 : x0.toInt = 108 := by rw [k6_108]; decide
    refine th_topi k6_108 ?_
    refine lv_lookup (tgt := 138) hx hb dX1_set_1 (by decide) rfl (by decide) ?_
    refine lv_iload_n hx hb dX1_set_138 rfl (lv_at hl 2 rfl) ?_
    refine lv_iconst (v := 1) hx hb dX1_set_139 (by decide) ?_
    refine lv_icmp_lt (tgt := 153) hx hb dX1_set_140 (by decide) (fun c_14 => ?_) (fun c_14 => ?_)
    · have f_14 : x1.toInt < 1 := r_lt rfl (by decide) c_14
      exact J_153 H [] _ rfl l0 (by unfold ST; omega) hT hS hl
    · have f_14 : 1 ≤ x1.toInt := r_nlt rfl (by decide) c_14
      refine lv_iload_n hx hb dX1_set_143 rfl (lv_at hl 2 rfl) ?_
      refine lv_bipush (v := 20) hx hb dX1_set_144 (by decide) ?_
      refine lv_icmp_gt (tgt := 153) hx hb dX1_set_146 (by decide) (fun c_15 => ?_) (fun c_15 => ?_)
      · have f_15 : 20 < x1.toInt := r_lt (by decide) rfl c_15
        exact J_153 H [] _ rfl l0 (by unfold ST; omega) hT hS hl
      · have f_15 : x1.toInt ≤ 20 := r_nlt (by decide) rfl c_15
        refine lv_iconst (v := 1) hx hb dX1_set_149 (by decide) ?_
        refine lv_goto (tgt := 154) hx hb dX1_set_150 (by decide) ?_
        refine lv_istore (lv' := [(4, .int 1), (0, .ref a0), (1, .int x0), (2, .int x1), (3, .int x2)]) hx hb dX1_set_154 hl (by decide) rfl (fun ls hl => ?_)
        refine lv_aload_n hx hb dX1_set_156 rfl (lv_at hl 1 rfl) ?_
        refine lv_iload_n hx hb dX1_set_157 rfl (lv_at hl 3 rfl) ?_
        refine pf_X1_27 E hT hS ha0 ⟨_, ha0, by decide⟩ dX1_set_158 (fun H_16 locs_16 hT_16 hU_16 hS_16 => ?_)
        refine lv_goto (tgt := 167) hx hb dX1_set_161 (by decide) ?_
        refine lv_iload hx hb dX1_set_167 (lv_at hl 0 rfl) ?_
        exact th_zret E hr hlk hs (Or.inr rfl) hT_16 hS_16 ⟨(Or.inr rfl), ST1 (by unfold ST; omega), CP.o (k := 4) hU_16 (by decide) (by decide) (by omega) (by omega)⟩ dX1_set_169
  by_cases k6_112 : x0 = 112
  · have l0 : x0.toInt = 112 := by rw [k6_112]; decide
    refine th_topi k6_112 ?_
    refine lv_lookup (tgt := 44) hx hb dX1_set_1 (by decide) rfl (by decide) ?_
    refine lv_iload_n hx hb dX1_set_44 rfl (lv_at hl 2 rfl) ?_
    refine lv_iconst (v := 1) hx hb dX1_set_45 (by decide) ?_
    refine lv_icmp_lt (tgt := 59) hx hb dX1_set_46 (by decide) (fun c_17 => ?_) (fun c_17 => ?_)
    · have f_17 : x1.toInt < 1 := r_lt rfl (by decide) c_17
      exact J_59 H [] _ rfl l0 (by unfold ST; omega) hT hS hl
    · have f_17 : 1 ≤ x1.toInt := r_nlt rfl (by decide) c_17
      refine lv_iload_n hx hb dX1_set_49 rfl (lv_at hl 2 rfl) ?_
      refine lv_bipush (v := 8) hx hb dX1_set_50 (by decide) ?_
      refine lv_icmp_gt (tgt := 59) hx hb dX1_set_52 (by decide) (fun c_18 => ?_) (fun c_18 => ?_)
      · have f_18 : 8 < x1.toInt := r_lt (by decide) rfl c_18
        exact J_59 H [] _ rfl l0 (by unfold ST; omega) hT hS hl
      · have f_18 : x1.toInt ≤ 8 := r_nlt (by decide) rfl c_18
        refine lv_iconst (v := 1) hx hb dX1_set_55 (by decide) ?_
        refine lv_goto (tgt := 60) hx hb dX1_set_56 (by decide) ?_
        refine lv_istore (lv' := [(4, .int 1), (0, .ref a0), (1, .int x0), (2, .int x1), (3, .int x2)]) hx hb dX1_set_60 hl (by decide) rfl (fun ls hl => ?_)
        refine lv_aload_n hx hb dX1_set_62 rfl (lv_at hl 1 rfl) ?_
        refine lv_iload_n hx hb dX1_set_63 rfl (lv_at hl 3 rfl) ?_
        refine pf_X1_14 E hT hS ha0 ⟨_, ha0, by decide⟩ dX1_set_64 (fun H_19 locs_19 hT_19 hU_19 hS_19 => ?_)
        refine lv_goto (tgt := 167) hx hb dX1_set_67 (by decide) ?_
        refine lv_iload hx hb dX1_set_167 (lv_at hl 0 rfl) ?_
        exact th_zret E hr hlk hs (Or.inr rfl) hT_19 hS_19 ⟨(Or.inr rfl), ST1 (by unfold ST; omega), CP.p hU_19 l0⟩ dX1_set_169
  have n6_98 := i_ne k6_98 (k := 98) (by decide)
  have n6_102 := i_ne k6_102 (k := 102) (by decide)
  have n6_108 := i_ne k6_108 (k := 108) (by decide)
  have n6_112 := i_ne k6_112 (k := 112) (by decide)
  refine lv_lookup (tgt := 164) hx hb dX1_set_1 (off := 163) (by decide) (by show Op.lookupswitch.offset [(98, 69), (102, 95), (108, 137), (112, 43)] _ _ = _; rw [lv_osw k6_98 (by decide), lv_osw k6_102 (by decide), lv_osw k6_108 (by decide), lv_osw k6_112 (by decide)]; rfl) (by decide) ?_
  refine lv_iconst (v := 0) hx hb dX1_set_164 (by decide) ?_
  refine lv_istore (lv' := [(4, .int 0), (0, .ref a0), (1, .int x0), (2, .int x1), (3, .int x2)]) hx hb dX1_set_165 hl (by decide) rfl (fun ls hl => ?_)
  refine lv_iload hx hb dX1_set_167 (lv_at hl 0 rfl) ?_
  exact th_zret E hr hlk hs (Or.inl rfl) hT hS ⟨(Or.inl rfl), ST0 (by unfold ST; omega), CP.rf (by omega) (by omega)⟩ dX1_set_169
theorem item_d {T : Nat → Int32} {n s : Nat} (h : 0 ≤ item T n s) : 1 ≤ dc T n (s + 1) 3 := by
  unfold item at h
  split at h <;> split at h <;> omega
/-- the values after the item at s -/
def CV (D : va_G) (T : Nat → Int32) (n s : Nat) (H u : Heap) (a : Nat) : Prop := (fi D 1 0 u a).toInt = itv T n s 112 (fi D 1 0 H a).toInt ∧ (fi D 1 1 u a).toInt = itv T n s 98 (fi D 1 1 H a).toInt
theorem CV.of {D : va_G} {T : Nat → Int32} {n s : Nat} {H H1 u : Heap} {a : Nat} {v : Int32} (h : CP D H1 u a (T s).toInt v) (g0 : fi D 1 0 H1 a = fi D 1 0 H a) (g1 : fi D 1 1 H1 a = fi D 1 1 H a) (hv : v.toInt = vl T (s + 1) (dc T n (s + 1) 3)) : CV D T n s H u a := by
  refine ⟨?_, ?_⟩
  · rw [h.1, g0]
    unfold itv
    split
    · exact hv
    · rfl
  · rw [h.2, g1]
    unfold itv
    split
    · exact hv
    · rfl
section ITS
variable {T : Nat → Int32} {n st : Nat} {v w : Int32}
theorem itA (h : ¬ (T st).toInt = 102) (hv : v.toInt = if dc T n (st + 1) 3 = 0 then -4 else vl T (st + 1) (dc T n (st + 1) 3)) (hw : w.toInt = -4) : item T n st = if st + 1 + dc T n (st + 1) 3 < n ∧ (T (st + 1 + dc T n (st + 1) 3)).toInt = 59 ∧ ST (T st).toInt v.toInt w.toInt then ((st + 1 + dc T n (st + 1) 3 : Nat) : Int) + 1 else -4 := by
  unfold item ST
  rw [if_neg h]
  by_cases z : dc T n (st + 1) 3 = 0
  · rw [if_pos z] at hv
    rw [if_neg (by omega), if_neg (by omega)]
  · rw [if_neg z] at hv
    split <;> split <;> first | rfl | (exfalso; omega)
theorem itB (h : (T st).toInt = 102) (hn : ¬ (st + 1 + dc T n (st + 1) 3 < n ∧ (T (st + 1 + dc T n (st + 1) 3)).toInt = 44)) (hw : w.toInt = -4) : item T n st = if st + 1 + dc T n (st + 1) 3 < n ∧ (T (st + 1 + dc T n (st + 1) 3)).toInt = 59 ∧ ST (T st).toInt v.toInt w.toInt then ((st + 1 + dc T n (st + 1) 3 : Nat) : Int) + 1 else -4 := by
  unfold item ST
  rw [if_pos h, if_neg (by omega), if_neg (by omega)]
theorem itC (h : (T st).toInt = 102) (h1 : st + 1 + dc T n (st + 1) 3 < n) (h2 : (T (st + 1 + dc T n (st + 1) 3)).toInt = 44) (hv : v.toInt = if dc T n (st + 1) 3 = 0 then -4 else vl T (st + 1) (dc T n (st + 1) 3)) (hw : w.toInt = if dc T n (st + 1 + dc T n (st + 1) 3 + 1) 3 = 0 then -4 else vl T (st + 1 + dc T n (st + 1) 3 + 1) (dc T n (st + 1 + dc T n (st + 1) 3 + 1) 3)) : item T n st = if st + 1 + dc T n (st + 1) 3 + 1 + dc T n (st + 1 + dc T n (st + 1) 3 + 1) 3 < n ∧ (T (st + 1 + dc T n (st + 1) 3 + 1 + dc T n (st + 1 + dc T n (st + 1) 3 + 1) 3)).toInt = 59 ∧ ST (T st).toInt v.toInt w.toInt then ((st + 1 + dc T n (st + 1) 3 + 1 + dc T n (st + 1 + dc T n (st + 1) 3 + 1) 3 : Nat) : Int) + 1 else -4 := by
  have b1 := vl_bd (T := T) (n := n) (i := st + 1) (dc T n (st + 1) 3) (fun k hk => dc_fg 3 (st + 1) k hk)
  have b2 := vl_bd (T := T) (n := n) (i := st + 1 + dc T n (st + 1) 3 + 1) (dc T n (st + 1 + dc T n (st + 1) 3 + 1) 3) (fun k hk => dc_fg 3 _ k hk)
  unfold item ST
  rw [if_pos h]
  split at hv <;> split at hw <;> split <;> split <;> first | rfl | (exfalso; omega)
end ITS
set_option maxHeartbeats 4000000 in
set_option maxRecDepth 100000 in
/-- StreamEnds$Config.readItem -/
theorem e_readItem (l : Launch) (D : va_G) (cI cS : ClassId) (τ : Nat → Option Nat) (ρ : Nat → Nat → Nat) (hW : WF τ ρ) (H : Heap) (hT : TH D cI cS τ ρ H) (a0 : Nat) (a1 : Nat) (x0 : Int32) (ha0 : τ a0 = some 1) (ha1 : τ a1 = some 9) (T : Nat → Int32) (n st : Nat) (hX : TX D ρ T n H a1) (hi : x0.toInt = st) (hin : st < n) : MI l D cI cS τ ρ yX1_readItem cX1_readItem 8 (some .int) 3 65 H [.ref a0, .ref a1, .int x0] (fun (r : Int32) (u : Heap) => r.toInt = item T n st ∧ (0 ≤ item T n st → CV D T n st H u a0)) (AT τ [1]) := by
  refine MI.of (by decide) (Nat.le_of_ble_eq_true rfl) ?_
  intro p e s m args below meth c E hml hr hlk hs ls hl
  have hx := E.1
  have hb := E.2.1
  have hown := E.2.2.1
  have hts := E.2.2.2.1
  have hS : SS (AT τ [1]) H H [] := SS.rf
  have hl : lv_has ls 8 [(0, .ref a0), (1, .ref a1), (2, .int x0)] := hl
  have J_71 : ∀ (H_c71 : Heap) (lc_c71 : List Loc) (ls : Array Slot) (y71_3 : Int32) (y71_4 : Int32) (y71_5 : Int32) (y71_6 : Int32) (e4 : Nat), TX D ρ T n H_c71 a1 → (∀ k, fi D 1 k H_c71 a0 = fi D 1 k H a0) → y71_4.toInt = e4 → e4 ≤ 300 → y71_3 = T st → (y71_5.toInt = if dc T n (st + 1) 3 = 0 then -4 else vl T (st + 1) (dc T n (st + 1) 3)) → (item T n st = if e4 < n ∧ (T e4).toInt = 59 ∧ ST (T st).toInt y71_5.toInt y71_6.toInt then (e4 : Int) + 1 else -4) → TH D cI cS τ ρ H_c71 → SS (AT τ [1]) H H_c71 lc_c71 → lv_has ls 8 [(0, .ref a0), (1, .ref a1), (2, .int x0), (3, .int y71_3), (4, .int y71_4), (5, .int y71_5), (6, .int y71_6)] → W p l e (rmO 3 65) s m args below meth c H_c71 lc_c71 0 0 (MQ below (va_Qi (fun (r : Int32) (u : Heap) => r.toInt = item T n st ∧ (0 ≤ item T n st → CV D T n st H u a0)) (Bt D cI cS τ ρ H) (AT τ [1])) args s 0 0 (AT τ [1])) (F0 m 71 ls []) := by
    intro H_c71 lc_c71 ls y71_3 y71_4 y71_5 y71_6 e4 hX hg h4 h4b h3 h5 hI hT_c71 hS_c71 hl
    refine lv_aload_n hx hb dX1_readItem_71 rfl (lv_at hl 1 rfl) ?_
    refine lv_iload hx hb dX1_readItem_72 (lv_at hl 4 rfl) ?_
    refine th_Vi (As := [.int y71_4]) (rest := []) E hml hl.1 (e_at l D cI cS τ ρ hW H_c71 hT_c71 a1 y71_4 ha1 T n e4 hX h4) lk_X1_39 yd_X9_at hT_c71 ha1 rfl (by decide) hS_c71 (AT.sub (by decide)) ⟨by decide, by decide⟩ (Nat.le_of_ble_eq_true rfl) ⟨by decide, by decide⟩ rfl dX1_readItem_74 (fun r_1 H_1 locs_1 p_1 hT_1 hk_1 hS_1 => ?_)
    refine lv_bipush (v := 59) hx hb dX1_readItem_77 (by decide) ?_
    refine lv_icmp_ne (tgt := 101) hx hb dX1_readItem_79 (by decide) (fun c_2 => ?_) (fun c_2 => ?_)
    · have f_2 : ¬ r_1.toInt = 59 := r_ne rfl (by decide) c_2
      have hv : item T n st = -4 := by rw [hI, if_neg (fun q => f_2 (by rw [p_1.1 q.1]; exact q.2.1))]
      refine lv_bipush (v := (-4)) hx hb dX1_readItem_101 (by decide) ?_
      exact th_iret E hr hlk hs hT_1 hS_1 ⟨by rw [hv]; decide, fun q => by omega⟩ dX1_readItem_103
    · have f_2 : r_1.toInt = 59 := r_eq rfl (by decide) c_2
      have hlt : e4 < n := Nat.not_le.mp fun q => by have := p_1.2 q; omega
      have h59 : (T e4).toInt = 59 := by rw [← p_1.1 hlt]; exact f_2
      refine lv_aload_n hx hb dX1_readItem_82 rfl (lv_at hl 0 rfl) ?_
      refine lv_iload_n hx hb dX1_readItem_83 rfl (lv_at hl 3 rfl) ?_
      refine lv_iload hx hb dX1_readItem_84 (lv_at hl 5 rfl) ?_
      refine lv_iload hx hb dX1_readItem_86 (lv_at hl 6 rfl) ?_
      refine th_Vi (As := [.int y71_3, .int y71_5, .int y71_6]) (rest := []) E hml hl.1 (e_set l D cI cS τ ρ hW H_1 hT_1 a0 y71_3 y71_5 y71_6 ha0) lk_X1_50 yd_X1_set hT_1 ha0 rfl (by decide) hS_1 (AT.sub (by decide)) ⟨by decide, by decide⟩ (Nat.le_of_ble_eq_true rfl) ⟨by decide, by decide⟩ rfl dX1_readItem_88 (fun r_3 H_3 locs_3 p_3 hT_3 hk_3 hS_3 => ?_)
      obtain ⟨p_3, s_3, c_3⟩ := p_3
      rw [h3] at s_3 c_3
      have g1 : ∀ k, fi D 1 k H_1 a0 = fi D 1 k H a0 := fun k => (fi_q (hk_1 _ AT.nil)).trans (hg k)
      refine lv_if_eq (tgt := 101) hx hb dX1_readItem_91 (by decide) (fun c_4 => ?_) (fun c_4 => ?_)
      · have f_4 : r_3.toInt = 0 := r_eq rfl (by decide) c_4
        have hv : item T n st = -4 := by rw [hI, if_neg (fun q => by have := s_3.mpr q.2.2; omega)]
        refine lv_bipush (v := (-4)) hx hb dX1_readItem_101 (by decide) ?_
        exact th_iret E hr hlk hs hT_3 hS_3 ⟨by rw [hv]; decide, fun q => by omega⟩ dX1_readItem_103
      · have f_4 : ¬ r_3.toInt = 0 := r_ne rfl (by decide) c_4
        have r31 : r_3.toInt = 1 := by rw [p_3.resolve_left c_4]; decide
        have hv : item T n st = (e4 : Int) + 1 := by rw [hI, if_pos ⟨hlt, h59, s_3.mp r31⟩]
        refine lv_iload hx hb dX1_readItem_94 (lv_at hl 4 rfl) ?_
        refine lv_iconst (v := 1) hx hb dX1_readItem_96 (by decide) ?_
        refine lv_iadd hx hb dX1_readItem_97 ?_
        refine lv_topi (fun x_5 ex_5 => ?_)
        refine lv_goto (tgt := 103) hx hb dX1_readItem_98 (by decide) ?_
        have h6 : x_5.toInt = (e4 : Int) + 1 := i_pl h4 (b := 1) (by decide) ex_5 (by omega) (by omega)
        have hdd := item_d (T := T) (n := n) (s := st) (by omega)
        rw [if_neg (by omega)] at h5
        exact th_iret E hr hlk hs hT_3 hS_3 ⟨by rw [hv]; exact h6, fun _ => CV.of c_3 (g1 0) (g1 1) h5⟩ dX1_readItem_103
  refine lv_aload_n hx hb dX1_readItem_0 rfl (lv_at hl 1 rfl) ?_
  refine lv_iload_n hx hb dX1_readItem_1 rfl (lv_at hl 2 rfl) ?_
  refine th_Vi (As := [.int x0]) (rest := []) E hml hl.1 (e_at l D cI cS τ ρ hW H hT a1 x0 ha1 T n st hX hi) lk_X1_39 yd_X9_at hT ha1 rfl (by decide) hS (AT.sub (by decide)) ⟨by decide, by decide⟩ (Nat.le_of_ble_eq_true rfl) ⟨by decide, by decide⟩ rfl dX1_readItem_2 (fun r_6 H_6 locs_6 p_6 hT_6 hk_6 hS_6 => ?_)
  have e6 : r_6 = T st := p_6.1 hin
  have hn200 := hX.1
  have hX6 : TX D ρ T n H_6 a1 := hX.q (hk_6 _ AT.nil) (hk_6 _ AT.nil)
  have g6 : ∀ k, fi D 1 k H_6 a0 = fi D 1 k H a0 := fun k => fi_q (hk_6 _ AT.nil)
  have hd3 := dc_le (T := T) (n := n) 3 (st + 1)
  refine lv_istore_n (lv' := [(3, .int r_6), (0, .ref a0), (1, .ref a1), (2, .int x0)]) hx hb dX1_readItem_5 rfl hl (by decide) rfl (fun ls hl => ?_)
  refine lv_aload_n hx hb dX1_readItem_6 rfl (lv_at hl 2 rfl) ?_
  refine lv_iload_n hx hb dX1_readItem_7 rfl (lv_at hl 3 rfl) ?_
  refine lv_iconst (v := 1) hx hb dX1_readItem_8 (by decide) ?_
  refine lv_iadd hx hb dX1_readItem_9 ?_
  refine lv_topi (fun x_7 ex_7 => ?_)
  refine th_Vi (As := [.int x_7]) (rest := []) E hml hl.1 (e_digitsEnd l D cI cS τ ρ hW H_6 hT_6 a1 x_7 ha1 T n (st + 1) hX6 (i_pl hi (b := 1) (by decide) ex_7 (by omega) (by omega)) (by omega)) lk_X1_43 yd_X9_digitsEnd hT_6 ha1 rfl (by decide) hS_6 (AT.sub (by decide)) ⟨by decide, by decide⟩ (Nat.le_of_ble_eq_true rfl) ⟨by decide, by decide⟩ rfl dX1_readItem_10 (fun r_8 H_8 locs_8 p_8 hT_8 hk_8 hS_8 => ?_)
  have hX8 : TX D ρ T n H_8 a1 := hX6.q (hk_8 _ AT.nil) (hk_8 _ AT.nil)
  have g8 : ∀ k, fi D 1 k H_8 a0 = fi D 1 k H a0 := fun k => (fi_q (hk_8 _ AT.nil)).trans (g6 k)
  refine lv_istore (lv' := [(4, .int r_8), (3, .int r_6), (0, .ref a0), (1, .ref a1), (2, .int x0)]) hx hb dX1_readItem_13 hl (by decide) rfl (fun ls hl => ?_)
  refine lv_aload_n hx hb dX1_readItem_15 rfl (lv_at hl 3 rfl) ?_
  refine lv_iload_n hx hb dX1_readItem_16 rfl (lv_at hl 4 rfl) ?_
  refine lv_iconst (v := 1) hx hb dX1_readItem_17 (by decide) ?_
  refine lv_iadd hx hb dX1_readItem_18 ?_
  refine lv_topi (fun x_9 ex_9 => ?_)
  refine lv_iload hx hb dX1_readItem_19 (lv_at hl 0 rfl) ?_
  refine th_Vi (As := [.int x_9, .int r_8]) (rest := []) E hml hl.1 (e_number l D cI cS τ ρ hW H_8 hT_8 a1 x_9 r_8 ha1 T n (st + 1) (dc T n (st + 1) 3) hX8 (i_pl hi (b := 1) (by decide) ex_9 (by omega) (by omega)) (by omega) hd3 p_8 (fun k hk => dc_fg 3 (st + 1) k hk)) lk_X1_46 yd_X9_number hT_8 ha1 rfl (by decide) hS_8 (AT.sub (by decide)) ⟨by decide, by decide⟩ (Nat.le_of_ble_eq_true rfl) ⟨by decide, by decide⟩ rfl dX1_readItem_21 (fun r_10 H_10 locs_10 p_10 hT_10 hk_10 hS_10 => ?_)
  have hX10 : TX D ρ T n H_10 a1 := hX8.q (hk_10 _ AT.nil) (hk_10 _ AT.nil)
  have g10 : ∀ k, fi D 1 k H_10 a0 = fi D 1 k H a0 := fun k => (fi_q (hk_10 _ AT.nil)).trans (g8 k)
  have hv1 := vl_bd (T := T) (n := n) (i := st + 1) (dc T n (st + 1) 3) (fun k hk => dc_fg 3 (st + 1) k hk)
  have m4 : (-4 : Int32).toInt = -4 := by decide
  refine lv_istore (lv' := [(5, .int r_10), (4, .int r_8), (3, .int r_6), (0, .ref a0), (1, .ref a1), (2, .int x0)]) hx hb dX1_readItem_24 hl (by decide) rfl (fun ls hl => ?_)
  refine lv_bipush (v := (-4)) hx hb dX1_readItem_26 (by decide) ?_
  refine lv_istore (lv' := [(6, .int (-4)), (5, .int r_10), (4, .int r_8), (3, .int r_6), (0, .ref a0), (1, .ref a1), (2, .int x0)]) hx hb dX1_readItem_28 hl (by decide) rfl (fun ls hl => ?_)
  refine lv_iload_n hx hb dX1_readItem_30 rfl (lv_at hl 3 rfl) ?_
  refine lv_bipush (v := 102) hx hb dX1_readItem_31 (by decide) ?_
  refine lv_icmp_ne (tgt := 71) hx hb dX1_readItem_33 (by decide) (fun c_11 => ?_) (fun c_11 => ?_)
  · have f_11 : ¬ r_6.toInt = 102 := r_ne rfl (by decide) c_11
    exact J_71 H_10 locs_10 _ r_6 r_8 r_10 (-4) (st + 1 + dc T n (st + 1) 3) hX10 g10 p_8 (by omega) e6 p_10 (itA (by rw [← e6]; exact f_11) p_10 m4) hT_10 hS_10 (lv_sub hl [4, 5, 6, 3, 2, 1, 0] rfl)
  · have f_11 : r_6.toInt = 102 := r_eq rfl (by decide) c_11
    refine lv_aload_n hx hb dX1_readItem_36 rfl (lv_at hl 5 rfl) ?_
    refine lv_iload hx hb dX1_readItem_37 (lv_at hl 2 rfl) ?_
    refine th_Vi (As := [.int r_8]) (rest := []) E hml hl.1 (e_at l D cI cS τ ρ hW H_10 hT_10 a1 r_8 ha1 T n (st + 1 + dc T n (st + 1) 3) hX10 p_8) lk_X1_39 yd_X9_at hT_10 ha1 rfl (by decide) hS_10 (AT.sub (by decide)) ⟨by decide, by decide⟩ (Nat.le_of_ble_eq_true rfl) ⟨by decide, by decide⟩ rfl dX1_readItem_39 (fun r_12 H_12 locs_12 p_12 hT_12 hk_12 hS_12 => ?_)
    have hX12 : TX D ρ T n H_12 a1 := hX10.q (hk_12 _ AT.nil) (hk_12 _ AT.nil)
    have g12 : ∀ k, fi D 1 k H_12 a0 = fi D 1 k H a0 := fun k => (fi_q (hk_12 _ AT.nil)).trans (g10 k)
    have l102 : (T st).toInt = 102 := by rw [← e6]; exact f_11
    refine lv_bipush (v := 44) hx hb dX1_readItem_42 (by decide) ?_
    refine lv_icmp_ne (tgt := 71) hx hb dX1_readItem_44 (by decide) (fun c_13 => ?_) (fun c_13 => ?_)
    · have f_13 : ¬ r_12.toInt = 44 := r_ne rfl (by decide) c_13
      exact J_71 H_12 locs_12 _ r_6 r_8 r_10 (-4) (st + 1 + dc T n (st + 1) 3) hX12 g12 p_8 (by omega) e6 p_10 (itB l102 (fun q => f_13 (by rw [p_12.1 q.1]; exact q.2)) m4) hT_12 hS_12 (lv_sub hl [4, 5, 6, 3, 2, 1, 0] rfl)
    · have f_13 : r_12.toInt = 44 := r_eq rfl (by decide) c_13
      have hlt : st + 1 + dc T n (st + 1) 3 < n := Nat.not_le.mp fun q => by have := p_12.2 q; omega
      have h44 : (T (st + 1 + dc T n (st + 1) 3)).toInt = 44 := by rw [← p_12.1 hlt]; exact f_13
      have hd4 := dc_le (T := T) (n := n) 3 (st + 1 + dc T n (st + 1) 3 + 1)
      refine lv_iload hx hb dX1_readItem_47 (lv_at hl 2 rfl) ?_
      refine lv_iconst (v := 1) hx hb dX1_readItem_49 (by decide) ?_
      refine lv_iadd hx hb dX1_readItem_50 ?_
      refine lv_topi (fun x_14 ex_14 => ?_)
      have q14 : x_14.toInt = ((st + 1 + dc T n (st + 1) 3 + 1 : Nat) : Int) := i_pl p_8 (b := 1) (by decide) ex_14 (by omega) (by omega)
      refine lv_istore (lv' := [(7, .int x_14), (6, .int (-4)), (5, .int r_10), (4, .int r_8), (3, .int r_6), (0, .ref a0), (1, .ref a1), (2, .int x0)]) hx hb dX1_readItem_51 hl (by decide) rfl (fun ls hl => ?_)
      refine lv_aload_n hx hb dX1_readItem_53 rfl (lv_at hl 6 rfl) ?_
      refine lv_iload hx hb dX1_readItem_54 (lv_at hl 0 rfl) ?_
      refine th_Vi (As := [.int x_14]) (rest := []) E hml hl.1 (e_digitsEnd l D cI cS τ ρ hW H_12 hT_12 a1 x_14 ha1 T n (st + 1 + dc T n (st + 1) 3 + 1) hX12 q14 (by omega)) lk_X1_43 yd_X9_digitsEnd hT_12 ha1 rfl (by decide) hS_12 (AT.sub (by decide)) ⟨by decide, by decide⟩ (Nat.le_of_ble_eq_true rfl) ⟨by decide, by decide⟩ rfl dX1_readItem_56 (fun r_15 H_15 locs_15 p_15 hT_15 hk_15 hS_15 => ?_)
      have hX15 : TX D ρ T n H_15 a1 := hX12.q (hk_15 _ AT.nil) (hk_15 _ AT.nil)
      refine lv_istore (lv' := [(4, .int r_15), (7, .int x_14), (6, .int (-4)), (5, .int r_10), (3, .int r_6), (0, .ref a0), (1, .ref a1), (2, .int x0)]) hx hb dX1_readItem_59 hl (by decide) rfl (fun ls hl => ?_)
      refine lv_aload_n hx hb dX1_readItem_61 rfl (lv_at hl 6 rfl) ?_
      refine lv_iload hx hb dX1_readItem_62 (lv_at hl 1 rfl) ?_
      refine lv_iload hx hb dX1_readItem_64 (lv_at hl 0 rfl) ?_
      refine th_Vi (As := [.int x_14, .int r_15]) (rest := []) E hml hl.1 (e_number l D cI cS τ ρ hW H_15 hT_15 a1 x_14 r_15 ha1 T n (st + 1 + dc T n (st + 1) 3 + 1) (dc T n (st + 1 + dc T n (st + 1) 3 + 1) 3) hX15 q14 (by omega) hd4 p_15 (fun k hk => dc_fg 3 _ k hk)) lk_X1_46 yd_X9_number hT_15 ha1 rfl (by decide) hS_15 (AT.sub (by decide)) ⟨by decide, by decide⟩ (Nat.le_of_ble_eq_true rfl) ⟨by decide, by decide⟩ rfl dX1_readItem_66 (fun r_16 H_16 locs_16 p_16 hT_16 hk_16 hS_16 => ?_)
      have hX16 : TX D ρ T n H_16 a1 := hX15.q (hk_16 _ AT.nil) (hk_16 _ AT.nil)
      have g16 : ∀ k, fi D 1 k H_16 a0 = fi D 1 k H a0 := fun k => (fi_q (hk_16 _ AT.nil)).trans ((fi_q (hk_15 _ AT.nil)).trans (g12 k))
      refine lv_istore (lv' := [(6, .int r_16), (4, .int r_15), (7, .int x_14), (5, .int r_10), (3, .int r_6), (0, .ref a0), (1, .ref a1), (2, .int x0)]) hx hb dX1_readItem_69 hl (by decide) rfl (fun ls hl => ?_)
      exact J_71 H_16 locs_16 _ r_6 r_15 r_10 r_16 (st + 1 + dc T n (st + 1) 3 + 1 + dc T n (st + 1 + dc T n (st + 1) 3 + 1) 3) hX16 g16 p_15 (by omega) e6 p_10 (itC l102 hlt h44 p_10 p_16) hT_16 hS_16 (lv_sub hl [5, 6, 7, 4, 1, 3, 0] rfl)
section FLT
variable {T : Nat → Int32} {n f s : Nat} {p b : Int}
theorem flt_ge (h : ¬ s < n) : flt T n (f + 1) s p b = (-4, p, b) := by unfold flt; rw [if_neg h]
theorem flt_no (h : s < n) (h2 : item T n s < 0) : flt T n (f + 1) s p b = ((s : Int), p, b) := by unfold flt; rw [if_pos h, if_pos h2]
theorem flt_go (h : s < n) (h2 : ¬ item T n s < 0) : flt T n (f + 1) s p b = flt T n f (item T n s).toNat (itv T n s 112 p) (itv T n s 98 b) := by conv => lhs; unfold flt; rw [if_pos h, if_neg h2]
end FLT
set_option maxHeartbeats 4000000 in
set_option maxRecDepth 100000 in
/-- StreamEnds$Config.read -/
theorem e_read (l : Launch) (D : va_G) (cI cS : ClassId) (τ : Nat → Option Nat) (ρ : Nat → Nat → Nat) (hW : WF τ ρ) (H : Heap) (hT : TH D cI cS τ ρ H) (a0 : Nat) (a1 : Nat) (ha0 : τ a0 = some 1) (ha1 : τ a1 = some 9) (T : Nat → Int32) (n : Nat) (hX : TX D ρ T n H a1) : MI l D cI cS τ ρ yX1_read cX1_read 4 (some .int) 4 92 H [.ref a0, .ref a1] (fun (r : Int32) (u : Heap) => r.toInt = (flt T n (n + 1) 0 4 16).1 ∧ ((flt T n (n + 1) 0 4 16).1 = -4 → (fi D 1 0 u a0).toInt = (flt T n (n + 1) 0 4 16).2.1 ∧ (fi D 1 1 u a0).toInt = (flt T n (n + 1) 0 4 16).2.2)) (AT τ [1]) := by
  refine MI.of (by decide) (Nat.le_of_ble_eq_true rfl) ?_
  intro p e s m args below meth c E hml hr hlk hs ls hl
  have hx := E.1
  have hb := E.2.1
  have hown := E.2.2.1
  have hts := E.2.2.2.1
  have hS : SS (AT τ [1]) H H [] := SS.rf
  have hl : lv_has ls 4 [(0, .ref a0), (1, .ref a1)] := hl
  have h300 : τ (ρ a1 0) = some 300 := hW a1 9 0 ha1 (by decide) (by decide) (by decide)
  have L_6 : ∀ (f : Nat) (H_c6 : Heap) (lc_c6 : List Loc) (ls : Array Slot) (y6_2 : Int32) (st : Nat), TX D ρ T n H_c6 a1 → y6_2.toInt = st → st ≤ n → n < st + f → (flt T n (n + 1) 0 4 16 = flt T n f st (fi D 1 0 H_c6 a0).toInt (fi D 1 1 H_c6 a0).toInt) → TH D cI cS τ ρ H_c6 → SS (AT τ [1]) H H_c6 lc_c6 → lv_has ls 4 [(0, .ref a0), (1, .ref a1), (2, .int y6_2)] → W p l e (rmO 4 92) s m args below meth c H_c6 lc_c6 0 0 (MQ below (va_Qi (fun (r : Int32) (u : Heap) => r.toInt = (flt T n (n + 1) 0 4 16).1 ∧ ((flt T n (n + 1) 0 4 16).1 = -4 → (fi D 1 0 u a0).toInt = (flt T n (n + 1) 0 4 16).2.1 ∧ (fi D 1 1 u a0).toInt = (flt T n (n + 1) 0 4 16).2.2)) (Bt D cI cS τ ρ H) (AT τ [1])) args s 0 0 (AT τ [1])) (F0 m 6 ls []) := by
    intro f
    induction f with
    | zero => intro H_c6 lc_c6 ls y6_2 st hX hy h1 h2; exact absurd h2 (by omega)
    | succ f ih_6 =>
      intro H_c6 lc_c6 ls y6_2 st hX hy h1 h2 hF hT_c6 hS_c6 hl
      have hlen := hX.2.1
      refine lv_iload_n hx hb dX1_read_6 rfl (lv_at hl 2 rfl) ?_
      refine lv_aload_n hx hb dX1_read_7 rfl (lv_at hl 1 rfl) ?_
      refine gf_X1_30 E hT_c6 ha1 dX1_read_8 ?_
      refine lv_icmp_ge (tgt := 33) hx hb dX1_read_11 (by decide) (fun c_1 => ?_) (fun c_1 => ?_)
      · have f_1 : (n : Int) ≤ y6_2.toInt := r_le hlen rfl c_1
        have hF := hF.trans (flt_ge (by omega))
        refine lv_bipush (v := (-4)) hx hb dX1_read_33 (by decide) ?_
        exact th_iret E hr hlk hs hT_c6 hS_c6 (by rw [hF]; exact ⟨(by decide : (-4 : Int32).toInt = -4), fun _ => ⟨rfl, rfl⟩⟩) dX1_read_35
      · have f_1 : y6_2.toInt < (n : Int) := r_nle hlen rfl c_1
        have hlt : st < n := by omega
        have hg := item_gt (T := T) (n := n) (s := st)
        refine lv_aload_n hx hb dX1_read_14 rfl (lv_at hl 0 rfl) ?_
        refine lv_aload_n hx hb dX1_read_15 rfl (lv_at hl 1 rfl) ?_
        refine lv_iload_n hx hb dX1_read_16 rfl (lv_at hl 2 rfl) ?_
        refine th_Vi (As := [.ref a1, .int y6_2]) (rest := []) E hml hl.1 (e_readItem l D cI cS τ ρ hW H_c6 hT_c6 a0 a1 y6_2 ha0 ha1 T n st hX hy hlt) lk_X1_35 yd_X1_readItem hT_c6 ha0 rfl (by decide) hS_c6 (AT.sub (by decide)) ⟨by decide, by decide⟩ (Nat.le_of_ble_eq_true rfl) ⟨by decide, by decide⟩ rfl dX1_read_17 (fun r_2 H_2 locs_2 p_2 hT_2 hk_2 hS_2 => ?_)
        obtain ⟨p_2, c_2⟩ := p_2
        have hX2 : TX D ρ T n H_2 a1 := hX.q (hk_2 _ (AT.out ha1 (by decide))) (hk_2 _ (AT.out h300 (by decide)))
        refine lv_istore_n (lv' := [(3, .int r_2), (0, .ref a0), (1, .ref a1), (2, .int y6_2)]) hx hb dX1_read_20 rfl hl (by decide) rfl (fun ls hl => ?_)
        refine lv_iload_n hx hb dX1_read_21 rfl (lv_at hl 0 rfl) ?_
        refine lv_iload_n hx hb dX1_read_22 rfl (lv_at hl 3 rfl) ?_
        refine lv_icmp_gt (tgt := 28) hx hb dX1_read_23 (by decide) (fun c_3 => ?_) (fun c_3 => ?_)
        · have f_3 : y6_2.toInt < r_2.toInt := r_lt rfl rfl c_3
          refine lv_iload_n hx hb dX1_read_28 rfl (lv_at hl 0 rfl) ?_
          refine lv_istore_n (lv' := [(2, .int r_2), (3, .int r_2), (0, .ref a0), (1, .ref a1)]) hx hb dX1_read_29 rfl hl (by decide) rfl (fun ls hl => ?_)
          refine lv_goto (tgt := 6) hx hb dX1_read_30 (by decide) ?_
          have c_2 := c_2 (by omega)
          exact ih_6 H_2 locs_2 _ r_2 (item T n st).toNat hX2 (by omega) (by omega) (by omega) (by rw [c_2.1, c_2.2, hF]; exact flt_go hlt (by omega)) hT_2 hS_2 (lv_sub hl [2, 3, 0] rfl)
        · have f_3 : r_2.toInt ≤ y6_2.toInt := r_nlt rfl rfl c_3
          refine lv_iload_n hx hb dX1_read_26 rfl (lv_at hl 3 rfl) ?_
          have hF := hF.trans (flt_no hlt (by omega))
          exact th_iret E hr hlk hs hT_2 hS_2 (by rw [hF]; exact ⟨hy, fun q => by have q : (st : Int) = -4 := q; omega⟩) dX1_read_27
  refine lv_aload_n hx hb dX1_read_0 rfl (lv_at hl 0 rfl) ?_
  refine th_Vv (As := []) (rest := []) E hml hl.1 (c_X1_setDefaults l D cI cS τ ρ hW H hT a0 ha0) lk_X1_9 yd_X1_setDefaults hT ha0 rfl (by decide) hS (fun q h => by have h : q = a0 := h; rw [h]; exact ⟨1, ha0, by decide⟩) ⟨by decide, by decide⟩ (Nat.le_of_ble_eq_true rfl) ⟨by decide, by decide⟩ rfl dX1_read_1 (fun H_4 locs_4 p_4 hT_4 hk_4 hS_4 => ?_)
  refine lv_iconst (v := 0) hx hb dX1_read_4 (by decide) ?_
  refine lv_istore_n (lv' := [(2, .int 0), (0, .ref a0), (1, .ref a1)]) hx hb dX1_read_5 rfl hl (by decide) rfl (fun ls hl => ?_)
  have n1 : a1 ≠ a0 := fun q => by rw [q, ha0] at ha1; exact absurd ha1 (by decide)
  have n3 : ρ a1 0 ≠ a0 := fun q => by rw [q, ha0] at h300; exact absurd h300 (by decide)
  exact L_6 (n + 1) H_4 locs_4 _ 0 0 (hX.q (hk_4 _ n1) (hk_4 _ n3)) (by decide) (by omega) (by omega) (by rw [p_4.1, p_4.2.1]; rfl) hT_4 hS_4 (lv_sub hl [1, 2, 0] rfl)
set_option maxHeartbeats 4000000 in
set_option maxRecDepth 100000 in
/-- StreamEnds.fault -/
theorem e_fault (l : Launch) (D : va_G) (cI cS : ClassId) (τ : Nat → Option Nat) (ρ : Nat → Nat → Nat) (hW : WF τ ρ) (H : Heap) (hT : TH D cI cS τ ρ H) (a0 : Nat) (ha0 : τ a0 = some 11) (T : Nat → Int32) (n : Nat) (hX : TX D ρ T n H (ρ a0 0)) : MI l D cI cS τ ρ yX11_fault cX11_fault 1 (some .int) 5 115 H [.ref a0] (fun (r : Int32) (u : Heap) => r.toInt = (flt T n (n + 1) 0 4 16).1) (AT τ [1]) := by
  refine MI.of (by decide) (Nat.le_of_ble_eq_true rfl) ?_
  intro p e s m args below meth c E hml hr hlk hs ls hl
  have hx := E.1
  have hb := E.2.1
  have hown := E.2.2.1
  have hts := E.2.2.2.1
  have hS : SS (AT τ [1]) H H [] := SS.rf
  have hl : lv_has ls 1 [(0, .ref a0)] := hl
  refine lv_aload_n hx hb dX11_fault_0 rfl (lv_at hl 0 rfl) ?_
  refine gf_X11_19 E hT hW ha0 dX11_fault_1 (fun h_1 => ?_)
  refine lv_aload_n hx hb dX11_fault_4 rfl (lv_at hl 0 rfl) ?_
  refine gf_X11_10 E hT hW ha0 dX11_fault_5 (fun h_2 => ?_)
  refine th_Vi (As := [.ref (ρ a0 0)]) (rest := []) E hml hl.1 (e_read l D cI cS τ ρ hW H hT (ρ a0 1) (ρ a0 0) h_1 h_2 T n hX) lk_X11_54 yd_X1_read hT h_1 rfl (by decide) hS (AT.sub (by decide)) ⟨by decide, by decide⟩ (Nat.le_of_ble_eq_true rfl) ⟨by decide, by decide⟩ rfl dX11_fault_8 (fun r_3 H_3 locs_3 p_3 hT_3 hk_3 hS_3 => ?_)
  exact th_iret E hr hlk hs hT_3 hS_3 p_3.1 dX11_fault_11
