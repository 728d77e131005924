/-! THE LAW'S CASES -/
theorem qw_1265 : Cond.instantiable RX11 4 ∈ TT := q_in (List.mem_append_right _ (List.mem_append_left _ (List.mem_of_getElem? (i := 17) (by decide +kernel)))) rfl
theorem qw_1266 : Cond.instantiable RX12 16 ∈ TT := q_in (List.mem_append_right _ (List.mem_append_right _ (List.mem_append_right _ (List.mem_append_right _ (List.mem_append_right _ (List.mem_append_left _ (List.mem_of_getElem? (i := 14) (by decide +kernel)))))))) rfl
theorem qn_178_2 {B : Nat} : rq B (B + 178) 2 = B + 181 := rq_at
theorem qn_178_3 {B : Nat} : rq B (B + 178) 3 = B + 182 := rq_at
theorem qn_178_4 {B : Nat} : rq B (B + 178) 4 = B + 183 := rq_at
theorem qn_178_15 {B : Nat} : rq B (B + 178) 15 = B + 185 := rq_at
theorem qn_178_9 {B : Nat} : rq B (B + 178) 9 = B + 184 := rq_at
theorem qn_178_0 {B : Nat} : rq B (B + 178) 0 = B + 179 := rq_at
theorem qn_178_1 {B : Nat} : rq B (B + 178) 1 = B + 180 := rq_at
theorem qx_16 {B : Nat} : rq B (rq B (B + 0) 0) 0 = B + 2 := (congrArg (fun q => rq B q 0) qx_1).trans rq_at
theorem ttX (B : Nat) : tq B 0 178 (B + 0) = some 11 := (tq_at (by decide) (by decide)).trans (by decide +kernel)
theorem ttM (B : Nat) : tq B 178 186 (B + 178) = some 12 := (tq_at (by decide) (by decide)).trans (by decide +kernel)
theorem ttT {B : Nat} : tq B 0 178 (rq B (B + 0) 0) = some 9 := by
  rw [qx_1]
  exact (tq_at (by decide) (by decide)).trans (by decide +kernel)
theorem ttR {B : Nat} : tq B 0 178 (rq B (rq B (B + 0) 0) 0) = some 300 := by
  rw [qx_16]
  exact (tq_at (by decide) (by decide)).trans (by decide +kernel)
theorem TH.same {D : va_G} {cI cS : ClassId} {τ : Nat → Option Nat} {ρ : Nat → Nat → Nat} {H H1 : Heap} (h : TH D cI cS τ ρ H) (e : ∀ q t, τ q = some t → H1[q]? = H[q]?) : TH D cI cS τ ρ H1 := fun a t ha => sh_q (h a t ha) (e a t ha)
theorem at_in {B q : Nat} {L : List Nat} (h : AT (tq B 0 178) L q) : B ≤ q ∧ q < B + 178 := by
  obtain ⟨t, a, -⟩ := h
  obtain ⟨j, rfl, h1, h2, -⟩ := tq_some a
  omega
theorem IM.kept {D : va_G} {N : Int} {B : Nat} {H H1 : Heap} (h : IM D (rq B) N H (B + 178)) (oq : ∀ q, B + 178 ≤ q → H1[q]? = H[q]?) : IM D (rq B) N H1 (B + 178) :=
  ⟨PW.q (oq _ (by rw [qn_178_0]; omega)) h.1, QS.q (oq _ (by rw [qn_178_0]; omega)) h.2.1, QS.q (oq _ (by rw [qn_178_0]; omega)) h.2.2.1, PL.q (oq _ (by rw [qn_178_2]; omega)) h.2.2.2.1, PL.q (oq _ (by rw [qn_178_3]; omega)) h.2.2.2.2.1, IF.q (oq _ (by omega)) h.2.2.2.2.2⟩
/-- what holds at the loop's head after n calls -/
def LV (D : va_G) (cI cS : ClassId) (B : Nat) (n : Int) (H : Heap) : Prop := TH D cI cS (tq B 0 178) (rq B) H ∧ TH D cI cS (tq B 178 186) (rq B) H ∧ IM D (rq B) n H (B + 178) ∧ ∃ (T : Nat → Int32) (k : Nat), TX D (rq B) T k H (rq B (B + 0) 0) ∧ RX D (rq B) T k H (B + 178)
abbrev KL (p : Program) (l : Launch) (e : Env) (s : State) (m : MethodId) (args : Array Value) (below : List Frame) (meth : Method) (c : Code) (ls : Array Slot) (Q : State → Prop) (D : va_G) (cI cS : ClassId) (n : Int) (B b L : Nat) (xs : Nat → Int32) : Prop := ∀ (H1 : Heap) (locs1 : List Loc), (∀ x ∈ locs1, B ≤ x.base) → va_X b L xs s H1 → LV D cI cS B (n + 1) H1 → W p l e room_1 s m args below meth c H1 locs1 600000 7302250 Q (F0 m 766 ls [])
abbrev WL (p : Program) (l : Launch) (e : Env) (s : State) (m : MethodId) (args : Array Value) (below : List Frame) (meth : Method) (c : Code) (H : Heap) (locs : List Loc) (ls : Array Slot) (Q : State → Prop) (pc : Nat) : Prop := W p l e room_1 s m args below meth c H locs 600000 7302250 Q (F0 m pc ls [])
theorem idx_in {i c : Int32} {k : Int} {L : Nat} (hc : c.toInt = k) (hk : 0 ≤ k ∧ k ≤ 3) (h0 : 0 ≤ i.toInt) (h1 : i.toInt + k < L) (hL : L ≤ 2048) : vp_in (i + c) L := by
  have q : (i + c).toInt = i.toInt + k := i_pl rfl hc rfl (by omega) (by omega)
  exact vp_in_iff.mpr ⟨by omega, by omega⟩
section LWR
variable {p : Program} {l : Launch} {e : Env} {R : Room} {s : State} {m : MethodId} {args : Array Value} {below : List Frame} {meth : Method} {c : Code} {H : Heap} {locs : List Loc} {cells slots : Nat} {Q : State → Prop}
variable {cc : ByteArray} {pc : Nat} {ls : Array Slot} {rest : List Value} {D : va_G} {cI cS : ClassId} {own : String} {H0 : Heap} {B b i : Nat} {xs : Nat → Int32}
theorem lw_sldg {L : Nat} {x : Int32} (hx : p.tables.exec = Jvm.exec) (hb : c.code = cc) (hX : va_X b L xs s H) (hin : vp_in x L) (hdg : decode cc pc = .ok (.iaload, 1))
    (kk : W p l e R s m args below meth c H locs cells slots Q (F0 m (pc + 1) ls (.int (xs x.toNatClampNeg) :: rest))) : W p l e R s m args below meth c H locs cells slots Q (F0 m pc ls (.int x :: .ref b :: rest)) := by
  obtain ⟨scr, g1, g2, g3, g4, g5⟩ := hX
  have hlt : x.toNatClampNeg < L := Nat.not_le.mp fun q => hin (Or.inr q)
  exact W.iald (v := .int (xs x.toNatClampNeg)) hx hb g1 g2 g3 (by rw [g4]; exact hin) (g5 _ hlt) rfl rfl hdg kk
theorem lw_slen {L : Nat} (hx : p.tables.exec = Jvm.exec) (hb : c.code = cc) (hX : va_X b L xs s H) (hdg : decode cc pc = .ok (.arraylength, 1))
    (kk : W p l e R s m args below meth c H locs cells slots Q (F0 m (pc + 1) ls (.int (Int32.ofNat L) :: rest))) : W p l e R s m args below meth c H locs cells slots Q (F0 m pc ls (.ref b :: rest)) := by
  obtain ⟨scr, g1, g2, g3, g4, g5⟩ := hX
  exact W.alen (n := Int32.ofNat L) hx hb g1 g2 (by rw [g4] <;> rfl) rfl rfl hdg kk
theorem lw_new {u index N n : Nat} {T : u_T} {C : String} (ty : Nat → FieldType) (E : EE p s m args c cc own D cI cS) (hz : H.size = n) (hin : ∀ w ∈ u_ws C T N, w ∈ TT) (hc : vwCl[u]? = some (C, T, N)) (hN : nF u = N) (hty : ∀ k, k < N → parseFieldDescriptor (T k).2.2.1 = some (ty k)) (w1 : Cond.classLink own index C ∈ TT) (w2 : Cond.instantiable C N ∈ TT) (w3 : Cond.initialized C ∈ TT) (hcells : cells + 1 ≤ R.cells) (hslots : slots + N ≤ R.slots) (hdg : decode cc pc = .ok (.new index, 3))
    (kk : ∀ (H1 : Heap), H1.size = n + 1 → (∀ q : Nat, q < n → H1[q]? = H[q]?) → t_OB n (D.1 u) (nF u) (D.2 u) H1 (fun k => defaultValue (ty k)) → W p l e R s m args below meth c H1 locs (cells + 1) (slots + N) Q (F0 m (pc + 3) ls (.ref n :: rest))) : W p l e R s m args below meth c H locs cells slots Q (F0 m pc ls rest) := by
  obtain ⟨hx, hb, hown, hts, hK⟩ := E
  have hKn := hK.1 u _ hc
  subst hN
  refine W.newcK hx hb hown (hts _ w1) (hts _ w2) (hts _ w3) rfl hdg hcells hslots hKn.2.1 hz fun H1 kC hkC e1 z1 o1 => ?_
  exact kk H1 z1 o1 (u_born ty hts hin hKn hkC e1 hty)
theorem lw_ctor {nL nl fr lo2 mc ms idx : Nat} {y : MethodName} {bb : ByteArray} {post : Heap → Prop} (E : EE p s m args c cc own D cI cS) (hNW : NW s) (hml : c.maxLocals = nL) (hl : ls.size = nL) (hz : H.size = B + (i + 1)) (hM : MC l D cI cS B i y bb nl fr lo2 mc ms H [.ref (B + i)] post)
    (w1 : Cond.code y bb nl none ∈ TT) (w2 : Cond.initialized y.cls ∈ TT) (w3 : Cond.methodLink own idx y ∈ TT) (w4 : Cond.instanceMethod y ∈ TT) (hyn : y.name = "<init>") (hyd : y.cls ≠ "java/lang/invoke/MethodHandle" ∧ y.cls ≠ "java/lang/invoke/VarHandle" ∧ (parseMethodDescriptor y.desc).map (fun d => d.parameters.length) = some 0) (hR : fr + 1 ≤ R.frames ∧ 8 + (nl + 11) + lo2 ≤ R.locals) (hw : (rest.map fun v => v.category).sum ≤ 8) (hcs : cells + mc ≤ R.cells ∧ slots + ms ≤ R.slots) (hlo : ∀ x ∈ locs, B ≤ x.base) (hdg : decode cc pc = .ok (.invokespecial idx, 3))
    (kk : ∀ (H1 : Heap) (locs1 : List Loc), post H1 → (∀ q : Nat, q < B + i → H1[q]? = H[q]?) → (∀ x ∈ locs1, B ≤ x.base) → W p l e R s m args below meth c H1 locs1 (cells + mc) (slots + ms) Q (F0 m (pc + 3) ls rest)) : W p l e R s m args below meth c H locs cells slots Q (F0 m pc ls (.ref (B + i) :: rest)) := by
  refine va_callv (A0 := fun q => B ≤ q) (H0 := H) (va_runI (As := []) (rest := rest) ⟨E.1, E.2.1, hml, E.2.2.1, E.2.2.2.1⟩ hM (cwI 0 E.2.2.2.1 (q_WS w1) rfl rfl rfl (E.2.2.2.1 _ w2) (E.2.2.2.1 _ w3) (E.2.2.2.1 _ w4) hyn hyd hR) ⟨cr_blind, fun U hU hW => ⟨rfl, hU, va_K.moved hW.alike E.2.2.2.2, NW.warm hW hNW⟩⟩ rfl rfl hl rfl (lv_room hw) hdg hcs) ⟨Nat.le_refl _, fun _ _ _ => rfl, hlo⟩ (fun q _ h => ?_) (fun q h => ?_) (fun u z H1 locs1 hz1 hvm hp hB hsz hk hS1 => ?_)
  · show B ≤ q
    have h : B + i ≤ q := h
    omega
  · show B ≤ q
    have h : B + i ≤ q := h
    omega
  · have e : u = H1 := hB.symm.trans hz1
    subst e
    exact kk u locs1 hp (fun q hq => hk q (by omega) (fun h => by have h : B + i ≤ q := h; omega)) hS1.2.2
end LWR
theorem kk_start {args : Array Value} {s : State} (hts : ∀ w ∈ TT, w.before args s = true) (hA : va_AO RX8 s) : ∃ (D : va_G) (cI cS : ClassId), KK D cI cS s := by
  obtain ⟨c0, i0, k0⟩ := u_known (C := RX0) (T := TX0) (N := 1) (n := 1) hts inlX0 (hts _ qw_1187)
  obtain ⟨c1, i1, k1⟩ := u_known (C := RX1) (T := TX1) (N := 5) (n := 5) hts inlX1 (hts _ qw_1183)
  obtain ⟨c2, i2, k2⟩ := u_known (C := RX2) (T := TX2) (N := 10) (n := 10) hts inlX2 (hts _ qw_1190)
  obtain ⟨c3, i3, k3⟩ := u_known (C := RX3) (T := TX3) (N := 7) (n := 7) hts inlX3 (hts _ qw_1178)
  obtain ⟨c4, i4, k4⟩ := u_known (C := RX4) (T := TX4) (N := 10) (n := 10) hts inlX4 (hts _ qw_1200)
  obtain ⟨c5, i5, k5⟩ := u_known (C := RX5) (T := TX5) (N := 8) (n := 8) hts inlX5 (hts _ qw_1176)
  obtain ⟨c6, i6, k6⟩ := u_known (C := RX6) (T := TX6) (N := 3) (n := 3) hts inlX6 (hts _ qw_1192)
  obtain ⟨c7, i7, k7⟩ := u_known (C := RX7) (T := TX7) (N := 7) (n := 7) hts inlX7 (hts _ qw_1180)
  obtain ⟨c8, i8, k8⟩ := u_known (C := RX8) (T := TX8) (N := 10) (n := 10) hts inlX8 (hts _ qw_1195)
  obtain ⟨c9, i9, k9⟩ := u_known (C := RX9) (T := TX9) (N := 2) (n := 2) hts inlX9 (hts _ qw_1197)
  obtain ⟨c10, i10, k10⟩ := u_known (C := RX10) (T := TX10) (N := 6) (n := 6) hts inlX10 (hts _ qw_1185)
  obtain ⟨c11, i11, k11⟩ := u_known (C := RX11) (T := TX11) (N := 4) (n := 4) hts inlX11 (hts _ qw_1265)
  obtain ⟨c12, i12, k12⟩ := u_known (C := RX12) (T := TX12) (N := 16) (n := 16) hts inlX12 (hts _ qw_1266)
  obtain ⟨cI, kI, cm, f1, f2, f3⟩ := Cond.arrayClass_spec (hts _ qw_1222)
  obtain ⟨comp, cS, kS, g1, g2, g3, g4, g5⟩ := Cond.arrayOver_spec hA
  refine ⟨(fun k => [c0, c1, c2, c3, c4, c5, c6, c7, c8, c9, c10, c11, c12].getD k c0, fun k => [i0, i1, i2, i3, i4, i5, i6, i7, i8, i9, i10, i11, i12].getD k i0), cI, cS, ?_, ?_⟩
  · intro k q hq
    match k, hq with
    | 0, hq => cases hq; exact k0
    | 1, hq => cases hq; exact k1
    | 2, hq => cases hq; exact k2
    | 3, hq => cases hq; exact k3
    | 4, hq => cases hq; exact k4
    | 5, hq => cases hq; exact k5
    | 6, hq => cases hq; exact k6
    | 7, hq => cases hq; exact k7
    | 8, hq => cases hq; exact k8
    | 9, hq => cases hq; exact k9
    | 10, hq => cases hq; exact k10
    | 11, hq => cases hq; exact k11
    | 12, hq => cases hq; exact k12
    | k + 13, hq => simp [vwCl] at hq
  · intro k q hq
    match k, hq with
    | 0, hq => cases hq; exact ⟨fun n z => ⟨fun k h => (by cases h), kI, f2, cm, f3⟩, f1⟩
    | 1, hq => cases hq; exact ⟨fun n z => ⟨fun k h => (by cases h), kS, g3, comp, g4⟩, kS, comp, g3, g4, g1, g5⟩
    | k + 2, hq => simp at hq
section LWC
variable {p : Program} {l : Launch} {e : Env} {s : State} {m : MethodId} {args : Array Value} {below : List Frame} {meth : Method} {c : Code} {H : Heap} {locs : List Loc} {Q : State → Prop}
variable {ls : Array Slot} {D : va_G} {cI cS : ClassId} {B b L : Nat} {xs : Nat → Int32} {i : Int32} {n : Int}
set_option maxHeartbeats 4000000 in
set_option maxRecDepth 100000 in
theorem v_write (E : EE p s m args c cL_law RL D cI cS) (hml : c.maxLocals = 4) (hl : lv_has ls 4 [(3, .int i), (2, .ref (B + 178)), (1, .ref (B + 0)), (0, .ref b)]) (hWX : WF (tq B 0 178) (rq B)) (hWM : WF (tq B 178 186) (rq B)) (hLV : LV D cI cS B n H) (hn0 : 0 ≤ n) (hn1 : n + 1 ≤ 600) (hi0 : 0 ≤ i.toInt) (hi1 : i.toInt + 4 ≤ L) (hL : L ≤ 2048) (hX : va_X b L xs s H) (hbB : b < B) (hlo : ∀ x ∈ locs, B ≤ x.base) (kk : KL p l e s m args below meth c ls Q D cI cS n B b L xs) : WL p l e s m args below meth c H locs ls Q 144 := by
  obtain ⟨hTX, hTM, hM0, T, k, hX9, hX12⟩ := hLV
  have hx := E.1
  have hb := E.2.1
  have hv_1 : vp_in (i + 1) L := idx_in (k := 1) (by decide) (by decide) hi0 (by omega) hL
  have hv_2 : vp_in (i + 2) L := idx_in (k := 2) (by decide) (by decide) hi0 (by omega) hL
  have hv_3 : vp_in (i + 3) L := idx_in (k := 3) (by decide) (by decide) hi0 (by omega) hL
  refine lv_aload_n hx hb dL_law_144 rfl (lv_at hl 2 rfl) ?_
  refine lv_aload_n hx hb dL_law_145 rfl (lv_at hl 3 rfl) ?_
  refine lv_iload_n hx hb dL_law_146 rfl (lv_at hl 0 rfl) ?_
  refine lv_iconst (v := 1) hx hb dL_law_147 (by decide) ?_
  refine lv_iadd hx hb dL_law_148 ?_
  refine lw_sldg hx hb hX hv_1 dL_law_149 ?_
  refine th_Vi (A := fun q => B ≤ q) (As := [.int (xs (i + 1).toNatClampNeg)]) (rest := []) E hml hl.1 (e_write l D cI cS (tq B 0 178) (rq B) hWX H hTX (B + 0) (xs (i + 1).toNatClampNeg) (ttX B) T k hX9) lk_L_13 yd_X11_write hTX (ttX B) rfl (by decide) ⟨rfl, fun _ _ => rfl, hlo⟩ (fun q h => (at_in h).1) ⟨Nat.le_of_ble_eq_true rfl, Nat.le_of_ble_eq_true rfl⟩ (Nat.le_of_ble_eq_true rfl) ⟨Nat.le_of_ble_eq_true rfl, Nat.le_of_ble_eq_true rfl⟩ rfl dL_law_150 (fun r_1 H_1 locs_1 p_1 hT_1 hk_1 hS_1 => ?_)
  have hX_1 : va_X b L xs s H_1 := hX.kept (hS_1.2.1 b (Nat.not_le.mpr hbB))
  have kM : ∀ q, B + 178 ≤ q → H_1[q]? = H[q]? := fun q hq => hk_1 q (fun h => by have := (at_in h).2; omega)
  have hTX := hT_1
  have hTM := hTM.same (H1 := H_1) (fun q t h => kM q (by obtain ⟨j, rfl, z1, -, -⟩ := tq_some h; omega))
  have hMa := hM0.kept (H1 := H_1) kM
  have hMb := hMa.mono (N1 := n + 1) (by omega)
  have e5 : fi D 12 5 H_1 (B + 178) = fi D 12 5 H (B + 178) := fi_q (kM _ (by omega))
  have hX9_1 : TX D (rq B) (nx T k (xs (i + 1).toNatClampNeg)).1 (nx T k (xs (i + 1).toNatClampNeg)).2 H_1 (rq B (B + 0) 0) := p_1
  have hX12 : RX D (rq B) T k H_1 (B + 178) := hX12.q (fi_q (kM _ (by omega))) (kM _ (by rw [qn_178_4]; omega))
  refine lv_pop hx hb dL_law_153 rfl ?_
  refine lv_aload_n hx hb dL_law_154 rfl (lv_at hl 1 rfl) ?_
  refine lv_aload_n hx hb dL_law_155 rfl (lv_at hl 3 rfl) ?_
  refine lv_iload_n hx hb dL_law_156 rfl (lv_at hl 0 rfl) ?_
  refine lv_iconst (v := 1) hx hb dL_law_157 (by decide) ?_
  refine lv_iadd hx hb dL_law_158 ?_
  refine lw_sldg hx hb hX_1 hv_1 dL_law_159 ?_
  refine th_Vi (A := fun q => B ≤ q) (As := [.int (xs (i + 1).toNatClampNeg)]) (rest := []) E hml hl.1 (f_write l D cI cS (tq B 178 186) (rq B) hWM H_1 hTM (B + 178) (xs (i + 1).toNatClampNeg) (ttM B) (n + 1) (by omega) hn1 hMb T k hX12) lk_L_17 yd_X12_write hTM (ttM B) rfl (by decide) ⟨rfl, fun _ _ => rfl, hS_1.2.2⟩ (fun q h => by have h : q = rq B (B + 178) 4 ∨ q = B + 178 := h; simp only [qn_178_4] at h; show B ≤ q; omega) ⟨Nat.le_of_ble_eq_true rfl, Nat.le_of_ble_eq_true rfl⟩ (Nat.le_of_ble_eq_true rfl) ⟨Nat.le_of_ble_eq_true rfl, Nat.le_of_ble_eq_true rfl⟩ rfl dL_law_160 (fun r_2 H_2 locs_2 p_2 hT_2 hk_2 hS_2 => ?_)
  have hX_2 : va_X b L xs s H_2 := hX_1.kept (hS_2.2.1 b (Nat.not_le.mpr hbB))
  have kX : ∀ q, q < B + 178 → H_2[q]? = H_1[q]? := fun q hq => hk_2 q (fun h => by have h : q = rq B (B + 178) 4 ∨ q = B + 178 := h; simp only [qn_178_4] at h; omega)
  have hTX := hTX.same (H1 := H_2) (fun q t h => kX q (by obtain ⟨j, rfl, -, z1, -⟩ := tq_some h; omega))
  have hX9_2 : TX D (rq B) _ _ H_2 (rq B (B + 0) 0) := hX9_1.q (kX _ (by rw [qx_1]; omega)) (kX _ (by rw [qx_16]; omega))
  have hMc : IM D (rq B) (n + 1) H_2 (B + 178) := p_2.1
  have hX12_2 : RX D (rq B) (nx T k (xs (i + 1).toNatClampNeg)).1 (nx T k (xs (i + 1).toNatClampNeg)).2 H_2 (B + 178) := p_2.2
  have hLV2 : LV D cI cS B (n + 1) H_2 := ⟨hTX, hT_2, hMc, _, _, hX9_2, hX12_2⟩
  refine lv_pop hx hb dL_law_163 rfl ?_
  refine lv_goto (tgt := 766) hx hb dL_law_164 (by decide) ?_
  exact kk H_2 locs_2 hS_2.2.2 hX_2 hLV2
set_option maxHeartbeats 4000000 in
set_option maxRecDepth 100000 in
theorem v_wipe (E : EE p s m args c cL_law RL D cI cS) (hml : c.maxLocals = 4) (hl : lv_has ls 4 [(3, .int i), (2, .ref (B + 178)), (1, .ref (B + 0)), (0, .ref b)]) (hWX : WF (tq B 0 178) (rq B)) (hWM : WF (tq B 178 186) (rq B)) (hLV : LV D cI cS B n H) (hn0 : 0 ≤ n) (hn1 : n + 1 ≤ 600) (hi0 : 0 ≤ i.toInt) (hi1 : i.toInt + 4 ≤ L) (hL : L ≤ 2048) (hX : va_X b L xs s H) (hbB : b < B) (hlo : ∀ x ∈ locs, B ≤ x.base) (kk : KL p l e s m args below meth c ls Q D cI cS n B b L xs) : WL p l e s m args below meth c H locs ls Q 167 := by
  obtain ⟨hTX, hTM, hM0, T, k, hX9, hX12⟩ := hLV
  have hx := E.1
  have hb := E.2.1
  refine lv_aload_n hx hb dL_law_167 rfl (lv_at hl 2 rfl) ?_
  refine th_Vi (A := fun q => B ≤ q) (As := []) (rest := []) E hml hl.1 (zx_X11_wipe l D cI cS (tq B 0 178) (rq B) hWX H hTX (B + 0) (ttX B)) lk_L_18 yd_X11_wipe hTX (ttX B) rfl (by decide) ⟨rfl, fun _ _ => rfl, hlo⟩ (fun q h => (at_in h).1) ⟨Nat.le_of_ble_eq_true rfl, Nat.le_of_ble_eq_true rfl⟩ (Nat.le_of_ble_eq_true rfl) ⟨Nat.le_of_ble_eq_true rfl, Nat.le_of_ble_eq_true rfl⟩ rfl dL_law_168 (fun r_1 H_1 locs_1 p_1 hT_1 hk_1 hS_1 => ?_)
  have hX_1 : va_X b L xs s H_1 := hX.kept (hS_1.2.1 b (Nat.not_le.mpr hbB))
  have kM : ∀ q, B + 178 ≤ q → H_1[q]? = H[q]? := fun q hq => hk_1 q (fun h => by have := (at_in h).2; omega)
  have hTX := hT_1
  have hTM := hTM.same (H1 := H_1) (fun q t h => kM q (by obtain ⟨j, rfl, z1, -, -⟩ := tq_some h; omega))
  have hMa := hM0.kept (H1 := H_1) kM
  have hMb := hMa.mono (N1 := n + 1) (by omega)
  have e5 : fi D 12 5 H_1 (B + 178) = fi D 12 5 H (B + 178) := fi_q (kM _ (by omega))
  have px : r_1.toInt = (fi D 9 1 H (rq B (B + 0) 0)).toInt ∧ (fi D 9 1 H_1 (rq B (B + 0) 0)).toInt = 0 := p_1
  have hX9_1 : TX D (rq B) T 0 H_1 (rq B (B + 0) 0) := TX.nil px.2
  have hX12 : RX D (rq B) T k H_1 (B + 178) := hX12.q (fi_q (kM _ (by omega))) (kM _ (by rw [qn_178_4]; omega))
  refine lv_pop hx hb dL_law_171 rfl ?_
  refine lv_aload_n hx hb dL_law_172 rfl (lv_at hl 1 rfl) ?_
  refine th_Vi (A := fun q => B ≤ q) (As := []) (rest := []) E hml hl.1 (y_wipe l D cI cS (tq B 178 186) (rq B) hWM H_1 hTM (B + 178) (ttM B) (n + 1) (by omega) hn1 hMb) lk_L_22 yd_X12_wipe hTM (ttM B) rfl (by decide) ⟨rfl, fun _ _ => rfl, hS_1.2.2⟩ (fun q h => by have h : q = B + 178 := h; show B ≤ q; omega) ⟨Nat.le_of_ble_eq_true rfl, Nat.le_of_ble_eq_true rfl⟩ (Nat.le_of_ble_eq_true rfl) ⟨Nat.le_of_ble_eq_true rfl, Nat.le_of_ble_eq_true rfl⟩ rfl dL_law_173 (fun r_2 H_2 locs_2 p_2 hT_2 hk_2 hS_2 => ?_)
  have hX_2 : va_X b L xs s H_2 := hX_1.kept (hS_2.2.1 b (Nat.not_le.mpr hbB))
  have kX : ∀ q, q < B + 178 → H_2[q]? = H_1[q]? := fun q hq => hk_2 q (fun h => by have h : q = B + 178 := h; omega)
  have hTX := hTX.same (H1 := H_2) (fun q t h => kX q (by obtain ⟨j, rfl, -, z1, -⟩ := tq_some h; omega))
  have hX9_2 : TX D (rq B) _ _ H_2 (rq B (B + 0) 0) := hX9_1.q (kX _ (by rw [qx_1]; omega)) (kX _ (by rw [qx_16]; omega))
  have hMc : IM D (rq B) (n + 1) H_2 (B + 178) := p_2.1
  have pm : r_2.toInt = (fi D 12 5 H_1 (B + 178)).toInt ∧ (fi D 12 5 H_2 (B + 178)).toInt = 0 := p_2.2
  have hX12_2 : RX D (rq B) T 0 H_2 (B + 178) := RX.nil pm.2
  have hLV2 : LV D cI cS B (n + 1) H_2 := ⟨hTX, hT_2, hMc, _, _, hX9_2, hX12_2⟩
  refine lv_pop hx hb dL_law_176 rfl ?_
  refine lv_goto (tgt := 766) hx hb dL_law_177 (by decide) ?_
  exact kk H_2 locs_2 hS_2.2.2 hX_2 hLV2
set_option maxHeartbeats 4000000 in
set_option maxRecDepth 100000 in
theorem v_fault (E : EE p s m args c cL_law RL D cI cS) (hml : c.maxLocals = 4) (hl : lv_has ls 4 [(3, .int i), (2, .ref (B + 178)), (1, .ref (B + 0)), (0, .ref b)]) (hWX : WF (tq B 0 178) (rq B)) (hWM : WF (tq B 178 186) (rq B)) (hLV : LV D cI cS B n H) (hn0 : 0 ≤ n) (hn1 : n + 1 ≤ 600) (hi0 : 0 ≤ i.toInt) (hi1 : i.toInt + 4 ≤ L) (hL : L ≤ 2048) (hX : va_X b L xs s H) (hbB : b < B) (hlo : ∀ x ∈ locs, B ≤ x.base) (kk : KL p l e s m args below meth c ls Q D cI cS n B b L xs) : WL p l e s m args below meth c H locs ls Q 180 := by
  obtain ⟨hTX, hTM, hM0, T, k, hX9, hX12⟩ := hLV
  have hx := E.1
  have hb := E.2.1
  refine lv_aload_n hx hb dL_law_180 rfl (lv_at hl 2 rfl) ?_
  refine th_Vi (A := fun q => B ≤ q) (As := []) (rest := []) E hml hl.1 (e_fault l D cI cS (tq B 0 178) (rq B) hWX H hTX (B + 0) (ttX B) T k hX9) lk_L_23 yd_X11_fault hTX (ttX B) rfl (by decide) ⟨rfl, fun _ _ => rfl, hlo⟩ (fun q h => (at_in h).1) ⟨Nat.le_of_ble_eq_true rfl, Nat.le_of_ble_eq_true rfl⟩ (Nat.le_of_ble_eq_true rfl) ⟨Nat.le_of_ble_eq_true rfl, Nat.le_of_ble_eq_true rfl⟩ rfl dL_law_181 (fun r_1 H_1 locs_1 p_1 hT_1 hk_1 hS_1 => ?_)
  have hX_1 : va_X b L xs s H_1 := hX.kept (hS_1.2.1 b (Nat.not_le.mpr hbB))
  have kM : ∀ q, B + 178 ≤ q → H_1[q]? = H[q]? := fun q hq => hk_1 q (fun h => by have := (at_in h).2; omega)
  have hTX := hT_1
  have hTM := hTM.same (H1 := H_1) (fun q t h => kM q (by obtain ⟨j, rfl, z1, -, -⟩ := tq_some h; omega))
  have hMa := hM0.kept (H1 := H_1) kM
  have hMb := hMa.mono (N1 := n + 1) (by omega)
  have e5 : fi D 12 5 H_1 (B + 178) = fi D 12 5 H (B + 178) := fi_q (kM _ (by omega))
  have hX9_1 : TX D (rq B) T k H_1 (rq B (B + 0) 0) := hX9.q (hk_1 _ (AT.out (t := 9) ttT (by decide))) (hk_1 _ (AT.out (t := 300) ttR (by decide)))
  have hX12 : RX D (rq B) T k H_1 (B + 178) := hX12.q (fi_q (kM _ (by omega))) (kM _ (by rw [qn_178_4]; omega))
  refine lv_pop hx hb dL_law_184 rfl ?_
  refine lv_aload_n hx hb dL_law_185 rfl (lv_at hl 1 rfl) ?_
  refine th_Vi (A := fun q => B ≤ q) (As := []) (rest := []) E hml hl.1 (f_fault l D cI cS (tq B 178 186) (rq B) hWM H_1 hTM (B + 178) (ttM B) T k hX12) lk_L_26 yd_X12_fault hTM (ttM B) rfl (by decide) ⟨rfl, fun _ _ => rfl, hS_1.2.2⟩ (fun q h => by have h : q = B + 178 ∨ q = rq B (B + 178) 15 := h; simp only [qn_178_15] at h; show B ≤ q; omega) ⟨Nat.le_of_ble_eq_true rfl, Nat.le_of_ble_eq_true rfl⟩ (Nat.le_of_ble_eq_true rfl) ⟨Nat.le_of_ble_eq_true rfl, Nat.le_of_ble_eq_true rfl⟩ rfl dL_law_186 (fun r_2 H_2 locs_2 p_2 hT_2 hk_2 hS_2 => ?_)
  have hX_2 : va_X b L xs s H_2 := hX_1.kept (hS_2.2.1 b (Nat.not_le.mpr hbB))
  have kX : ∀ q, q < B + 178 → H_2[q]? = H_1[q]? := fun q hq => hk_2 q (fun h => by have h : q = B + 178 ∨ q = rq B (B + 178) 15 := h; simp only [qn_178_15] at h; omega)
  have hTX := hTX.same (H1 := H_2) (fun q t h => kX q (by obtain ⟨j, rfl, -, z1, -⟩ := tq_some h; omega))
  have hX9_2 : TX D (rq B) _ _ H_2 (rq B (B + 0) 0) := hX9_1.q (kX _ (by rw [qx_1]; omega)) (kX _ (by rw [qx_16]; omega))
  have hMc : IM D (rq B) (n + 1) H_2 (B + 178) := hMb.fk (hk_2 _ (fun h => by have h : rq B (B + 178) 0 = B + 178 ∨ rq B (B + 178) 0 = rq B (B + 178) 15 := h; rw [qn_178_0, qn_178_15] at h; omega)) (hk_2 _ (fun h => by have h : rq B (B + 178) 2 = B + 178 ∨ rq B (B + 178) 2 = rq B (B + 178) 15 := h; rw [qn_178_15, qn_178_2] at h; omega)) (hk_2 _ (fun h => by have h : rq B (B + 178) 3 = B + 178 ∨ rq B (B + 178) 3 = rq B (B + 178) 15 := h; rw [qn_178_15, qn_178_3] at h; omega)) p_2.2
  have hX12_2 : RX D (rq B) T k H_2 (B + 178) := hX12.q (p_2.2 5 (by decide)) (hk_2 _ (fun h => by have h : rq B (B + 178) 4 = B + 178 ∨ rq B (B + 178) 4 = rq B (B + 178) 15 := h; rw [qn_178_15, qn_178_4] at h; omega))
  have hLV2 : LV D cI cS B (n + 1) H_2 := ⟨hTX, hT_2, hMc, _, _, hX9_2, hX12_2⟩
  refine lv_pop hx hb dL_law_189 rfl ?_
  refine lv_goto (tgt := 766) hx hb dL_law_190 (by decide) ?_
  exact kk H_2 locs_2 hS_2.2.2 hX_2 hLV2
set_option maxHeartbeats 4000000 in
set_option maxRecDepth 100000 in
theorem v_lay (E : EE p s m args c cL_law RL D cI cS) (hml : c.maxLocals = 4) (hl : lv_has ls 4 [(3, .int i), (2, .ref (B + 178)), (1, .ref (B + 0)), (0, .ref b)]) (hWX : WF (tq B 0 178) (rq B)) (hWM : WF (tq B 178 186) (rq B)) (hLV : LV D cI cS B n H) (hn0 : 0 ≤ n) (hn1 : n + 1 ≤ 600) (hi0 : 0 ≤ i.toInt) (hi1 : i.toInt + 4 ≤ L) (hL : L ≤ 2048) (hX : va_X b L xs s H) (hbB : b < B) (hlo : ∀ x ∈ locs, B ≤ x.base) (kk : KL p l e s m args below meth c ls Q D cI cS n B b L xs) : WL p l e s m args below meth c H locs ls Q 193 := by
  obtain ⟨hTX, hTM, hM0, T, k, hX9, hX12⟩ := hLV
  have hx := E.1
  have hb := E.2.1
  refine lv_aload_n hx hb dL_law_193 rfl (lv_at hl 2 rfl) ?_
  refine th_Vi (A := fun q => B ≤ q) (As := []) (rest := []) E hml hl.1 (e_lay l D cI cS (tq B 0 178) (rq B) hWX H hTX (B + 0) (ttX B) T k hX9) lk_L_27 yd_X11_lay hTX (ttX B) rfl (by decide) ⟨rfl, fun _ _ => rfl, hlo⟩ (fun q h => (at_in h).1) ⟨Nat.le_of_ble_eq_true rfl, Nat.le_of_ble_eq_true rfl⟩ (Nat.le_of_ble_eq_true rfl) ⟨Nat.le_of_ble_eq_true rfl, Nat.le_of_ble_eq_true rfl⟩ rfl dL_law_194 (fun r_1 H_1 locs_1 p_1 hT_1 hk_1 hS_1 => ?_)
  have hX_1 : va_X b L xs s H_1 := hX.kept (hS_1.2.1 b (Nat.not_le.mpr hbB))
  have kM : ∀ q, B + 178 ≤ q → H_1[q]? = H[q]? := fun q hq => hk_1 q (fun h => by have := (at_in h).2; omega)
  have hTX := hT_1
  have hTM := hTM.same (H1 := H_1) (fun q t h => kM q (by obtain ⟨j, rfl, z1, -, -⟩ := tq_some h; omega))
  have hMa := hM0.kept (H1 := H_1) kM
  have hMb := hMa.mono (N1 := n + 1) (by omega)
  have e5 : fi D 12 5 H_1 (B + 178) = fi D 12 5 H (B + 178) := fi_q (kM _ (by omega))
  have hX9_1 : TX D (rq B) T k H_1 (rq B (B + 0) 0) := hX9.q (hk_1 _ (AT.out (t := 9) ttT (by decide))) (hk_1 _ (AT.out (t := 300) ttR (by decide)))
  have hX12 : RX D (rq B) T k H_1 (B + 178) := hX12.q (fi_q (kM _ (by omega))) (kM _ (by rw [qn_178_4]; omega))
  refine lv_aload_n hx hb dL_law_197 rfl (lv_at hl 1 rfl) ?_
  refine th_Vi (A := fun q => B ≤ q) (As := []) (rest := [.int r_1]) E hml hl.1 (f_lay l D cI cS (tq B 178 186) (rq B) hWM H_1 hTM (B + 178) (ttM B) (n + 1) (by omega) hn1 hMb T k hX12) lk_L_30 yd_X12_lay hTM (ttM B) rfl (by decide) ⟨rfl, fun _ _ => rfl, hS_1.2.2⟩ (fun q h => by have h : q = B + 178 ∨ q = rq B (B + 178) 15 ∨ q = rq B (B + 178) 9 ∨ q = rq B (B + 178) 0 := h; simp only [qn_178_0, qn_178_15, qn_178_9] at h; show B ≤ q; omega) ⟨Nat.le_of_ble_eq_true rfl, Nat.le_of_ble_eq_true rfl⟩ (Nat.le_of_ble_eq_true rfl) ⟨Nat.le_of_ble_eq_true rfl, Nat.le_of_ble_eq_true rfl⟩ rfl dL_law_198 (fun r_2 H_2 locs_2 p_2 hT_2 hk_2 hS_2 => ?_)
  have hX_2 : va_X b L xs s H_2 := hX_1.kept (hS_2.2.1 b (Nat.not_le.mpr hbB))
  have kX : ∀ q, q < B + 178 → H_2[q]? = H_1[q]? := fun q hq => hk_2 q (fun h => by have h : q = B + 178 ∨ q = rq B (B + 178) 15 ∨ q = rq B (B + 178) 9 ∨ q = rq B (B + 178) 0 := h; simp only [qn_178_0, qn_178_15, qn_178_9] at h; omega)
  have hTX := hTX.same (H1 := H_2) (fun q t h => kX q (by obtain ⟨j, rfl, -, z1, -⟩ := tq_some h; omega))
  have hX9_2 : TX D (rq B) _ _ H_2 (rq B (B + 0) 0) := hX9_1.q (kX _ (by rw [qx_1]; omega)) (kX _ (by rw [qx_16]; omega))
  have hMc : IM D (rq B) (n + 1) H_2 (B + 178) := p_2.1
  have hX12_2 : RX D (rq B) T k H_2 (B + 178) := hX12.q p_2.2.2 (hk_2 _ (fun h => by have h : rq B (B + 178) 4 = B + 178 ∨ rq B (B + 178) 4 = rq B (B + 178) 15 ∨ rq B (B + 178) 4 = rq B (B + 178) 9 ∨ rq B (B + 178) 4 = rq B (B + 178) 0 := h; rw [qn_178_0, qn_178_15, qn_178_4, qn_178_9] at h; omega))
  have hLV2 : LV D cI cS B (n + 1) H_2 := ⟨hTX, hT_2, hMc, _, _, hX9_2, hX12_2⟩
  have q_1 : r_1.toInt = lyv T k := p_1
  have q_2 : r_2.toInt = lyv T k := p_2.2.1
  have hr12 : r_1 = r_2 := Int32.toInt_inj.mp (q_1.trans q_2.symm)
  refine lv_icmp_eq (tgt := 766) hx hb dL_law_201 (by decide) (fun c_ => ?_) (fun c_ => absurd hr12 c_)
  exact kk H_2 locs_2 hS_2.2.2 hX_2 hLV2
set_option maxHeartbeats 4000000 in
set_option maxRecDepth 100000 in
theorem v_open_0 (E : EE p s m args c cL_law RL D cI cS) (hml : c.maxLocals = 4) (hl : lv_has ls 4 [(3, .int i), (2, .ref (B + 178)), (1, .ref (B + 0)), (0, .ref b)]) (hWX : WF (tq B 0 178) (rq B)) (hWM : WF (tq B 178 186) (rq B)) (hLV : LV D cI cS B n H) (hn0 : 0 ≤ n) (hn1 : n + 1 ≤ 600) (hi0 : 0 ≤ i.toInt) (hi1 : i.toInt + 4 ≤ L) (hL : L ≤ 2048) (hX : va_X b L xs s H) (hbB : b < B) (hlo : ∀ x ∈ locs, B ≤ x.base) (he : (xs (i + 1).toNatClampNeg) = 0) (kk : KL p l e s m args below meth c ls Q D cI cS n B b L xs) : WL p l e s m args below meth c H locs ls Q 206 := by
  obtain ⟨hTX, hTM, hM0, T, k, hX9, hX12⟩ := hLV
  have hx := E.1
  have hb := E.2.1
  have hv_1 : vp_in (i + 1) L := idx_in (k := 1) (by decide) (by decide) hi0 (by omega) hL
  have hv_2 : vp_in (i + 2) L := idx_in (k := 2) (by decide) (by decide) hi0 (by omega) hL
  have hv_3 : vp_in (i + 3) L := idx_in (k := 3) (by decide) (by decide) hi0 (by omega) hL
  refine lv_aload_n hx hb dL_law_206 rfl (lv_at hl 2 rfl) ?_
  refine lv_aload_n hx hb dL_law_207 rfl (lv_at hl 3 rfl) ?_
  refine lv_iload_n hx hb dL_law_208 rfl (lv_at hl 0 rfl) ?_
  refine lv_iconst (v := 1) hx hb dL_law_209 (by decide) ?_
  refine lv_iadd hx hb dL_law_210 ?_
  refine lw_sldg hx hb hX hv_1 dL_law_211 ?_
  refine lv_aload_n hx hb dL_law_212 rfl (lv_at hl 3 rfl) ?_
  refine lv_iload_n hx hb dL_law_213 rfl (lv_at hl 0 rfl) ?_
  refine lv_iconst (v := 2) hx hb dL_law_214 (by decide) ?_
  refine lv_iadd hx hb dL_law_215 ?_
  refine lw_sldg hx hb hX hv_2 dL_law_216 ?_
  refine th_Vi (A := fun q => B ≤ q) (As := [.int (xs (i + 1).toNatClampNeg), .int (xs (i + 2).toNatClampNeg)]) (rest := []) E hml hl.1 (z_X11_open l D cI cS (tq B 0 178) (rq B) hWX H hTX (B + 0) (xs (i + 1).toNatClampNeg) (xs (i + 2).toNatClampNeg) (ttX B)) lk_L_31 yd_X11_open hTX (ttX B) rfl (by decide) ⟨rfl, fun _ _ => rfl, hlo⟩ (fun q h => (at_in h).1) ⟨Nat.le_of_ble_eq_true rfl, Nat.le_of_ble_eq_true rfl⟩ (Nat.le_of_ble_eq_true rfl) ⟨Nat.le_of_ble_eq_true rfl, Nat.le_of_ble_eq_true rfl⟩ rfl dL_law_217 (fun r_1 H_1 locs_1 p_1 hT_1 hk_1 hS_1 => ?_)
  have hX_1 : va_X b L xs s H_1 := hX.kept (hS_1.2.1 b (Nat.not_le.mpr hbB))
  have kM : ∀ q, B + 178 ≤ q → H_1[q]? = H[q]? := fun q hq => hk_1 q (fun h => by have := (at_in h).2; omega)
  have hTX := hT_1
  have hTM := hTM.same (H1 := H_1) (fun q t h => kM q (by obtain ⟨j, rfl, z1, -, -⟩ := tq_some h; omega))
  have hMa := hM0.kept (H1 := H_1) kM
  have hMb := hMa.mono (N1 := n + 1) (by omega)
  have e5 : fi D 12 5 H_1 (B + 178) = fi D 12 5 H (B + 178) := fi_q (kM _ (by omega))
  have hX9_1 : TX D (rq B) T k H_1 (rq B (B + 0) 0) := hX9.q (hk_1 _ (AT.out (t := 9) ttT (by decide))) (hk_1 _ (AT.out (t := 300) ttR (by decide)))
  have hX12 : RX D (rq B) T k H_1 (B + 178) := hX12.q (fi_q (kM _ (by omega))) (kM _ (by rw [qn_178_4]; omega))
  refine lv_pop hx hb dL_law_220 rfl ?_
  refine lv_aload_n hx hb dL_law_221 rfl (lv_at hl 1 rfl) ?_
  refine lv_aload_n hx hb dL_law_222 rfl (lv_at hl 3 rfl) ?_
  refine lv_iload_n hx hb dL_law_223 rfl (lv_at hl 0 rfl) ?_
  refine lv_iconst (v := 1) hx hb dL_law_224 (by decide) ?_
  refine lv_iadd hx hb dL_law_225 ?_
  refine lw_sldg hx hb hX_1 hv_1 dL_law_226 ?_
  refine th_topi he ?_
  refine lv_aload_n hx hb dL_law_227 rfl (lv_at hl 3 rfl) ?_
  refine lv_iload_n hx hb dL_law_228 rfl (lv_at hl 0 rfl) ?_
  refine lv_iconst (v := 2) hx hb dL_law_229 (by decide) ?_
  refine lv_iadd hx hb dL_law_230 ?_
  refine lw_sldg hx hb hX_1 hv_2 dL_law_231 ?_
  refine th_Vi (A := fun q => B ≤ q) (As := [.int 0, .int (xs (i + 2).toNatClampNeg)]) (rest := []) E hml hl.1 (y_open l D cI cS (tq B 178 186) (rq B) hWM H_1 hTM (B + 178) (xs (i + 2).toNatClampNeg) (ttM B) (n + 1) (by omega) hn1 hMb (by have h : (ai H_1 (rq B (B + 178) 0) 2).toInt ≤ n + 2 := (hMa.1 2 (by decide)).2; omega)) lk_L_35 yd_X12_open hTM (ttM B) rfl (by decide) ⟨rfl, fun _ _ => rfl, hS_1.2.2⟩ (fun q h => by have h : q = rq B (B + 178) 0 ∨ q = rq B (B + 178) 2 := h; simp only [qn_178_0, qn_178_2] at h; show B ≤ q; omega) ⟨Nat.le_of_ble_eq_true rfl, Nat.le_of_ble_eq_true rfl⟩ (Nat.le_of_ble_eq_true rfl) ⟨Nat.le_of_ble_eq_true rfl, Nat.le_of_ble_eq_true rfl⟩ rfl dL_law_232 (fun r_2 H_2 locs_2 p_2 hT_2 hk_2 hS_2 => ?_)
  have hX_2 : va_X b L xs s H_2 := hX_1.kept (hS_2.2.1 b (Nat.not_le.mpr hbB))
  have kX : ∀ q, q < B + 178 → H_2[q]? = H_1[q]? := fun q hq => hk_2 q (fun h => by have h : q = rq B (B + 178) 0 ∨ q = rq B (B + 178) 2 := h; simp only [qn_178_0, qn_178_2] at h; omega)
  have hTX := hTX.same (H1 := H_2) (fun q t h => kX q (by obtain ⟨j, rfl, -, z1, -⟩ := tq_some h; omega))
  have hX9_2 : TX D (rq B) _ _ H_2 (rq B (B + 0) 0) := hX9_1.q (kX _ (by rw [qx_1]; omega)) (kX _ (by rw [qx_16]; omega))
  have hMc : IM D (rq B) (n + 1) H_2 (B + 178) := p_2
  have e5b : fi D 12 5 H_2 (B + 178) = fi D 12 5 H_1 (B + 178) := fi_q (hk_2 _ (fun h => by have h : B + 178 = rq B (B + 178) 0 ∨ B + 178 = rq B (B + 178) 2 := h; simp only [qn_178_0, qn_178_2] at h; omega))
  have hX12_2 : RX D (rq B) T k H_2 (B + 178) := hX12.q e5b (hk_2 _ (fun h => by have h : rq B (B + 178) 4 = rq B (B + 178) 0 ∨ rq B (B + 178) 4 = rq B (B + 178) 2 := h; rw [qn_178_0, qn_178_2, qn_178_4] at h; omega))
  have hLV2 : LV D cI cS B (n + 1) H_2 := ⟨hTX, hT_2, hMc, _, _, hX9_2, hX12_2⟩
  refine lv_pop hx hb dL_law_235 rfl ?_
  refine lv_goto (tgt := 766) hx hb dL_law_236 (by decide) ?_
  exact kk H_2 locs_2 hS_2.2.2 hX_2 hLV2
set_option maxHeartbeats 4000000 in
set_option maxRecDepth 100000 in
theorem v_open_1 (E : EE p s m args c cL_law RL D cI cS) (hml : c.maxLocals = 4) (hl : lv_has ls 4 [(3, .int i), (2, .ref (B + 178)), (1, .ref (B + 0)), (0, .ref b)]) (hWX : WF (tq B 0 178) (rq B)) (hWM : WF (tq B 178 186) (rq B)) (hLV : LV D cI cS B n H) (hn0 : 0 ≤ n) (hn1 : n + 1 ≤ 600) (hi0 : 0 ≤ i.toInt) (hi1 : i.toInt + 4 ≤ L) (hL : L ≤ 2048) (hX : va_X b L xs s H) (hbB : b < B) (hlo : ∀ x ∈ locs, B ≤ x.base) (he : (xs (i + 1).toNatClampNeg) = 1) (kk : KL p l e s m args below meth c ls Q D cI cS n B b L xs) : WL p l e s m args below meth c H locs ls Q 206 := by
  obtain ⟨hTX, hTM, hM0, T, k, hX9, hX12⟩ := hLV
  have hx := E.1
  have hb := E.2.1
  have hv_1 : vp_in (i + 1) L := idx_in (k := 1) (by decide) (by decide) hi0 (by omega) hL
  have hv_2 : vp_in (i + 2) L := idx_in (k := 2) (by decide) (by decide) hi0 (by omega) hL
  have hv_3 : vp_in (i + 3) L := idx_in (k := 3) (by decide) (by decide) hi0 (by omega) hL
  refine lv_aload_n hx hb dL_law_206 rfl (lv_at hl 2 rfl) ?_
  refine lv_aload_n hx hb dL_law_207 rfl (lv_at hl 3 rfl) ?_
  refine lv_iload_n hx hb dL_law_208 rfl (lv_at hl 0 rfl) ?_
  refine lv_iconst (v := 1) hx hb dL_law_209 (by decide) ?_
  refine lv_iadd hx hb dL_law_210 ?_
  refine lw_sldg hx hb hX hv_1 dL_law_211 ?_
  refine lv_aload_n hx hb dL_law_212 rfl (lv_at hl 3 rfl) ?_
  refine lv_iload_n hx hb dL_law_213 rfl (lv_at hl 0 rfl) ?_
  refine lv_iconst (v := 2) hx hb dL_law_214 (by decide) ?_
  refine lv_iadd hx hb dL_law_215 ?_
  refine lw_sldg hx hb hX hv_2 dL_law_216 ?_
  refine th_Vi (A := fun q => B ≤ q) (As := [.int (xs (i + 1).toNatClampNeg), .int (xs (i + 2).toNatClampNeg)]) (rest := []) E hml hl.1 (z_X11_open l D cI cS (tq B 0 178) (rq B) hWX H hTX (B + 0) (xs (i + 1).toNatClampNeg) (xs (i + 2).toNatClampNeg) (ttX B)) lk_L_31 yd_X11_open hTX (ttX B) rfl (by decide) ⟨rfl, fun _ _ => rfl, hlo⟩ (fun q h => (at_in h).1) ⟨Nat.le_of_ble_eq_true rfl, Nat.le_of_ble_eq_true rfl⟩ (Nat.le_of_ble_eq_true rfl) ⟨Nat.le_of_ble_eq_true rfl, Nat.le_of_ble_eq_true rfl⟩ rfl dL_law_217 (fun r_1 H_1 locs_1 p_1 hT_1 hk_1 hS_1 => ?_)
  have hX_1 : va_X b L xs s H_1 := hX.kept (hS_1.2.1 b (Nat.not_le.mpr hbB))
  have kM : ∀ q, B + 178 ≤ q → H_1[q]? = H[q]? := fun q hq => hk_1 q (fun h => by have := (at_in h).2; omega)
  have hTX := hT_1
  have hTM := hTM.same (H1 := H_1) (fun q t h => kM q (by obtain ⟨j, rfl, z1, -, -⟩ := tq_some h; omega))
  have hMa := hM0.kept (H1 := H_1) kM
  have hMb := hMa.mono (N1 := n + 1) (by omega)
  have e5 : fi D 12 5 H_1 (B + 178) = fi D 12 5 H (B + 178) := fi_q (kM _ (by omega))
  have hX9_1 : TX D (rq B) T k H_1 (rq B (B + 0) 0) := hX9.q (hk_1 _ (AT.out (t := 9) ttT (by decide))) (hk_1 _ (AT.out (t := 300) ttR (by decide)))
  have hX12 : RX D (rq B) T k H_1 (B + 178) := hX12.q (fi_q (kM _ (by omega))) (kM _ (by rw [qn_178_4]; omega))
  refine lv_pop hx hb dL_law_220 rfl ?_
  refine lv_aload_n hx hb dL_law_221 rfl (lv_at hl 1 rfl) ?_
  refine lv_aload_n hx hb dL_law_222 rfl (lv_at hl 3 rfl) ?_
  refine lv_iload_n hx hb dL_law_223 rfl (lv_at hl 0 rfl) ?_
  refine lv_iconst (v := 1) hx hb dL_law_224 (by decide) ?_
  refine lv_iadd hx hb dL_law_225 ?_
  refine lw_sldg hx hb hX_1 hv_1 dL_law_226 ?_
  refine th_topi he ?_
  refine lv_aload_n hx hb dL_law_227 rfl (lv_at hl 3 rfl) ?_
  refine lv_iload_n hx hb dL_law_228 rfl (lv_at hl 0 rfl) ?_
  refine lv_iconst (v := 2) hx hb dL_law_229 (by decide) ?_
  refine lv_iadd hx hb dL_law_230 ?_
  refine lw_sldg hx hb hX_1 hv_2 dL_law_231 ?_
  refine th_Vi (A := fun q => B ≤ q) (As := [.int 1, .int (xs (i + 2).toNatClampNeg)]) (rest := []) E hml hl.1 (y_open_v2 l D cI cS (tq B 178 186) (rq B) hWM H_1 hTM (B + 178) (xs (i + 2).toNatClampNeg) (ttM B) (n + 1) (by omega) hn1 hMb (by have h : (ai H_1 (rq B (B + 178) 0) 290).toInt ≤ n + 2 := (hMa.1 290 (by decide)).2; omega)) lk_L_35 yd_X12_open hTM (ttM B) rfl (by decide) ⟨rfl, fun _ _ => rfl, hS_1.2.2⟩ (fun q h => by have h : q = rq B (B + 178) 0 ∨ q = rq B (B + 178) 2 := h; simp only [qn_178_0, qn_178_2] at h; show B ≤ q; omega) ⟨Nat.le_of_ble_eq_true rfl, Nat.le_of_ble_eq_true rfl⟩ (Nat.le_of_ble_eq_true rfl) ⟨Nat.le_of_ble_eq_true rfl, Nat.le_of_ble_eq_true rfl⟩ rfl dL_law_232 (fun r_2 H_2 locs_2 p_2 hT_2 hk_2 hS_2 => ?_)
  have hX_2 : va_X b L xs s H_2 := hX_1.kept (hS_2.2.1 b (Nat.not_le.mpr hbB))
  have kX : ∀ q, q < B + 178 → H_2[q]? = H_1[q]? := fun q hq => hk_2 q (fun h => by have h : q = rq B (B + 178) 0 ∨ q = rq B (B + 178) 2 := h; simp only [qn_178_0, qn_178_2] at h; omega)
  have hTX := hTX.same (H1 := H_2) (fun q t h => kX q (by obtain ⟨j, rfl, -, z1, -⟩ := tq_some h; omega))
  have hX9_2 : TX D (rq B) _ _ H_2 (rq B (B + 0) 0) := hX9_1.q (kX _ (by rw [qx_1]; omega)) (kX _ (by rw [qx_16]; omega))
  have hMc : IM D (rq B) (n + 1) H_2 (B + 178) := p_2
  have e5b : fi D 12 5 H_2 (B + 178) = fi D 12 5 H_1 (B + 178) := fi_q (hk_2 _ (fun h => by have h : B + 178 = rq B (B + 178) 0 ∨ B + 178 = rq B (B + 178) 2 := h; simp only [qn_178_0, qn_178_2] at h; omega))
  have hX12_2 : RX D (rq B) T k H_2 (B + 178) := hX12.q e5b (hk_2 _ (fun h => by have h : rq B (B + 178) 4 = rq B (B + 178) 0 ∨ rq B (B + 178) 4 = rq B (B + 178) 2 := h; rw [qn_178_0, qn_178_2, qn_178_4] at h; omega))
  have hLV2 : LV D cI cS B (n + 1) H_2 := ⟨hTX, hT_2, hMc, _, _, hX9_2, hX12_2⟩
  refine lv_pop hx hb dL_law_235 rfl ?_
  refine lv_goto (tgt := 766) hx hb dL_law_236 (by decide) ?_
  exact kk H_2 locs_2 hS_2.2.2 hX_2 hLV2
set_option maxHeartbeats 4000000 in
set_option maxRecDepth 100000 in
theorem v_open_bad (E : EE p s m args c cL_law RL D cI cS) (hml : c.maxLocals = 4) (hl : lv_has ls 4 [(3, .int i), (2, .ref (B + 178)), (1, .ref (B + 0)), (0, .ref b)]) (hWX : WF (tq B 0 178) (rq B)) (hWM : WF (tq B 178 186) (rq B)) (hLV : LV D cI cS B n H) (hn0 : 0 ≤ n) (hn1 : n + 1 ≤ 600) (hi0 : 0 ≤ i.toInt) (hi1 : i.toInt + 4 ≤ L) (hL : L ≤ 2048) (hX : va_X b L xs s H) (hbB : b < B) (hlo : ∀ x ∈ locs, B ≤ x.base) (he : (xs (i + 1).toNatClampNeg).toInt < 0 ∨ 1 < (xs (i + 1).toNatClampNeg).toInt) (kk : KL p l e s m args below meth c ls Q D cI cS n B b L xs) : WL p l e s m args below meth c H locs ls Q 206 := by
  obtain ⟨hTX, hTM, hM0, T, k, hX9, hX12⟩ := hLV
  have hx := E.1
  have hb := E.2.1
  have hv_1 : vp_in (i + 1) L := idx_in (k := 1) (by decide) (by decide) hi0 (by omega) hL
  have hv_2 : vp_in (i + 2) L := idx_in (k := 2) (by decide) (by decide) hi0 (by omega) hL
  have hv_3 : vp_in (i + 3) L := idx_in (k := 3) (by decide) (by decide) hi0 (by omega) hL
  refine lv_aload_n hx hb dL_law_206 rfl (lv_at hl 2 rfl) ?_
  refine lv_aload_n hx hb dL_law_207 rfl (lv_at hl 3 rfl) ?_
  refine lv_iload_n hx hb dL_law_208 rfl (lv_at hl 0 rfl) ?_
  refine lv_iconst (v := 1) hx hb dL_law_209 (by decide) ?_
  refine lv_iadd hx hb dL_law_210 ?_
  refine lw_sldg hx hb hX hv_1 dL_law_211 ?_
  refine lv_aload_n hx hb dL_law_212 rfl (lv_at hl 3 rfl) ?_
  refine lv_iload_n hx hb dL_law_213 rfl (lv_at hl 0 rfl) ?_
  refine lv_iconst (v := 2) hx hb dL_law_214 (by decide) ?_
  refine lv_iadd hx hb dL_law_215 ?_
  refine lw_sldg hx hb hX hv_2 dL_law_216 ?_
  refine th_Vi (A := fun q => B ≤ q) (As := [.int (xs (i + 1).toNatClampNeg), .int (xs (i + 2).toNatClampNeg)]) (rest := []) E hml hl.1 (z_X11_open l D cI cS (tq B 0 178) (rq B) hWX H hTX (B + 0) (xs (i + 1).toNatClampNeg) (xs (i + 2).toNatClampNeg) (ttX B)) lk_L_31 yd_X11_open hTX (ttX B) rfl (by decide) ⟨rfl, fun _ _ => rfl, hlo⟩ (fun q h => (at_in h).1) ⟨Nat.le_of_ble_eq_true rfl, Nat.le_of_ble_eq_true rfl⟩ (Nat.le_of_ble_eq_true rfl) ⟨Nat.le_of_ble_eq_true rfl, Nat.le_of_ble_eq_true rfl⟩ rfl dL_law_217 (fun r_1 H_1 locs_1 p_1 hT_1 hk_1 hS_1 => ?_)
  have hX_1 : va_X b L xs s H_1 := hX.kept (hS_1.2.1 b (Nat.not_le.mpr hbB))
  have kM : ∀ q, B + 178 ≤ q → H_1[q]? = H[q]? := fun q hq => hk_1 q (fun h => by have := (at_in h).2; omega)
  have hTX := hT_1
  have hTM := hTM.same (H1 := H_1) (fun q t h => kM q (by obtain ⟨j, rfl, z1, -, -⟩ := tq_some h; omega))
  have hMa := hM0.kept (H1 := H_1) kM
  have hMb := hMa.mono (N1 := n + 1) (by omega)
  have e5 : fi D 12 5 H_1 (B + 178) = fi D 12 5 H (B + 178) := fi_q (kM _ (by omega))
  have hX9_1 : TX D (rq B) T k H_1 (rq B (B + 0) 0) := hX9.q (hk_1 _ (AT.out (t := 9) ttT (by decide))) (hk_1 _ (AT.out (t := 300) ttR (by decide)))
  have hX12 : RX D (rq B) T k H_1 (B + 178) := hX12.q (fi_q (kM _ (by omega))) (kM _ (by rw [qn_178_4]; omega))
  refine lv_pop hx hb dL_law_220 rfl ?_
  refine lv_aload_n hx hb dL_law_221 rfl (lv_at hl 1 rfl) ?_
  refine lv_aload_n hx hb dL_law_222 rfl (lv_at hl 3 rfl) ?_
  refine lv_iload_n hx hb dL_law_223 rfl (lv_at hl 0 rfl) ?_
  refine lv_iconst (v := 1) hx hb dL_law_224 (by decide) ?_
  refine lv_iadd hx hb dL_law_225 ?_
  refine lw_sldg hx hb hX_1 hv_1 dL_law_226 ?_
  refine lv_aload_n hx hb dL_law_227 rfl (lv_at hl 3 rfl) ?_
  refine lv_iload_n hx hb dL_law_228 rfl (lv_at hl 0 rfl) ?_
  refine lv_iconst (v := 2) hx hb dL_law_229 (by decide) ?_
  refine lv_iadd hx hb dL_law_230 ?_
  refine lw_sldg hx hb hX_1 hv_2 dL_law_231 ?_
  refine th_Vi (A := fun q => B ≤ q) (As := [.int (xs (i + 1).toNatClampNeg), .int (xs (i + 2).toNatClampNeg)]) (rest := []) E hml hl.1 (y_open_v3 l D cI cS (tq B 178 186) (rq B) hWM H_1 hTM (B + 178) (xs (i + 1).toNatClampNeg) (xs (i + 2).toNatClampNeg) (ttM B) (n + 1) (by omega) hn1 hMb he) lk_L_35 yd_X12_open hTM (ttM B) rfl (by decide) ⟨rfl, fun _ _ => rfl, hS_1.2.2⟩ (fun q h => h.elim) ⟨Nat.le_of_ble_eq_true rfl, Nat.le_of_ble_eq_true rfl⟩ (Nat.le_of_ble_eq_true rfl) ⟨Nat.le_of_ble_eq_true rfl, Nat.le_of_ble_eq_true rfl⟩ rfl dL_law_232 (fun r_2 H_2 locs_2 p_2 hT_2 hk_2 hS_2 => ?_)
  have hX_2 : va_X b L xs s H_2 := hX_1.kept (hS_2.2.1 b (Nat.not_le.mpr hbB))
  have kX : ∀ q, q < B + 178 → H_2[q]? = H_1[q]? := fun q hq => hk_2 q (fun h => h.elim)
  have hTX := hTX.same (H1 := H_2) (fun q t h => kX q (by obtain ⟨j, rfl, -, z1, -⟩ := tq_some h; omega))
  have hX9_2 : TX D (rq B) _ _ H_2 (rq B (B + 0) 0) := hX9_1.q (kX _ (by rw [qx_1]; omega)) (kX _ (by rw [qx_16]; omega))
  have hMc : IM D (rq B) (n + 1) H_2 (B + 178) := p_2
  have e5b : fi D 12 5 H_2 (B + 178) = fi D 12 5 H_1 (B + 178) := fi_q (hk_2 _ (fun h => h.elim))
  have hX12_2 : RX D (rq B) T k H_2 (B + 178) := hX12.q e5b (hk_2 _ (fun h => h.elim))
  have hLV2 : LV D cI cS B (n + 1) H_2 := ⟨hTX, hT_2, hMc, _, _, hX9_2, hX12_2⟩
  refine lv_pop hx hb dL_law_235 rfl ?_
  refine lv_goto (tgt := 766) hx hb dL_law_236 (by decide) ?_
  exact kk H_2 locs_2 hS_2.2.2 hX_2 hLV2
theorem v_open (E : EE p s m args c cL_law RL D cI cS) (hml : c.maxLocals = 4) (hl : lv_has ls 4 [(3, .int i), (2, .ref (B + 178)), (1, .ref (B + 0)), (0, .ref b)]) (hWX : WF (tq B 0 178) (rq B)) (hWM : WF (tq B 178 186) (rq B)) (hLV : LV D cI cS B n H) (hn0 : 0 ≤ n) (hn1 : n + 1 ≤ 600) (hi0 : 0 ≤ i.toInt) (hi1 : i.toInt + 4 ≤ L) (hL : L ≤ 2048) (hX : va_X b L xs s H) (hbB : b < B) (hlo : ∀ x ∈ locs, B ≤ x.base) (kk : KL p l e s m args below meth c ls Q D cI cS n B b L xs) : WL p l e s m args below meth c H locs ls Q 206 := by
  rcases (show (xs (i + 1).toNatClampNeg).toInt = 0 ∨ (xs (i + 1).toNatClampNeg).toInt = 1 ∨ ((xs (i + 1).toNatClampNeg).toInt < 0 ∨ 1 < (xs (i + 1).toNatClampNeg).toInt) by omega) with h | h | h
  · exact v_open_0 E hml hl hWX hWM hLV hn0 hn1 hi0 hi1 hL hX hbB hlo (i_eqc h (by decide)) kk
  · exact v_open_1 E hml hl hWX hWM hLV hn0 hn1 hi0 hi1 hL hX hbB hlo (i_eqc h (by decide)) kk
  · exact v_open_bad E hml hl hWX hWM hLV hn0 hn1 hi0 hi1 hL hX hbB hlo h kk
set_option maxHeartbeats 4000000 in
set_option maxRecDepth 100000 in
theorem v_say_0 (E : EE p s m args c cL_law RL D cI cS) (hml : c.maxLocals = 4) (hl : lv_has ls 4 [(3, .int i), (2, .ref (B + 178)), (1, .ref (B + 0)), (0, .ref b)]) (hWX : WF (tq B 0 178) (rq B)) (hWM : WF (tq B 178 186) (rq B)) (hLV : LV D cI cS B n H) (hn0 : 0 ≤ n) (hn1 : n + 1 ≤ 600) (hi0 : 0 ≤ i.toInt) (hi1 : i.toInt + 4 ≤ L) (hL : L ≤ 2048) (hX : va_X b L xs s H) (hbB : b < B) (hlo : ∀ x ∈ locs, B ≤ x.base) (he : (xs (i + 1).toNatClampNeg) = 0) (kk : KL p l e s m args below meth c ls Q D cI cS n B b L xs) : WL p l e s m args below meth c H locs ls Q 239 := by
  obtain ⟨hTX, hTM, hM0, T, k, hX9, hX12⟩ := hLV
  have hx := E.1
  have hb := E.2.1
  have hv_1 : vp_in (i + 1) L := idx_in (k := 1) (by decide) (by decide) hi0 (by omega) hL
  have hv_2 : vp_in (i + 2) L := idx_in (k := 2) (by decide) (by decide) hi0 (by omega) hL
  have hv_3 : vp_in (i + 3) L := idx_in (k := 3) (by decide) (by decide) hi0 (by omega) hL
  refine lv_aload_n hx hb dL_law_239 rfl (lv_at hl 2 rfl) ?_
  refine lv_aload_n hx hb dL_law_240 rfl (lv_at hl 3 rfl) ?_
  refine lv_iload_n hx hb dL_law_241 rfl (lv_at hl 0 rfl) ?_
  refine lv_iconst (v := 1) hx hb dL_law_242 (by decide) ?_
  refine lv_iadd hx hb dL_law_243 ?_
  refine lw_sldg hx hb hX hv_1 dL_law_244 ?_
  refine lv_aload_n hx hb dL_law_245 rfl (lv_at hl 3 rfl) ?_
  refine lv_iload_n hx hb dL_law_246 rfl (lv_at hl 0 rfl) ?_
  refine lv_iconst (v := 2) hx hb dL_law_247 (by decide) ?_
  refine lv_iadd hx hb dL_law_248 ?_
  refine lw_sldg hx hb hX hv_2 dL_law_249 ?_
  refine th_Vi (A := fun q => B ≤ q) (As := [.int (xs (i + 1).toNatClampNeg), .int (xs (i + 2).toNatClampNeg)]) (rest := []) E hml hl.1 (z_X11_say l D cI cS (tq B 0 178) (rq B) hWX H hTX (B + 0) (xs (i + 1).toNatClampNeg) (xs (i + 2).toNatClampNeg) (ttX B)) lk_L_36 yd_X11_say hTX (ttX B) rfl (by decide) ⟨rfl, fun _ _ => rfl, hlo⟩ (fun q h => (at_in h).1) ⟨Nat.le_of_ble_eq_true rfl, Nat.le_of_ble_eq_true rfl⟩ (Nat.le_of_ble_eq_true rfl) ⟨Nat.le_of_ble_eq_true rfl, Nat.le_of_ble_eq_true rfl⟩ rfl dL_law_250 (fun r_1 H_1 locs_1 p_1 hT_1 hk_1 hS_1 => ?_)
  have hX_1 : va_X b L xs s H_1 := hX.kept (hS_1.2.1 b (Nat.not_le.mpr hbB))
  have kM : ∀ q, B + 178 ≤ q → H_1[q]? = H[q]? := fun q hq => hk_1 q (fun h => by have := (at_in h).2; omega)
  have hTX := hT_1
  have hTM := hTM.same (H1 := H_1) (fun q t h => kM q (by obtain ⟨j, rfl, z1, -, -⟩ := tq_some h; omega))
  have hMa := hM0.kept (H1 := H_1) kM
  have hMb := hMa.mono (N1 := n + 1) (by omega)
  have e5 : fi D 12 5 H_1 (B + 178) = fi D 12 5 H (B + 178) := fi_q (kM _ (by omega))
  have hX9_1 : TX D (rq B) T k H_1 (rq B (B + 0) 0) := hX9.q (hk_1 _ (AT.out (t := 9) ttT (by decide))) (hk_1 _ (AT.out (t := 300) ttR (by decide)))
  have hX12 : RX D (rq B) T k H_1 (B + 178) := hX12.q (fi_q (kM _ (by omega))) (kM _ (by rw [qn_178_4]; omega))
  refine lv_pop hx hb dL_law_253 rfl ?_
  refine lv_aload_n hx hb dL_law_254 rfl (lv_at hl 1 rfl) ?_
  refine lv_aload_n hx hb dL_law_255 rfl (lv_at hl 3 rfl) ?_
  refine lv_iload_n hx hb dL_law_256 rfl (lv_at hl 0 rfl) ?_
  refine lv_iconst (v := 1) hx hb dL_law_257 (by decide) ?_
  refine lv_iadd hx hb dL_law_258 ?_
  refine lw_sldg hx hb hX_1 hv_1 dL_law_259 ?_
  refine th_topi he ?_
  refine lv_aload_n hx hb dL_law_260 rfl (lv_at hl 3 rfl) ?_
  refine lv_iload_n hx hb dL_law_261 rfl (lv_at hl 0 rfl) ?_
  refine lv_iconst (v := 2) hx hb dL_law_262 (by decide) ?_
  refine lv_iadd hx hb dL_law_263 ?_
  refine lw_sldg hx hb hX_1 hv_2 dL_law_264 ?_
  refine th_Vi (A := fun q => B ≤ q) (As := [.int 0, .int (xs (i + 2).toNatClampNeg)]) (rest := []) E hml hl.1 (y_say l D cI cS (tq B 178 186) (rq B) hWM H_1 hTM (B + 178) (xs (i + 2).toNatClampNeg) (ttM B) (n + 1) (by omega) hn1 hMb (by have h : (ai H_1 (rq B (B + 178) 0) 4).toInt ≤ n := (hMa.1 4 (by decide)).2; omega)) lk_L_39 yd_X12_say hTM (ttM B) rfl (by decide) ⟨rfl, fun _ _ => rfl, hS_1.2.2⟩ (fun q h => by have h : q = rq B (B + 178) 0 ∨ q = rq B (B + 178) 2 := h; simp only [qn_178_0, qn_178_2] at h; show B ≤ q; omega) ⟨Nat.le_of_ble_eq_true rfl, Nat.le_of_ble_eq_true rfl⟩ (Nat.le_of_ble_eq_true rfl) ⟨Nat.le_of_ble_eq_true rfl, Nat.le_of_ble_eq_true rfl⟩ rfl dL_law_265 (fun r_2 H_2 locs_2 p_2 hT_2 hk_2 hS_2 => ?_)
  have hX_2 : va_X b L xs s H_2 := hX_1.kept (hS_2.2.1 b (Nat.not_le.mpr hbB))
  have kX : ∀ q, q < B + 178 → H_2[q]? = H_1[q]? := fun q hq => hk_2 q (fun h => by have h : q = rq B (B + 178) 0 ∨ q = rq B (B + 178) 2 := h; simp only [qn_178_0, qn_178_2] at h; omega)
  have hTX := hTX.same (H1 := H_2) (fun q t h => kX q (by obtain ⟨j, rfl, -, z1, -⟩ := tq_some h; omega))
  have hX9_2 : TX D (rq B) _ _ H_2 (rq B (B + 0) 0) := hX9_1.q (kX _ (by rw [qx_1]; omega)) (kX _ (by rw [qx_16]; omega))
  have hMc : IM D (rq B) (n + 1) H_2 (B + 178) := p_2
  have e5b : fi D 12 5 H_2 (B + 178) = fi D 12 5 H_1 (B + 178) := fi_q (hk_2 _ (fun h => by have h : B + 178 = rq B (B + 178) 0 ∨ B + 178 = rq B (B + 178) 2 := h; simp only [qn_178_0, qn_178_2] at h; omega))
  have hX12_2 : RX D (rq B) T k H_2 (B + 178) := hX12.q e5b (hk_2 _ (fun h => by have h : rq B (B + 178) 4 = rq B (B + 178) 0 ∨ rq B (B + 178) 4 = rq B (B + 178) 2 := h; rw [qn_178_0, qn_178_2, qn_178_4] at h; omega))
  have hLV2 : LV D cI cS B (n + 1) H_2 := ⟨hTX, hT_2, hMc, _, _, hX9_2, hX12_2⟩
  refine lv_pop hx hb dL_law_268 rfl ?_
  refine lv_goto (tgt := 766) hx hb dL_law_269 (by decide) ?_
  exact kk H_2 locs_2 hS_2.2.2 hX_2 hLV2
set_option maxHeartbeats 4000000 in
set_option maxRecDepth 100000 in
theorem v_say_1 (E : EE p s m args c cL_law RL D cI cS) (hml : c.maxLocals = 4) (hl : lv_has ls 4 [(3, .int i), (2, .ref (B + 178)), (1, .ref (B + 0)), (0, .ref b)]) (hWX : WF (tq B 0 178) (rq B)) (hWM : WF (tq B 178 186) (rq B)) (hLV : LV D cI cS B n H) (hn0 : 0 ≤ n) (hn1 : n + 1 ≤ 600) (hi0 : 0 ≤ i.toInt) (hi1 : i.toInt + 4 ≤ L) (hL : L ≤ 2048) (hX : va_X b L xs s H) (hbB : b < B) (hlo : ∀ x ∈ locs, B ≤ x.base) (he : (xs (i + 1).toNatClampNeg) = 1) (kk : KL p l e s m args below meth c ls Q D cI cS n B b L xs) : WL p l e s m args below meth c H locs ls Q 239 := by
  obtain ⟨hTX, hTM, hM0, T, k, hX9, hX12⟩ := hLV
  have hx := E.1
  have hb := E.2.1
  have hv_1 : vp_in (i + 1) L := idx_in (k := 1) (by decide) (by decide) hi0 (by omega) hL
  have hv_2 : vp_in (i + 2) L := idx_in (k := 2) (by decide) (by decide) hi0 (by omega) hL
  have hv_3 : vp_in (i + 3) L := idx_in (k := 3) (by decide) (by decide) hi0 (by omega) hL
  refine lv_aload_n hx hb dL_law_239 rfl (lv_at hl 2 rfl) ?_
  refine lv_aload_n hx hb dL_law_240 rfl (lv_at hl 3 rfl) ?_
  refine lv_iload_n hx hb dL_law_241 rfl (lv_at hl 0 rfl) ?_
  refine lv_iconst (v := 1) hx hb dL_law_242 (by decide) ?_
  refine lv_iadd hx hb dL_law_243 ?_
  refine lw_sldg hx hb hX hv_1 dL_law_244 ?_
  refine lv_aload_n hx hb dL_law_245 rfl (lv_at hl 3 rfl) ?_
  refine lv_iload_n hx hb dL_law_246 rfl (lv_at hl 0 rfl) ?_
  refine lv_iconst (v := 2) hx hb dL_law_247 (by decide) ?_
  refine lv_iadd hx hb dL_law_248 ?_
  refine lw_sldg hx hb hX hv_2 dL_law_249 ?_
  refine th_Vi (A := fun q => B ≤ q) (As := [.int (xs (i + 1).toNatClampNeg), .int (xs (i + 2).toNatClampNeg)]) (rest := []) E hml hl.1 (z_X11_say l D cI cS (tq B 0 178) (rq B) hWX H hTX (B + 0) (xs (i + 1).toNatClampNeg) (xs (i + 2).toNatClampNeg) (ttX B)) lk_L_36 yd_X11_say hTX (ttX B) rfl (by decide) ⟨rfl, fun _ _ => rfl, hlo⟩ (fun q h => (at_in h).1) ⟨Nat.le_of_ble_eq_true rfl, Nat.le_of_ble_eq_true rfl⟩ (Nat.le_of_ble_eq_true rfl) ⟨Nat.le_of_ble_eq_true rfl, Nat.le_of_ble_eq_true rfl⟩ rfl dL_law_250 (fun r_1 H_1 locs_1 p_1 hT_1 hk_1 hS_1 => ?_)
  have hX_1 : va_X b L xs s H_1 := hX.kept (hS_1.2.1 b (Nat.not_le.mpr hbB))
  have kM : ∀ q, B + 178 ≤ q → H_1[q]? = H[q]? := fun q hq => hk_1 q (fun h => by have := (at_in h).2; omega)
  have hTX := hT_1
  have hTM := hTM.same (H1 := H_1) (fun q t h => kM q (by obtain ⟨j, rfl, z1, -, -⟩ := tq_some h; omega))
  have hMa := hM0.kept (H1 := H_1) kM
  have hMb := hMa.mono (N1 := n + 1) (by omega)
  have e5 : fi D 12 5 H_1 (B + 178) = fi D 12 5 H (B + 178) := fi_q (kM _ (by omega))
  have hX9_1 : TX D (rq B) T k H_1 (rq B (B + 0) 0) := hX9.q (hk_1 _ (AT.out (t := 9) ttT (by decide))) (hk_1 _ (AT.out (t := 300) ttR (by decide)))
  have hX12 : RX D (rq B) T k H_1 (B + 178) := hX12.q (fi_q (kM _ (by omega))) (kM _ (by rw [qn_178_4]; omega))
  refine lv_pop hx hb dL_law_253 rfl ?_
  refine lv_aload_n hx hb dL_law_254 rfl (lv_at hl 1 rfl) ?_
  refine lv_aload_n hx hb dL_law_255 rfl (lv_at hl 3 rfl) ?_
  refine lv_iload_n hx hb dL_law_256 rfl (lv_at hl 0 rfl) ?_
  refine lv_iconst (v := 1) hx hb dL_law_257 (by decide) ?_
  refine lv_iadd hx hb dL_law_258 ?_
  refine lw_sldg hx hb hX_1 hv_1 dL_law_259 ?_
  refine th_topi he ?_
  refine lv_aload_n hx hb dL_law_260 rfl (lv_at hl 3 rfl) ?_
  refine lv_iload_n hx hb dL_law_261 rfl (lv_at hl 0 rfl) ?_
  refine lv_iconst (v := 2) hx hb dL_law_262 (by decide) ?_
  refine lv_iadd hx hb dL_law_263 ?_
  refine lw_sldg hx hb hX_1 hv_2 dL_law_264 ?_
  refine th_Vi (A := fun q => B ≤ q) (As := [.int 1, .int (xs (i + 2).toNatClampNeg)]) (rest := []) E hml hl.1 (y_say_v2 l D cI cS (tq B 178 186) (rq B) hWM H_1 hTM (B + 178) (xs (i + 2).toNatClampNeg) (ttM B) (n + 1) (by omega) hn1 hMb (by have h : (ai H_1 (rq B (B + 178) 0) 292).toInt ≤ n := (hMa.1 292 (by decide)).2; omega)) lk_L_39 yd_X12_say hTM (ttM B) rfl (by decide) ⟨rfl, fun _ _ => rfl, hS_1.2.2⟩ (fun q h => by have h : q = rq B (B + 178) 0 ∨ q = rq B (B + 178) 2 := h; simp only [qn_178_0, qn_178_2] at h; show B ≤ q; omega) ⟨Nat.le_of_ble_eq_true rfl, Nat.le_of_ble_eq_true rfl⟩ (Nat.le_of_ble_eq_true rfl) ⟨Nat.le_of_ble_eq_true rfl, Nat.le_of_ble_eq_true rfl⟩ rfl dL_law_265 (fun r_2 H_2 locs_2 p_2 hT_2 hk_2 hS_2 => ?_)
  have hX_2 : va_X b L xs s H_2 := hX_1.kept (hS_2.2.1 b (Nat.not_le.mpr hbB))
  have kX : ∀ q, q < B + 178 → H_2[q]? = H_1[q]? := fun q hq => hk_2 q (fun h => by have h : q = rq B (B + 178) 0 ∨ q = rq B (B + 178) 2 := h; simp only [qn_178_0, qn_178_2] at h; omega)
  have hTX := hTX.same (H1 := H_2) (fun q t h => kX q (by obtain ⟨j, rfl, -, z1, -⟩ := tq_some h; omega))
  have hX9_2 : TX D (rq B) _ _ H_2 (rq B (B + 0) 0) := hX9_1.q (kX _ (by rw [qx_1]; omega)) (kX _ (by rw [qx_16]; omega))
  have hMc : IM D (rq B) (n + 1) H_2 (B + 178) := p_2
  have e5b : fi D 12 5 H_2 (B + 178) = fi D 12 5 H_1 (B + 178) := fi_q (hk_2 _ (fun h => by have h : B + 178 = rq B (B + 178) 0 ∨ B + 178 = rq B (B + 178) 2 := h; simp only [qn_178_0, qn_178_2] at h; omega))
  have hX12_2 : RX D (rq B) T k H_2 (B + 178) := hX12.q e5b (hk_2 _ (fun h => by have h : rq B (B + 178) 4 = rq B (B + 178) 0 ∨ rq B (B + 178) 4 = rq B (B + 178) 2 := h; rw [qn_178_0, qn_178_2, qn_178_4] at h; omega))
  have hLV2 : LV D cI cS B (n + 1) H_2 := ⟨hTX, hT_2, hMc, _, _, hX9_2, hX12_2⟩
  refine lv_pop hx hb dL_law_268 rfl ?_
  refine lv_goto (tgt := 766) hx hb dL_law_269 (by decide) ?_
  exact kk H_2 locs_2 hS_2.2.2 hX_2 hLV2
set_option maxHeartbeats 4000000 in
set_option maxRecDepth 100000 in
theorem v_say_bad (E : EE p s m args c cL_law RL D cI cS) (hml : c.maxLocals = 4) (hl : lv_has ls 4 [(3, .int i), (2, .ref (B + 178)), (1, .ref (B + 0)), (0, .ref b)]) (hWX : WF (tq B 0 178) (rq B)) (hWM : WF (tq B 178 186) (rq B)) (hLV : LV D cI cS B n H) (hn0 : 0 ≤ n) (hn1 : n + 1 ≤ 600) (hi0 : 0 ≤ i.toInt) (hi1 : i.toInt + 4 ≤ L) (hL : L ≤ 2048) (hX : va_X b L xs s H) (hbB : b < B) (hlo : ∀ x ∈ locs, B ≤ x.base) (he : (xs (i + 1).toNatClampNeg).toInt < 0 ∨ 1 < (xs (i + 1).toNatClampNeg).toInt) (kk : KL p l e s m args below meth c ls Q D cI cS n B b L xs) : WL p l e s m args below meth c H locs ls Q 239 := by
  obtain ⟨hTX, hTM, hM0, T, k, hX9, hX12⟩ := hLV
  have hx := E.1
  have hb := E.2.1
  have hv_1 : vp_in (i + 1) L := idx_in (k := 1) (by decide) (by decide) hi0 (by omega) hL
  have hv_2 : vp_in (i + 2) L := idx_in (k := 2) (by decide) (by decide) hi0 (by omega) hL
  have hv_3 : vp_in (i + 3) L := idx_in (k := 3) (by decide) (by decide) hi0 (by omega) hL
  refine lv_aload_n hx hb dL_law_239 rfl (lv_at hl 2 rfl) ?_
  refine lv_aload_n hx hb dL_law_240 rfl (lv_at hl 3 rfl) ?_
  refine lv_iload_n hx hb dL_law_241 rfl (lv_at hl 0 rfl) ?_
  refine lv_iconst (v := 1) hx hb dL_law_242 (by decide) ?_
  refine lv_iadd hx hb dL_law_243 ?_
  refine lw_sldg hx hb hX hv_1 dL_law_244 ?_
  refine lv_aload_n hx hb dL_law_245 rfl (lv_at hl 3 rfl) ?_
  refine lv_iload_n hx hb dL_law_246 rfl (lv_at hl 0 rfl) ?_
  refine lv_iconst (v := 2) hx hb dL_law_247 (by decide) ?_
  refine lv_iadd hx hb dL_law_248 ?_
  refine lw_sldg hx hb hX hv_2 dL_law_249 ?_
  refine th_Vi (A := fun q => B ≤ q) (As := [.int (xs (i + 1).toNatClampNeg), .int (xs (i + 2).toNatClampNeg)]) (rest := []) E hml hl.1 (z_X11_say l D cI cS (tq B 0 178) (rq B) hWX H hTX (B + 0) (xs (i + 1).toNatClampNeg) (xs (i + 2).toNatClampNeg) (ttX B)) lk_L_36 yd_X11_say hTX (ttX B) rfl (by decide) ⟨rfl, fun _ _ => rfl, hlo⟩ (fun q h => (at_in h).1) ⟨Nat.le_of_ble_eq_true rfl, Nat.le_of_ble_eq_true rfl⟩ (Nat.le_of_ble_eq_true rfl) ⟨Nat.le_of_ble_eq_true rfl, Nat.le_of_ble_eq_true rfl⟩ rfl dL_law_250 (fun r_1 H_1 locs_1 p_1 hT_1 hk_1 hS_1 => ?_)
  have hX_1 : va_X b L xs s H_1 := hX.kept (hS_1.2.1 b (Nat.not_le.mpr hbB))
  have kM : ∀ q, B + 178 ≤ q → H_1[q]? = H[q]? := fun q hq => hk_1 q (fun h => by have := (at_in h).2; omega)
  have hTX := hT_1
  have hTM := hTM.same (H1 := H_1) (fun q t h => kM q (by obtain ⟨j, rfl, z1, -, -⟩ := tq_some h; omega))
  have hMa := hM0.kept (H1 := H_1) kM
  have hMb := hMa.mono (N1 := n + 1) (by omega)
  have e5 : fi D 12 5 H_1 (B + 178) = fi D 12 5 H (B + 178) := fi_q (kM _ (by omega))
  have hX9_1 : TX D (rq B) T k H_1 (rq B (B + 0) 0) := hX9.q (hk_1 _ (AT.out (t := 9) ttT (by decide))) (hk_1 _ (AT.out (t := 300) ttR (by decide)))
  have hX12 : RX D (rq B) T k H_1 (B + 178) := hX12.q (fi_q (kM _ (by omega))) (kM _ (by rw [qn_178_4]; omega))
  refine lv_pop hx hb dL_law_253 rfl ?_
  refine lv_aload_n hx hb dL_law_254 rfl (lv_at hl 1 rfl) ?_
  refine lv_aload_n hx hb dL_law_255 rfl (lv_at hl 3 rfl) ?_
  refine lv_iload_n hx hb dL_law_256 rfl (lv_at hl 0 rfl) ?_
  refine lv_iconst (v := 1) hx hb dL_law_257 (by decide) ?_
  refine lv_iadd hx hb dL_law_258 ?_
  refine lw_sldg hx hb hX_1 hv_1 dL_law_259 ?_
  refine lv_aload_n hx hb dL_law_260 rfl (lv_at hl 3 rfl) ?_
  refine lv_iload_n hx hb dL_law_261 rfl (lv_at hl 0 rfl) ?_
  refine lv_iconst (v := 2) hx hb dL_law_262 (by decide) ?_
  refine lv_iadd hx hb dL_law_263 ?_
  refine lw_sldg hx hb hX_1 hv_2 dL_law_264 ?_
  refine th_Vi (A := fun q => B ≤ q) (As := [.int (xs (i + 1).toNatClampNeg), .int (xs (i + 2).toNatClampNeg)]) (rest := []) E hml hl.1 (y_say_v3 l D cI cS (tq B 178 186) (rq B) hWM H_1 hTM (B + 178) (xs (i + 1).toNatClampNeg) (xs (i + 2).toNatClampNeg) (ttM B) (n + 1) (by omega) hn1 hMb he) lk_L_39 yd_X12_say hTM (ttM B) rfl (by decide) ⟨rfl, fun _ _ => rfl, hS_1.2.2⟩ (fun q h => h.elim) ⟨Nat.le_of_ble_eq_true rfl, Nat.le_of_ble_eq_true rfl⟩ (Nat.le_of_ble_eq_true rfl) ⟨Nat.le_of_ble_eq_true rfl, Nat.le_of_ble_eq_true rfl⟩ rfl dL_law_265 (fun r_2 H_2 locs_2 p_2 hT_2 hk_2 hS_2 => ?_)
  have hX_2 : va_X b L xs s H_2 := hX_1.kept (hS_2.2.1 b (Nat.not_le.mpr hbB))
  have kX : ∀ q, q < B + 178 → H_2[q]? = H_1[q]? := fun q hq => hk_2 q (fun h => h.elim)
  have hTX := hTX.same (H1 := H_2) (fun q t h => kX q (by obtain ⟨j, rfl, -, z1, -⟩ := tq_some h; omega))
  have hX9_2 : TX D (rq B) _ _ H_2 (rq B (B + 0) 0) := hX9_1.q (kX _ (by rw [qx_1]; omega)) (kX _ (by rw [qx_16]; omega))
  have hMc : IM D (rq B) (n + 1) H_2 (B + 178) := p_2
  have e5b : fi D 12 5 H_2 (B + 178) = fi D 12 5 H_1 (B + 178) := fi_q (hk_2 _ (fun h => h.elim))
  have hX12_2 : RX D (rq B) T k H_2 (B + 178) := hX12.q e5b (hk_2 _ (fun h => h.elim))
  have hLV2 : LV D cI cS B (n + 1) H_2 := ⟨hTX, hT_2, hMc, _, _, hX9_2, hX12_2⟩
  refine lv_pop hx hb dL_law_268 rfl ?_
  refine lv_goto (tgt := 766) hx hb dL_law_269 (by decide) ?_
  exact kk H_2 locs_2 hS_2.2.2 hX_2 hLV2
theorem v_say (E : EE p s m args c cL_law RL D cI cS) (hml : c.maxLocals = 4) (hl : lv_has ls 4 [(3, .int i), (2, .ref (B + 178)), (1, .ref (B + 0)), (0, .ref b)]) (hWX : WF (tq B 0 178) (rq B)) (hWM : WF (tq B 178 186) (rq B)) (hLV : LV D cI cS B n H) (hn0 : 0 ≤ n) (hn1 : n + 1 ≤ 600) (hi0 : 0 ≤ i.toInt) (hi1 : i.toInt + 4 ≤ L) (hL : L ≤ 2048) (hX : va_X b L xs s H) (hbB : b < B) (hlo : ∀ x ∈ locs, B ≤ x.base) (kk : KL p l e s m args below meth c ls Q D cI cS n B b L xs) : WL p l e s m args below meth c H locs ls Q 239 := by
  rcases (show (xs (i + 1).toNatClampNeg).toInt = 0 ∨ (xs (i + 1).toNatClampNeg).toInt = 1 ∨ ((xs (i + 1).toNatClampNeg).toInt < 0 ∨ 1 < (xs (i + 1).toNatClampNeg).toInt) by omega) with h | h | h
  · exact v_say_0 E hml hl hWX hWM hLV hn0 hn1 hi0 hi1 hL hX hbB hlo (i_eqc h (by decide)) kk
  · exact v_say_1 E hml hl hWX hWM hLV hn0 hn1 hi0 hi1 hL hX hbB hlo (i_eqc h (by decide)) kk
  · exact v_say_bad E hml hl hWX hWM hLV hn0 hn1 hi0 hi1 hL hX hbB hlo h kk
set_option maxHeartbeats 4000000 in
set_option maxRecDepth 100000 in
theorem v_cry_0 (E : EE p s m args c cL_law RL D cI cS) (hml : c.maxLocals = 4) (hl : lv_has ls 4 [(3, .int i), (2, .ref (B + 178)), (1, .ref (B + 0)), (0, .ref b)]) (hWX : WF (tq B 0 178) (rq B)) (hWM : WF (tq B 178 186) (rq B)) (hLV : LV D cI cS B n H) (hn0 : 0 ≤ n) (hn1 : n + 1 ≤ 600) (hi0 : 0 ≤ i.toInt) (hi1 : i.toInt + 4 ≤ L) (hL : L ≤ 2048) (hX : va_X b L xs s H) (hbB : b < B) (hlo : ∀ x ∈ locs, B ≤ x.base) (he : (xs (i + 1).toNatClampNeg) = 0) (kk : KL p l e s m args below meth c ls Q D cI cS n B b L xs) : WL p l e s m args below meth c H locs ls Q 272 := by
  obtain ⟨hTX, hTM, hM0, T, k, hX9, hX12⟩ := hLV
  have hx := E.1
  have hb := E.2.1
  have hv_1 : vp_in (i + 1) L := idx_in (k := 1) (by decide) (by decide) hi0 (by omega) hL
  have hv_2 : vp_in (i + 2) L := idx_in (k := 2) (by decide) (by decide) hi0 (by omega) hL
  have hv_3 : vp_in (i + 3) L := idx_in (k := 3) (by decide) (by decide) hi0 (by omega) hL
  refine lv_aload_n hx hb dL_law_272 rfl (lv_at hl 2 rfl) ?_
  refine lv_aload_n hx hb dL_law_273 rfl (lv_at hl 3 rfl) ?_
  refine lv_iload_n hx hb dL_law_274 rfl (lv_at hl 0 rfl) ?_
  refine lv_iconst (v := 1) hx hb dL_law_275 (by decide) ?_
  refine lv_iadd hx hb dL_law_276 ?_
  refine lw_sldg hx hb hX hv_1 dL_law_277 ?_
  refine th_Vi (A := fun q => B ≤ q) (As := [.int (xs (i + 1).toNatClampNeg)]) (rest := []) E hml hl.1 (z_X11_cry l D cI cS (tq B 0 178) (rq B) hWX H hTX (B + 0) (xs (i + 1).toNatClampNeg) (ttX B)) lk_L_40 yd_X11_cry hTX (ttX B) rfl (by decide) ⟨rfl, fun _ _ => rfl, hlo⟩ (fun q h => (at_in h).1) ⟨Nat.le_of_ble_eq_true rfl, Nat.le_of_ble_eq_true rfl⟩ (Nat.le_of_ble_eq_true rfl) ⟨Nat.le_of_ble_eq_true rfl, Nat.le_of_ble_eq_true rfl⟩ rfl dL_law_278 (fun r_1 H_1 locs_1 p_1 hT_1 hk_1 hS_1 => ?_)
  have hX_1 : va_X b L xs s H_1 := hX.kept (hS_1.2.1 b (Nat.not_le.mpr hbB))
  have kM : ∀ q, B + 178 ≤ q → H_1[q]? = H[q]? := fun q hq => hk_1 q (fun h => by have := (at_in h).2; omega)
  have hTX := hT_1
  have hTM := hTM.same (H1 := H_1) (fun q t h => kM q (by obtain ⟨j, rfl, z1, -, -⟩ := tq_some h; omega))
  have hMa := hM0.kept (H1 := H_1) kM
  have hMb := hMa.mono (N1 := n + 1) (by omega)
  have e5 : fi D 12 5 H_1 (B + 178) = fi D 12 5 H (B + 178) := fi_q (kM _ (by omega))
  have hX9_1 : TX D (rq B) T k H_1 (rq B (B + 0) 0) := hX9.q (hk_1 _ (AT.out (t := 9) ttT (by decide))) (hk_1 _ (AT.out (t := 300) ttR (by decide)))
  have hX12 : RX D (rq B) T k H_1 (B + 178) := hX12.q (fi_q (kM _ (by omega))) (kM _ (by rw [qn_178_4]; omega))
  refine lv_pop hx hb dL_law_281 rfl ?_
  refine lv_aload_n hx hb dL_law_282 rfl (lv_at hl 1 rfl) ?_
  refine lv_aload_n hx hb dL_law_283 rfl (lv_at hl 3 rfl) ?_
  refine lv_iload_n hx hb dL_law_284 rfl (lv_at hl 0 rfl) ?_
  refine lv_iconst (v := 1) hx hb dL_law_285 (by decide) ?_
  refine lv_iadd hx hb dL_law_286 ?_
  refine lw_sldg hx hb hX_1 hv_1 dL_law_287 ?_
  refine th_topi he ?_
  refine th_Vi (A := fun q => B ≤ q) (As := [.int 0]) (rest := []) E hml hl.1 (y_cry l D cI cS (tq B 178 186) (rq B) hWM H_1 hTM (B + 178) (ttM B) (n + 1) (by omega) hn1 hMb) lk_L_43 yd_X12_cry hTM (ttM B) rfl (by decide) ⟨rfl, fun _ _ => rfl, hS_1.2.2⟩ (fun q h => by have h : q = rq B (B + 178) 0 := h; simp only [qn_178_0] at h; show B ≤ q; omega) ⟨Nat.le_of_ble_eq_true rfl, Nat.le_of_ble_eq_true rfl⟩ (Nat.le_of_ble_eq_true rfl) ⟨Nat.le_of_ble_eq_true rfl, Nat.le_of_ble_eq_true rfl⟩ rfl dL_law_288 (fun r_2 H_2 locs_2 p_2 hT_2 hk_2 hS_2 => ?_)
  have hX_2 : va_X b L xs s H_2 := hX_1.kept (hS_2.2.1 b (Nat.not_le.mpr hbB))
  have kX : ∀ q, q < B + 178 → H_2[q]? = H_1[q]? := fun q hq => hk_2 q (fun h => by have h : q = rq B (B + 178) 0 := h; simp only [qn_178_0] at h; omega)
  have hTX := hTX.same (H1 := H_2) (fun q t h => kX q (by obtain ⟨j, rfl, -, z1, -⟩ := tq_some h; omega))
  have hX9_2 : TX D (rq B) _ _ H_2 (rq B (B + 0) 0) := hX9_1.q (kX _ (by rw [qx_1]; omega)) (kX _ (by rw [qx_16]; omega))
  have hMc : IM D (rq B) (n + 1) H_2 (B + 178) := p_2
  have e5b : fi D 12 5 H_2 (B + 178) = fi D 12 5 H_1 (B + 178) := fi_q (hk_2 _ (fun h => by have h : B + 178 = rq B (B + 178) 0 := h; simp only [qn_178_0] at h; omega))
  have hX12_2 : RX D (rq B) T k H_2 (B + 178) := hX12.q e5b (hk_2 _ (fun h => by have h : rq B (B + 178) 4 = rq B (B + 178) 0 := h; rw [qn_178_0, qn_178_4] at h; omega))
  have hLV2 : LV D cI cS B (n + 1) H_2 := ⟨hTX, hT_2, hMc, _, _, hX9_2, hX12_2⟩
  refine lv_pop hx hb dL_law_291 rfl ?_
  refine lv_goto (tgt := 766) hx hb dL_law_292 (by decide) ?_
  exact kk H_2 locs_2 hS_2.2.2 hX_2 hLV2
set_option maxHeartbeats 4000000 in
set_option maxRecDepth 100000 in
theorem v_cry_1 (E : EE p s m args c cL_law RL D cI cS) (hml : c.maxLocals = 4) (hl : lv_has ls 4 [(3, .int i), (2, .ref (B + 178)), (1, .ref (B + 0)), (0, .ref b)]) (hWX : WF (tq B 0 178) (rq B)) (hWM : WF (tq B 178 186) (rq B)) (hLV : LV D cI cS B n H) (hn0 : 0 ≤ n) (hn1 : n + 1 ≤ 600) (hi0 : 0 ≤ i.toInt) (hi1 : i.toInt + 4 ≤ L) (hL : L ≤ 2048) (hX : va_X b L xs s H) (hbB : b < B) (hlo : ∀ x ∈ locs, B ≤ x.base) (he : (xs (i + 1).toNatClampNeg) = 1) (kk : KL p l e s m args below meth c ls Q D cI cS n B b L xs) : WL p l e s m args below meth c H locs ls Q 272 := by
  obtain ⟨hTX, hTM, hM0, T, k, hX9, hX12⟩ := hLV
  have hx := E.1
  have hb := E.2.1
  have hv_1 : vp_in (i + 1) L := idx_in (k := 1) (by decide) (by decide) hi0 (by omega) hL
  have hv_2 : vp_in (i + 2) L := idx_in (k := 2) (by decide) (by decide) hi0 (by omega) hL
  have hv_3 : vp_in (i + 3) L := idx_in (k := 3) (by decide) (by decide) hi0 (by omega) hL
  refine lv_aload_n hx hb dL_law_272 rfl (lv_at hl 2 rfl) ?_
  refine lv_aload_n hx hb dL_law_273 rfl (lv_at hl 3 rfl) ?_
  refine lv_iload_n hx hb dL_law_274 rfl (lv_at hl 0 rfl) ?_
  refine lv_iconst (v := 1) hx hb dL_law_275 (by decide) ?_
  refine lv_iadd hx hb dL_law_276 ?_
  refine lw_sldg hx hb hX hv_1 dL_law_277 ?_
  refine th_Vi (A := fun q => B ≤ q) (As := [.int (xs (i + 1).toNatClampNeg)]) (rest := []) E hml hl.1 (z_X11_cry l D cI cS (tq B 0 178) (rq B) hWX H hTX (B + 0) (xs (i + 1).toNatClampNeg) (ttX B)) lk_L_40 yd_X11_cry hTX (ttX B) rfl (by decide) ⟨rfl, fun _ _ => rfl, hlo⟩ (fun q h => (at_in h).1) ⟨Nat.le_of_ble_eq_true rfl, Nat.le_of_ble_eq_true rfl⟩ (Nat.le_of_ble_eq_true rfl) ⟨Nat.le_of_ble_eq_true rfl, Nat.le_of_ble_eq_true rfl⟩ rfl dL_law_278 (fun r_1 H_1 locs_1 p_1 hT_1 hk_1 hS_1 => ?_)
  have hX_1 : va_X b L xs s H_1 := hX.kept (hS_1.2.1 b (Nat.not_le.mpr hbB))
  have kM : ∀ q, B + 178 ≤ q → H_1[q]? = H[q]? := fun q hq => hk_1 q (fun h => by have := (at_in h).2; omega)
  have hTX := hT_1
  have hTM := hTM.same (H1 := H_1) (fun q t h => kM q (by obtain ⟨j, rfl, z1, -, -⟩ := tq_some h; omega))
  have hMa := hM0.kept (H1 := H_1) kM
  have hMb := hMa.mono (N1 := n + 1) (by omega)
  have e5 : fi D 12 5 H_1 (B + 178) = fi D 12 5 H (B + 178) := fi_q (kM _ (by omega))
  have hX9_1 : TX D (rq B) T k H_1 (rq B (B + 0) 0) := hX9.q (hk_1 _ (AT.out (t := 9) ttT (by decide))) (hk_1 _ (AT.out (t := 300) ttR (by decide)))
  have hX12 : RX D (rq B) T k H_1 (B + 178) := hX12.q (fi_q (kM _ (by omega))) (kM _ (by rw [qn_178_4]; omega))
  refine lv_pop hx hb dL_law_281 rfl ?_
  refine lv_aload_n hx hb dL_law_282 rfl (lv_at hl 1 rfl) ?_
  refine lv_aload_n hx hb dL_law_283 rfl (lv_at hl 3 rfl) ?_
  refine lv_iload_n hx hb dL_law_284 rfl (lv_at hl 0 rfl) ?_
  refine lv_iconst (v := 1) hx hb dL_law_285 (by decide) ?_
  refine lv_iadd hx hb dL_law_286 ?_
  refine lw_sldg hx hb hX_1 hv_1 dL_law_287 ?_
  refine th_topi he ?_
  refine th_Vi (A := fun q => B ≤ q) (As := [.int 1]) (rest := []) E hml hl.1 (y_cry_v2 l D cI cS (tq B 178 186) (rq B) hWM H_1 hTM (B + 178) (ttM B) (n + 1) (by omega) hn1 hMb) lk_L_43 yd_X12_cry hTM (ttM B) rfl (by decide) ⟨rfl, fun _ _ => rfl, hS_1.2.2⟩ (fun q h => by have h : q = rq B (B + 178) 0 := h; simp only [qn_178_0] at h; show B ≤ q; omega) ⟨Nat.le_of_ble_eq_true rfl, Nat.le_of_ble_eq_true rfl⟩ (Nat.le_of_ble_eq_true rfl) ⟨Nat.le_of_ble_eq_true rfl, Nat.le_of_ble_eq_true rfl⟩ rfl dL_law_288 (fun r_2 H_2 locs_2 p_2 hT_2 hk_2 hS_2 => ?_)
  have hX_2 : va_X b L xs s H_2 := hX_1.kept (hS_2.2.1 b (Nat.not_le.mpr hbB))
  have kX : ∀ q, q < B + 178 → H_2[q]? = H_1[q]? := fun q hq => hk_2 q (fun h => by have h : q = rq B (B + 178) 0 := h; simp only [qn_178_0] at h; omega)
  have hTX := hTX.same (H1 := H_2) (fun q t h => kX q (by obtain ⟨j, rfl, -, z1, -⟩ := tq_some h; omega))
  have hX9_2 : TX D (rq B) _ _ H_2 (rq B (B + 0) 0) := hX9_1.q (kX _ (by rw [qx_1]; omega)) (kX _ (by rw [qx_16]; omega))
  have hMc : IM D (rq B) (n + 1) H_2 (B + 178) := p_2
  have e5b : fi D 12 5 H_2 (B + 178) = fi D 12 5 H_1 (B + 178) := fi_q (hk_2 _ (fun h => by have h : B + 178 = rq B (B + 178) 0 := h; simp only [qn_178_0] at h; omega))
  have hX12_2 : RX D (rq B) T k H_2 (B + 178) := hX12.q e5b (hk_2 _ (fun h => by have h : rq B (B + 178) 4 = rq B (B + 178) 0 := h; rw [qn_178_0, qn_178_4] at h; omega))
  have hLV2 : LV D cI cS B (n + 1) H_2 := ⟨hTX, hT_2, hMc, _, _, hX9_2, hX12_2⟩
  refine lv_pop hx hb dL_law_291 rfl ?_
  refine lv_goto (tgt := 766) hx hb dL_law_292 (by decide) ?_
  exact kk H_2 locs_2 hS_2.2.2 hX_2 hLV2
set_option maxHeartbeats 4000000 in
set_option maxRecDepth 100000 in
theorem v_cry_bad (E : EE p s m args c cL_law RL D cI cS) (hml : c.maxLocals = 4) (hl : lv_has ls 4 [(3, .int i), (2, .ref (B + 178)), (1, .ref (B + 0)), (0, .ref b)]) (hWX : WF (tq B 0 178) (rq B)) (hWM : WF (tq B 178 186) (rq B)) (hLV : LV D cI cS B n H) (hn0 : 0 ≤ n) (hn1 : n + 1 ≤ 600) (hi0 : 0 ≤ i.toInt) (hi1 : i.toInt + 4 ≤ L) (hL : L ≤ 2048) (hX : va_X b L xs s H) (hbB : b < B) (hlo : ∀ x ∈ locs, B ≤ x.base) (he : (xs (i + 1).toNatClampNeg).toInt < 0 ∨ 1 < (xs (i + 1).toNatClampNeg).toInt) (kk : KL p l e s m args below meth c ls Q D cI cS n B b L xs) : WL p l e s m args below meth c H locs ls Q 272 := by
  obtain ⟨hTX, hTM, hM0, T, k, hX9, hX12⟩ := hLV
  have hx := E.1
  have hb := E.2.1
  have hv_1 : vp_in (i + 1) L := idx_in (k := 1) (by decide) (by decide) hi0 (by omega) hL
  have hv_2 : vp_in (i + 2) L := idx_in (k := 2) (by decide) (by decide) hi0 (by omega) hL
  have hv_3 : vp_in (i + 3) L := idx_in (k := 3) (by decide) (by decide) hi0 (by omega) hL
  refine lv_aload_n hx hb dL_law_272 rfl (lv_at hl 2 rfl) ?_
  refine lv_aload_n hx hb dL_law_273 rfl (lv_at hl 3 rfl) ?_
  refine lv_iload_n hx hb dL_law_274 rfl (lv_at hl 0 rfl) ?_
  refine lv_iconst (v := 1) hx hb dL_law_275 (by decide) ?_
  refine lv_iadd hx hb dL_law_276 ?_
  refine lw_sldg hx hb hX hv_1 dL_law_277 ?_
  refine th_Vi (A := fun q => B ≤ q) (As := [.int (xs (i + 1).toNatClampNeg)]) (rest := []) E hml hl.1 (z_X11_cry l D cI cS (tq B 0 178) (rq B) hWX H hTX (B + 0) (xs (i + 1).toNatClampNeg) (ttX B)) lk_L_40 yd_X11_cry hTX (ttX B) rfl (by decide) ⟨rfl, fun _ _ => rfl, hlo⟩ (fun q h => (at_in h).1) ⟨Nat.le_of_ble_eq_true rfl, Nat.le_of_ble_eq_true rfl⟩ (Nat.le_of_ble_eq_true rfl) ⟨Nat.le_of_ble_eq_true rfl, Nat.le_of_ble_eq_true rfl⟩ rfl dL_law_278 (fun r_1 H_1 locs_1 p_1 hT_1 hk_1 hS_1 => ?_)
  have hX_1 : va_X b L xs s H_1 := hX.kept (hS_1.2.1 b (Nat.not_le.mpr hbB))
  have kM : ∀ q, B + 178 ≤ q → H_1[q]? = H[q]? := fun q hq => hk_1 q (fun h => by have := (at_in h).2; omega)
  have hTX := hT_1
  have hTM := hTM.same (H1 := H_1) (fun q t h => kM q (by obtain ⟨j, rfl, z1, -, -⟩ := tq_some h; omega))
  have hMa := hM0.kept (H1 := H_1) kM
  have hMb := hMa.mono (N1 := n + 1) (by omega)
  have e5 : fi D 12 5 H_1 (B + 178) = fi D 12 5 H (B + 178) := fi_q (kM _ (by omega))
  have hX9_1 : TX D (rq B) T k H_1 (rq B (B + 0) 0) := hX9.q (hk_1 _ (AT.out (t := 9) ttT (by decide))) (hk_1 _ (AT.out (t := 300) ttR (by decide)))
  have hX12 : RX D (rq B) T k H_1 (B + 178) := hX12.q (fi_q (kM _ (by omega))) (kM _ (by rw [qn_178_4]; omega))
  refine lv_pop hx hb dL_law_281 rfl ?_
  refine lv_aload_n hx hb dL_law_282 rfl (lv_at hl 1 rfl) ?_
  refine lv_aload_n hx hb dL_law_283 rfl (lv_at hl 3 rfl) ?_
  refine lv_iload_n hx hb dL_law_284 rfl (lv_at hl 0 rfl) ?_
  refine lv_iconst (v := 1) hx hb dL_law_285 (by decide) ?_
  refine lv_iadd hx hb dL_law_286 ?_
  refine lw_sldg hx hb hX_1 hv_1 dL_law_287 ?_
  refine th_Vi (A := fun q => B ≤ q) (As := [.int (xs (i + 1).toNatClampNeg)]) (rest := []) E hml hl.1 (y_cry_v3 l D cI cS (tq B 178 186) (rq B) hWM H_1 hTM (B + 178) (xs (i + 1).toNatClampNeg) (ttM B) (n + 1) (by omega) hn1 hMb he) lk_L_43 yd_X12_cry hTM (ttM B) rfl (by decide) ⟨rfl, fun _ _ => rfl, hS_1.2.2⟩ (fun q h => h.elim) ⟨Nat.le_of_ble_eq_true rfl, Nat.le_of_ble_eq_true rfl⟩ (Nat.le_of_ble_eq_true rfl) ⟨Nat.le_of_ble_eq_true rfl, Nat.le_of_ble_eq_true rfl⟩ rfl dL_law_288 (fun r_2 H_2 locs_2 p_2 hT_2 hk_2 hS_2 => ?_)
  have hX_2 : va_X b L xs s H_2 := hX_1.kept (hS_2.2.1 b (Nat.not_le.mpr hbB))
  have kX : ∀ q, q < B + 178 → H_2[q]? = H_1[q]? := fun q hq => hk_2 q (fun h => h.elim)
  have hTX := hTX.same (H1 := H_2) (fun q t h => kX q (by obtain ⟨j, rfl, -, z1, -⟩ := tq_some h; omega))
  have hX9_2 : TX D (rq B) _ _ H_2 (rq B (B + 0) 0) := hX9_1.q (kX _ (by rw [qx_1]; omega)) (kX _ (by rw [qx_16]; omega))
  have hMc : IM D (rq B) (n + 1) H_2 (B + 178) := p_2
  have e5b : fi D 12 5 H_2 (B + 178) = fi D 12 5 H_1 (B + 178) := fi_q (hk_2 _ (fun h => h.elim))
  have hX12_2 : RX D (rq B) T k H_2 (B + 178) := hX12.q e5b (hk_2 _ (fun h => h.elim))
  have hLV2 : LV D cI cS B (n + 1) H_2 := ⟨hTX, hT_2, hMc, _, _, hX9_2, hX12_2⟩
  refine lv_pop hx hb dL_law_291 rfl ?_
  refine lv_goto (tgt := 766) hx hb dL_law_292 (by decide) ?_
  exact kk H_2 locs_2 hS_2.2.2 hX_2 hLV2
theorem v_cry (E : EE p s m args c cL_law RL D cI cS) (hml : c.maxLocals = 4) (hl : lv_has ls 4 [(3, .int i), (2, .ref (B + 178)), (1, .ref (B + 0)), (0, .ref b)]) (hWX : WF (tq B 0 178) (rq B)) (hWM : WF (tq B 178 186) (rq B)) (hLV : LV D cI cS B n H) (hn0 : 0 ≤ n) (hn1 : n + 1 ≤ 600) (hi0 : 0 ≤ i.toInt) (hi1 : i.toInt + 4 ≤ L) (hL : L ≤ 2048) (hX : va_X b L xs s H) (hbB : b < B) (hlo : ∀ x ∈ locs, B ≤ x.base) (kk : KL p l e s m args below meth c ls Q D cI cS n B b L xs) : WL p l e s m args below meth c H locs ls Q 272 := by
  rcases (show (xs (i + 1).toNatClampNeg).toInt = 0 ∨ (xs (i + 1).toNatClampNeg).toInt = 1 ∨ ((xs (i + 1).toNatClampNeg).toInt < 0 ∨ 1 < (xs (i + 1).toNatClampNeg).toInt) by omega) with h | h | h
  · exact v_cry_0 E hml hl hWX hWM hLV hn0 hn1 hi0 hi1 hL hX hbB hlo (i_eqc h (by decide)) kk
  · exact v_cry_1 E hml hl hWX hWM hLV hn0 hn1 hi0 hi1 hL hX hbB hlo (i_eqc h (by decide)) kk
  · exact v_cry_bad E hml hl hWX hWM hLV hn0 hn1 hi0 hi1 hL hX hbB hlo h kk
set_option maxHeartbeats 4000000 in
set_option maxRecDepth 100000 in
theorem v_leave_0 (E : EE p s m args c cL_law RL D cI cS) (hml : c.maxLocals = 4) (hl : lv_has ls 4 [(3, .int i), (2, .ref (B + 178)), (1, .ref (B + 0)), (0, .ref b)]) (hWX : WF (tq B 0 178) (rq B)) (hWM : WF (tq B 178 186) (rq B)) (hLV : LV D cI cS B n H) (hn0 : 0 ≤ n) (hn1 : n + 1 ≤ 600) (hi0 : 0 ≤ i.toInt) (hi1 : i.toInt + 4 ≤ L) (hL : L ≤ 2048) (hX : va_X b L xs s H) (hbB : b < B) (hlo : ∀ x ∈ locs, B ≤ x.base) (he : (xs (i + 1).toNatClampNeg) = 0) (kk : KL p l e s m args below meth c ls Q D cI cS n B b L xs) : WL p l e s m args below meth c H locs ls Q 295 := by
  obtain ⟨hTX, hTM, hM0, T, k, hX9, hX12⟩ := hLV
  have hx := E.1
  have hb := E.2.1
  have hv_1 : vp_in (i + 1) L := idx_in (k := 1) (by decide) (by decide) hi0 (by omega) hL
  have hv_2 : vp_in (i + 2) L := idx_in (k := 2) (by decide) (by decide) hi0 (by omega) hL
  have hv_3 : vp_in (i + 3) L := idx_in (k := 3) (by decide) (by decide) hi0 (by omega) hL
  refine lv_aload_n hx hb dL_law_295 rfl (lv_at hl 2 rfl) ?_
  refine lv_aload_n hx hb dL_law_296 rfl (lv_at hl 3 rfl) ?_
  refine lv_iload_n hx hb dL_law_297 rfl (lv_at hl 0 rfl) ?_
  refine lv_iconst (v := 1) hx hb dL_law_298 (by decide) ?_
  refine lv_iadd hx hb dL_law_299 ?_
  refine lw_sldg hx hb hX hv_1 dL_law_300 ?_
  refine th_Vi (A := fun q => B ≤ q) (As := [.int (xs (i + 1).toNatClampNeg)]) (rest := []) E hml hl.1 (z_X11_leave l D cI cS (tq B 0 178) (rq B) hWX H hTX (B + 0) (xs (i + 1).toNatClampNeg) (ttX B)) lk_L_44 yd_X11_leave hTX (ttX B) rfl (by decide) ⟨rfl, fun _ _ => rfl, hlo⟩ (fun q h => (at_in h).1) ⟨Nat.le_of_ble_eq_true rfl, Nat.le_of_ble_eq_true rfl⟩ (Nat.le_of_ble_eq_true rfl) ⟨Nat.le_of_ble_eq_true rfl, Nat.le_of_ble_eq_true rfl⟩ rfl dL_law_301 (fun r_1 H_1 locs_1 p_1 hT_1 hk_1 hS_1 => ?_)
  have hX_1 : va_X b L xs s H_1 := hX.kept (hS_1.2.1 b (Nat.not_le.mpr hbB))
  have kM : ∀ q, B + 178 ≤ q → H_1[q]? = H[q]? := fun q hq => hk_1 q (fun h => by have := (at_in h).2; omega)
  have hTX := hT_1
  have hTM := hTM.same (H1 := H_1) (fun q t h => kM q (by obtain ⟨j, rfl, z1, -, -⟩ := tq_some h; omega))
  have hMa := hM0.kept (H1 := H_1) kM
  have hMb := hMa.mono (N1 := n + 1) (by omega)
  have e5 : fi D 12 5 H_1 (B + 178) = fi D 12 5 H (B + 178) := fi_q (kM _ (by omega))
  have hX9_1 : TX D (rq B) T k H_1 (rq B (B + 0) 0) := hX9.q (hk_1 _ (AT.out (t := 9) ttT (by decide))) (hk_1 _ (AT.out (t := 300) ttR (by decide)))
  have hX12 : RX D (rq B) T k H_1 (B + 178) := hX12.q (fi_q (kM _ (by omega))) (kM _ (by rw [qn_178_4]; omega))
  refine lv_pop hx hb dL_law_304 rfl ?_
  refine lv_aload_n hx hb dL_law_305 rfl (lv_at hl 1 rfl) ?_
  refine lv_aload_n hx hb dL_law_306 rfl (lv_at hl 3 rfl) ?_
  refine lv_iload_n hx hb dL_law_307 rfl (lv_at hl 0 rfl) ?_
  refine lv_iconst (v := 1) hx hb dL_law_308 (by decide) ?_
  refine lv_iadd hx hb dL_law_309 ?_
  refine lw_sldg hx hb hX_1 hv_1 dL_law_310 ?_
  refine th_topi he ?_
  refine th_Vi (A := fun q => B ≤ q) (As := [.int 0]) (rest := []) E hml hl.1 (y_leave l D cI cS (tq B 178 186) (rq B) hWM H_1 hTM (B + 178) (ttM B) (n + 1) (by omega) hn1 hMb) lk_L_47 yd_X12_leave hTM (ttM B) rfl (by decide) ⟨rfl, fun _ _ => rfl, hS_1.2.2⟩ (fun q h => by have h : q = rq B (B + 178) 0 ∨ q = rq B (B + 178) 2 := h; simp only [qn_178_0, qn_178_2] at h; show B ≤ q; omega) ⟨Nat.le_of_ble_eq_true rfl, Nat.le_of_ble_eq_true rfl⟩ (Nat.le_of_ble_eq_true rfl) ⟨Nat.le_of_ble_eq_true rfl, Nat.le_of_ble_eq_true rfl⟩ rfl dL_law_311 (fun r_2 H_2 locs_2 p_2 hT_2 hk_2 hS_2 => ?_)
  have hX_2 : va_X b L xs s H_2 := hX_1.kept (hS_2.2.1 b (Nat.not_le.mpr hbB))
  have kX : ∀ q, q < B + 178 → H_2[q]? = H_1[q]? := fun q hq => hk_2 q (fun h => by have h : q = rq B (B + 178) 0 ∨ q = rq B (B + 178) 2 := h; simp only [qn_178_0, qn_178_2] at h; omega)
  have hTX := hTX.same (H1 := H_2) (fun q t h => kX q (by obtain ⟨j, rfl, -, z1, -⟩ := tq_some h; omega))
  have hX9_2 : TX D (rq B) _ _ H_2 (rq B (B + 0) 0) := hX9_1.q (kX _ (by rw [qx_1]; omega)) (kX _ (by rw [qx_16]; omega))
  have hMc : IM D (rq B) (n + 1) H_2 (B + 178) := p_2
  have e5b : fi D 12 5 H_2 (B + 178) = fi D 12 5 H_1 (B + 178) := fi_q (hk_2 _ (fun h => by have h : B + 178 = rq B (B + 178) 0 ∨ B + 178 = rq B (B + 178) 2 := h; simp only [qn_178_0, qn_178_2] at h; omega))
  have hX12_2 : RX D (rq B) T k H_2 (B + 178) := hX12.q e5b (hk_2 _ (fun h => by have h : rq B (B + 178) 4 = rq B (B + 178) 0 ∨ rq B (B + 178) 4 = rq B (B + 178) 2 := h; rw [qn_178_0, qn_178_2, qn_178_4] at h; omega))
  have hLV2 : LV D cI cS B (n + 1) H_2 := ⟨hTX, hT_2, hMc, _, _, hX9_2, hX12_2⟩
  refine lv_pop hx hb dL_law_314 rfl ?_
  refine lv_goto (tgt := 766) hx hb dL_law_315 (by decide) ?_
  exact kk H_2 locs_2 hS_2.2.2 hX_2 hLV2
set_option maxHeartbeats 4000000 in
set_option maxRecDepth 100000 in
theorem v_leave_1 (E : EE p s m args c cL_law RL D cI cS) (hml : c.maxLocals = 4) (hl : lv_has ls 4 [(3, .int i), (2, .ref (B + 178)), (1, .ref (B + 0)), (0, .ref b)]) (hWX : WF (tq B 0 178) (rq B)) (hWM : WF (tq B 178 186) (rq B)) (hLV : LV D cI cS B n H) (hn0 : 0 ≤ n) (hn1 : n + 1 ≤ 600) (hi0 : 0 ≤ i.toInt) (hi1 : i.toInt + 4 ≤ L) (hL : L ≤ 2048) (hX : va_X b L xs s H) (hbB : b < B) (hlo : ∀ x ∈ locs, B ≤ x.base) (he : (xs (i + 1).toNatClampNeg) = 1) (kk : KL p l e s m args below meth c ls Q D cI cS n B b L xs) : WL p l e s m args below meth c H locs ls Q 295 := by
  obtain ⟨hTX, hTM, hM0, T, k, hX9, hX12⟩ := hLV
  have hx := E.1
  have hb := E.2.1
  have hv_1 : vp_in (i + 1) L := idx_in (k := 1) (by decide) (by decide) hi0 (by omega) hL
  have hv_2 : vp_in (i + 2) L := idx_in (k := 2) (by decide) (by decide) hi0 (by omega) hL
  have hv_3 : vp_in (i + 3) L := idx_in (k := 3) (by decide) (by decide) hi0 (by omega) hL
  refine lv_aload_n hx hb dL_law_295 rfl (lv_at hl 2 rfl) ?_
  refine lv_aload_n hx hb dL_law_296 rfl (lv_at hl 3 rfl) ?_
  refine lv_iload_n hx hb dL_law_297 rfl (lv_at hl 0 rfl) ?_
  refine lv_iconst (v := 1) hx hb dL_law_298 (by decide) ?_
  refine lv_iadd hx hb dL_law_299 ?_
  refine lw_sldg hx hb hX hv_1 dL_law_300 ?_
  refine th_Vi (A := fun q => B ≤ q) (As := [.int (xs (i + 1).toNatClampNeg)]) (rest := []) E hml hl.1 (z_X11_leave l D cI cS (tq B 0 178) (rq B) hWX H hTX (B + 0) (xs (i + 1).toNatClampNeg) (ttX B)) lk_L_44 yd_X11_leave hTX (ttX B) rfl (by decide) ⟨rfl, fun _ _ => rfl, hlo⟩ (fun q h => (at_in h).1) ⟨Nat.le_of_ble_eq_true rfl, Nat.le_of_ble_eq_true rfl⟩ (Nat.le_of_ble_eq_true rfl) ⟨Nat.le_of_ble_eq_true rfl, Nat.le_of_ble_eq_true rfl⟩ rfl dL_law_301 (fun r_1 H_1 locs_1 p_1 hT_1 hk_1 hS_1 => ?_)
  have hX_1 : va_X b L xs s H_1 := hX.kept (hS_1.2.1 b (Nat.not_le.mpr hbB))
  have kM : ∀ q, B + 178 ≤ q → H_1[q]? = H[q]? := fun q hq => hk_1 q (fun h => by have := (at_in h).2; omega)
  have hTX := hT_1
  have hTM := hTM.same (H1 := H_1) (fun q t h => kM q (by obtain ⟨j, rfl, z1, -, -⟩ := tq_some h; omega))
  have hMa := hM0.kept (H1 := H_1) kM
  have hMb := hMa.mono (N1 := n + 1) (by omega)
  have e5 : fi D 12 5 H_1 (B + 178) = fi D 12 5 H (B + 178) := fi_q (kM _ (by omega))
  have hX9_1 : TX D (rq B) T k H_1 (rq B (B + 0) 0) := hX9.q (hk_1 _ (AT.out (t := 9) ttT (by decide))) (hk_1 _ (AT.out (t := 300) ttR (by decide)))
  have hX12 : RX D (rq B) T k H_1 (B + 178) := hX12.q (fi_q (kM _ (by omega))) (kM _ (by rw [qn_178_4]; omega))
  refine lv_pop hx hb dL_law_304 rfl ?_
  refine lv_aload_n hx hb dL_law_305 rfl (lv_at hl 1 rfl) ?_
  refine lv_aload_n hx hb dL_law_306 rfl (lv_at hl 3 rfl) ?_
  refine lv_iload_n hx hb dL_law_307 rfl (lv_at hl 0 rfl) ?_
  refine lv_iconst (v := 1) hx hb dL_law_308 (by decide) ?_
  refine lv_iadd hx hb dL_law_309 ?_
  refine lw_sldg hx hb hX_1 hv_1 dL_law_310 ?_
  refine th_topi he ?_
  refine th_Vi (A := fun q => B ≤ q) (As := [.int 1]) (rest := []) E hml hl.1 (y_leave_v2 l D cI cS (tq B 178 186) (rq B) hWM H_1 hTM (B + 178) (ttM B) (n + 1) (by omega) hn1 hMb) lk_L_47 yd_X12_leave hTM (ttM B) rfl (by decide) ⟨rfl, fun _ _ => rfl, hS_1.2.2⟩ (fun q h => by have h : q = rq B (B + 178) 0 ∨ q = rq B (B + 178) 2 := h; simp only [qn_178_0, qn_178_2] at h; show B ≤ q; omega) ⟨Nat.le_of_ble_eq_true rfl, Nat.le_of_ble_eq_true rfl⟩ (Nat.le_of_ble_eq_true rfl) ⟨Nat.le_of_ble_eq_true rfl, Nat.le_of_ble_eq_true rfl⟩ rfl dL_law_311 (fun r_2 H_2 locs_2 p_2 hT_2 hk_2 hS_2 => ?_)
  have hX_2 : va_X b L xs s H_2 := hX_1.kept (hS_2.2.1 b (Nat.not_le.mpr hbB))
  have kX : ∀ q, q < B + 178 → H_2[q]? = H_1[q]? := fun q hq => hk_2 q (fun h => by have h : q = rq B (B + 178) 0 ∨ q = rq B (B + 178) 2 := h; simp only [qn_178_0, qn_178_2] at h; omega)
  have hTX := hTX.same (H1 := H_2) (fun q t h => kX q (by obtain ⟨j, rfl, -, z1, -⟩ := tq_some h; omega))
  have hX9_2 : TX D (rq B) _ _ H_2 (rq B (B + 0) 0) := hX9_1.q (kX _ (by rw [qx_1]; omega)) (kX _ (by rw [qx_16]; omega))
  have hMc : IM D (rq B) (n + 1) H_2 (B + 178) := p_2
  have e5b : fi D 12 5 H_2 (B + 178) = fi D 12 5 H_1 (B + 178) := fi_q (hk_2 _ (fun h => by have h : B + 178 = rq B (B + 178) 0 ∨ B + 178 = rq B (B + 178) 2 := h; simp only [qn_178_0, qn_178_2] at h; omega))
  have hX12_2 : RX D (rq B) T k H_2 (B + 178) := hX12.q e5b (hk_2 _ (fun h => by have h : rq B (B + 178) 4 = rq B (B + 178) 0 ∨ rq B (B + 178) 4 = rq B (B + 178) 2 := h; rw [qn_178_0, qn_178_2, qn_178_4] at h; omega))
  have hLV2 : LV D cI cS B (n + 1) H_2 := ⟨hTX, hT_2, hMc, _, _, hX9_2, hX12_2⟩
  refine lv_pop hx hb dL_law_314 rfl ?_
  refine lv_goto (tgt := 766) hx hb dL_law_315 (by decide) ?_
  exact kk H_2 locs_2 hS_2.2.2 hX_2 hLV2
set_option maxHeartbeats 4000000 in
set_option maxRecDepth 100000 in
theorem v_leave_bad (E : EE p s m args c cL_law RL D cI cS) (hml : c.maxLocals = 4) (hl : lv_has ls 4 [(3, .int i), (2, .ref (B + 178)), (1, .ref (B + 0)), (0, .ref b)]) (hWX : WF (tq B 0 178) (rq B)) (hWM : WF (tq B 178 186) (rq B)) (hLV : LV D cI cS B n H) (hn0 : 0 ≤ n) (hn1 : n + 1 ≤ 600) (hi0 : 0 ≤ i.toInt) (hi1 : i.toInt + 4 ≤ L) (hL : L ≤ 2048) (hX : va_X b L xs s H) (hbB : b < B) (hlo : ∀ x ∈ locs, B ≤ x.base) (he : (xs (i + 1).toNatClampNeg).toInt < 0 ∨ 1 < (xs (i + 1).toNatClampNeg).toInt) (kk : KL p l e s m args below meth c ls Q D cI cS n B b L xs) : WL p l e s m args below meth c H locs ls Q 295 := by
  obtain ⟨hTX, hTM, hM0, T, k, hX9, hX12⟩ := hLV
  have hx := E.1
  have hb := E.2.1
  have hv_1 : vp_in (i + 1) L := idx_in (k := 1) (by decide) (by decide) hi0 (by omega) hL
  have hv_2 : vp_in (i + 2) L := idx_in (k := 2) (by decide) (by decide) hi0 (by omega) hL
  have hv_3 : vp_in (i + 3) L := idx_in (k := 3) (by decide) (by decide) hi0 (by omega) hL
  refine lv_aload_n hx hb dL_law_295 rfl (lv_at hl 2 rfl) ?_
  refine lv_aload_n hx hb dL_law_296 rfl (lv_at hl 3 rfl) ?_
  refine lv_iload_n hx hb dL_law_297 rfl (lv_at hl 0 rfl) ?_
  refine lv_iconst (v := 1) hx hb dL_law_298 (by decide) ?_
  refine lv_iadd hx hb dL_law_299 ?_
  refine lw_sldg hx hb hX hv_1 dL_law_300 ?_
  refine th_Vi (A := fun q => B ≤ q) (As := [.int (xs (i + 1).toNatClampNeg)]) (rest := []) E hml hl.1 (z_X11_leave l D cI cS (tq B 0 178) (rq B) hWX H hTX (B + 0) (xs (i + 1).toNatClampNeg) (ttX B)) lk_L_44 yd_X11_leave hTX (ttX B) rfl (by decide) ⟨rfl, fun _ _ => rfl, hlo⟩ (fun q h => (at_in h).1) ⟨Nat.le_of_ble_eq_true rfl, Nat.le_of_ble_eq_true rfl⟩ (Nat.le_of_ble_eq_true rfl) ⟨Nat.le_of_ble_eq_true rfl, Nat.le_of_ble_eq_true rfl⟩ rfl dL_law_301 (fun r_1 H_1 locs_1 p_1 hT_1 hk_1 hS_1 => ?_)
  have hX_1 : va_X b L xs s H_1 := hX.kept (hS_1.2.1 b (Nat.not_le.mpr hbB))
  have kM : ∀ q, B + 178 ≤ q → H_1[q]? = H[q]? := fun q hq => hk_1 q (fun h => by have := (at_in h).2; omega)
  have hTX := hT_1
  have hTM := hTM.same (H1 := H_1) (fun q t h => kM q (by obtain ⟨j, rfl, z1, -, -⟩ := tq_some h; omega))
  have hMa := hM0.kept (H1 := H_1) kM
  have hMb := hMa.mono (N1 := n + 1) (by omega)
  have e5 : fi D 12 5 H_1 (B + 178) = fi D 12 5 H (B + 178) := fi_q (kM _ (by omega))
  have hX9_1 : TX D (rq B) T k H_1 (rq B (B + 0) 0) := hX9.q (hk_1 _ (AT.out (t := 9) ttT (by decide))) (hk_1 _ (AT.out (t := 300) ttR (by decide)))
  have hX12 : RX D (rq B) T k H_1 (B + 178) := hX12.q (fi_q (kM _ (by omega))) (kM _ (by rw [qn_178_4]; omega))
  refine lv_pop hx hb dL_law_304 rfl ?_
  refine lv_aload_n hx hb dL_law_305 rfl (lv_at hl 1 rfl) ?_
  refine lv_aload_n hx hb dL_law_306 rfl (lv_at hl 3 rfl) ?_
  refine lv_iload_n hx hb dL_law_307 rfl (lv_at hl 0 rfl) ?_
  refine lv_iconst (v := 1) hx hb dL_law_308 (by decide) ?_
  refine lv_iadd hx hb dL_law_309 ?_
  refine lw_sldg hx hb hX_1 hv_1 dL_law_310 ?_
  refine th_Vi (A := fun q => B ≤ q) (As := [.int (xs (i + 1).toNatClampNeg)]) (rest := []) E hml hl.1 (y_leave_v3 l D cI cS (tq B 178 186) (rq B) hWM H_1 hTM (B + 178) (xs (i + 1).toNatClampNeg) (ttM B) (n + 1) (by omega) hn1 hMb he) lk_L_47 yd_X12_leave hTM (ttM B) rfl (by decide) ⟨rfl, fun _ _ => rfl, hS_1.2.2⟩ (fun q h => h.elim) ⟨Nat.le_of_ble_eq_true rfl, Nat.le_of_ble_eq_true rfl⟩ (Nat.le_of_ble_eq_true rfl) ⟨Nat.le_of_ble_eq_true rfl, Nat.le_of_ble_eq_true rfl⟩ rfl dL_law_311 (fun r_2 H_2 locs_2 p_2 hT_2 hk_2 hS_2 => ?_)
  have hX_2 : va_X b L xs s H_2 := hX_1.kept (hS_2.2.1 b (Nat.not_le.mpr hbB))
  have kX : ∀ q, q < B + 178 → H_2[q]? = H_1[q]? := fun q hq => hk_2 q (fun h => h.elim)
  have hTX := hTX.same (H1 := H_2) (fun q t h => kX q (by obtain ⟨j, rfl, -, z1, -⟩ := tq_some h; omega))
  have hX9_2 : TX D (rq B) _ _ H_2 (rq B (B + 0) 0) := hX9_1.q (kX _ (by rw [qx_1]; omega)) (kX _ (by rw [qx_16]; omega))
  have hMc : IM D (rq B) (n + 1) H_2 (B + 178) := p_2
  have e5b : fi D 12 5 H_2 (B + 178) = fi D 12 5 H_1 (B + 178) := fi_q (hk_2 _ (fun h => h.elim))
  have hX12_2 : RX D (rq B) T k H_2 (B + 178) := hX12.q e5b (hk_2 _ (fun h => h.elim))
  have hLV2 : LV D cI cS B (n + 1) H_2 := ⟨hTX, hT_2, hMc, _, _, hX9_2, hX12_2⟩
  refine lv_pop hx hb dL_law_314 rfl ?_
  refine lv_goto (tgt := 766) hx hb dL_law_315 (by decide) ?_
  exact kk H_2 locs_2 hS_2.2.2 hX_2 hLV2
theorem v_leave (E : EE p s m args c cL_law RL D cI cS) (hml : c.maxLocals = 4) (hl : lv_has ls 4 [(3, .int i), (2, .ref (B + 178)), (1, .ref (B + 0)), (0, .ref b)]) (hWX : WF (tq B 0 178) (rq B)) (hWM : WF (tq B 178 186) (rq B)) (hLV : LV D cI cS B n H) (hn0 : 0 ≤ n) (hn1 : n + 1 ≤ 600) (hi0 : 0 ≤ i.toInt) (hi1 : i.toInt + 4 ≤ L) (hL : L ≤ 2048) (hX : va_X b L xs s H) (hbB : b < B) (hlo : ∀ x ∈ locs, B ≤ x.base) (kk : KL p l e s m args below meth c ls Q D cI cS n B b L xs) : WL p l e s m args below meth c H locs ls Q 295 := by
  rcases (show (xs (i + 1).toNatClampNeg).toInt = 0 ∨ (xs (i + 1).toNatClampNeg).toInt = 1 ∨ ((xs (i + 1).toNatClampNeg).toInt < 0 ∨ 1 < (xs (i + 1).toNatClampNeg).toInt) by omega) with h | h | h
  · exact v_leave_0 E hml hl hWX hWM hLV hn0 hn1 hi0 hi1 hL hX hbB hlo (i_eqc h (by decide)) kk
  · exact v_leave_1 E hml hl hWX hWM hLV hn0 hn1 hi0 hi1 hL hX hbB hlo (i_eqc h (by decide)) kk
  · exact v_leave_bad E hml hl hWX hWM hLV hn0 hn1 hi0 hi1 hL hX hbB hlo h kk
set_option maxHeartbeats 4000000 in
set_option maxRecDepth 100000 in
theorem v_quit_0 (E : EE p s m args c cL_law RL D cI cS) (hml : c.maxLocals = 4) (hl : lv_has ls 4 [(3, .int i), (2, .ref (B + 178)), (1, .ref (B + 0)), (0, .ref b)]) (hWX : WF (tq B 0 178) (rq B)) (hWM : WF (tq B 178 186) (rq B)) (hLV : LV D cI cS B n H) (hn0 : 0 ≤ n) (hn1 : n + 1 ≤ 600) (hi0 : 0 ≤ i.toInt) (hi1 : i.toInt + 4 ≤ L) (hL : L ≤ 2048) (hX : va_X b L xs s H) (hbB : b < B) (hlo : ∀ x ∈ locs, B ≤ x.base) (he : (xs (i + 1).toNatClampNeg) = 0) (kk : KL p l e s m args below meth c ls Q D cI cS n B b L xs) : WL p l e s m args below meth c H locs ls Q 318 := by
  obtain ⟨hTX, hTM, hM0, T, k, hX9, hX12⟩ := hLV
  have hx := E.1
  have hb := E.2.1
  have hv_1 : vp_in (i + 1) L := idx_in (k := 1) (by decide) (by decide) hi0 (by omega) hL
  have hv_2 : vp_in (i + 2) L := idx_in (k := 2) (by decide) (by decide) hi0 (by omega) hL
  have hv_3 : vp_in (i + 3) L := idx_in (k := 3) (by decide) (by decide) hi0 (by omega) hL
  refine lv_aload_n hx hb dL_law_318 rfl (lv_at hl 2 rfl) ?_
  refine lv_aload_n hx hb dL_law_319 rfl (lv_at hl 3 rfl) ?_
  refine lv_iload_n hx hb dL_law_320 rfl (lv_at hl 0 rfl) ?_
  refine lv_iconst (v := 1) hx hb dL_law_321 (by decide) ?_
  refine lv_iadd hx hb dL_law_322 ?_
  refine lw_sldg hx hb hX hv_1 dL_law_323 ?_
  refine th_Vi (A := fun q => B ≤ q) (As := [.int (xs (i + 1).toNatClampNeg)]) (rest := []) E hml hl.1 (z_X11_quit l D cI cS (tq B 0 178) (rq B) hWX H hTX (B + 0) (xs (i + 1).toNatClampNeg) (ttX B)) lk_L_48 yd_X11_quit hTX (ttX B) rfl (by decide) ⟨rfl, fun _ _ => rfl, hlo⟩ (fun q h => (at_in h).1) ⟨Nat.le_of_ble_eq_true rfl, Nat.le_of_ble_eq_true rfl⟩ (Nat.le_of_ble_eq_true rfl) ⟨Nat.le_of_ble_eq_true rfl, Nat.le_of_ble_eq_true rfl⟩ rfl dL_law_324 (fun r_1 H_1 locs_1 p_1 hT_1 hk_1 hS_1 => ?_)
  have hX_1 : va_X b L xs s H_1 := hX.kept (hS_1.2.1 b (Nat.not_le.mpr hbB))
  have kM : ∀ q, B + 178 ≤ q → H_1[q]? = H[q]? := fun q hq => hk_1 q (fun h => by have := (at_in h).2; omega)
  have hTX := hT_1
  have hTM := hTM.same (H1 := H_1) (fun q t h => kM q (by obtain ⟨j, rfl, z1, -, -⟩ := tq_some h; omega))
  have hMa := hM0.kept (H1 := H_1) kM
  have hMb := hMa.mono (N1 := n + 1) (by omega)
  have e5 : fi D 12 5 H_1 (B + 178) = fi D 12 5 H (B + 178) := fi_q (kM _ (by omega))
  have hX9_1 : TX D (rq B) T k H_1 (rq B (B + 0) 0) := hX9.q (hk_1 _ (AT.out (t := 9) ttT (by decide))) (hk_1 _ (AT.out (t := 300) ttR (by decide)))
  have hX12 : RX D (rq B) T k H_1 (B + 178) := hX12.q (fi_q (kM _ (by omega))) (kM _ (by rw [qn_178_4]; omega))
  refine lv_pop hx hb dL_law_327 rfl ?_
  refine lv_aload_n hx hb dL_law_328 rfl (lv_at hl 1 rfl) ?_
  refine lv_aload_n hx hb dL_law_329 rfl (lv_at hl 3 rfl) ?_
  refine lv_iload_n hx hb dL_law_330 rfl (lv_at hl 0 rfl) ?_
  refine lv_iconst (v := 1) hx hb dL_law_331 (by decide) ?_
  refine lv_iadd hx hb dL_law_332 ?_
  refine lw_sldg hx hb hX_1 hv_1 dL_law_333 ?_
  refine th_topi he ?_
  refine th_Vi (A := fun q => B ≤ q) (As := [.int 0]) (rest := []) E hml hl.1 (y_quit l D cI cS (tq B 178 186) (rq B) hWM H_1 hTM (B + 178) (ttM B) (n + 1) (by omega) hn1 hMb) lk_L_51 yd_X12_quit hTM (ttM B) rfl (by decide) ⟨rfl, fun _ _ => rfl, hS_1.2.2⟩ (fun q h => by have h : q = rq B (B + 178) 2 ∨ q = rq B (B + 178) 0 := h; simp only [qn_178_0, qn_178_2] at h; show B ≤ q; omega) ⟨Nat.le_of_ble_eq_true rfl, Nat.le_of_ble_eq_true rfl⟩ (Nat.le_of_ble_eq_true rfl) ⟨Nat.le_of_ble_eq_true rfl, Nat.le_of_ble_eq_true rfl⟩ rfl dL_law_334 (fun r_2 H_2 locs_2 p_2 hT_2 hk_2 hS_2 => ?_)
  have hX_2 : va_X b L xs s H_2 := hX_1.kept (hS_2.2.1 b (Nat.not_le.mpr hbB))
  have kX : ∀ q, q < B + 178 → H_2[q]? = H_1[q]? := fun q hq => hk_2 q (fun h => by have h : q = rq B (B + 178) 2 ∨ q = rq B (B + 178) 0 := h; simp only [qn_178_0, qn_178_2] at h; omega)
  have hTX := hTX.same (H1 := H_2) (fun q t h => kX q (by obtain ⟨j, rfl, -, z1, -⟩ := tq_some h; omega))
  have hX9_2 : TX D (rq B) _ _ H_2 (rq B (B + 0) 0) := hX9_1.q (kX _ (by rw [qx_1]; omega)) (kX _ (by rw [qx_16]; omega))
  have hMc : IM D (rq B) (n + 1) H_2 (B + 178) := p_2
  have e5b : fi D 12 5 H_2 (B + 178) = fi D 12 5 H_1 (B + 178) := fi_q (hk_2 _ (fun h => by have h : B + 178 = rq B (B + 178) 2 ∨ B + 178 = rq B (B + 178) 0 := h; simp only [qn_178_0, qn_178_2] at h; omega))
  have hX12_2 : RX D (rq B) T k H_2 (B + 178) := hX12.q e5b (hk_2 _ (fun h => by have h : rq B (B + 178) 4 = rq B (B + 178) 2 ∨ rq B (B + 178) 4 = rq B (B + 178) 0 := h; rw [qn_178_0, qn_178_2, qn_178_4] at h; omega))
  have hLV2 : LV D cI cS B (n + 1) H_2 := ⟨hTX, hT_2, hMc, _, _, hX9_2, hX12_2⟩
  refine lv_pop hx hb dL_law_337 rfl ?_
  refine lv_goto (tgt := 766) hx hb dL_law_338 (by decide) ?_
  exact kk H_2 locs_2 hS_2.2.2 hX_2 hLV2
set_option maxHeartbeats 4000000 in
set_option maxRecDepth 100000 in
theorem v_quit_1 (E : EE p s m args c cL_law RL D cI cS) (hml : c.maxLocals = 4) (hl : lv_has ls 4 [(3, .int i), (2, .ref (B + 178)), (1, .ref (B + 0)), (0, .ref b)]) (hWX : WF (tq B 0 178) (rq B)) (hWM : WF (tq B 178 186) (rq B)) (hLV : LV D cI cS B n H) (hn0 : 0 ≤ n) (hn1 : n + 1 ≤ 600) (hi0 : 0 ≤ i.toInt) (hi1 : i.toInt + 4 ≤ L) (hL : L ≤ 2048) (hX : va_X b L xs s H) (hbB : b < B) (hlo : ∀ x ∈ locs, B ≤ x.base) (he : (xs (i + 1).toNatClampNeg) = 1) (kk : KL p l e s m args below meth c ls Q D cI cS n B b L xs) : WL p l e s m args below meth c H locs ls Q 318 := by
  obtain ⟨hTX, hTM, hM0, T, k, hX9, hX12⟩ := hLV
  have hx := E.1
  have hb := E.2.1
  have hv_1 : vp_in (i + 1) L := idx_in (k := 1) (by decide) (by decide) hi0 (by omega) hL
  have hv_2 : vp_in (i + 2) L := idx_in (k := 2) (by decide) (by decide) hi0 (by omega) hL
  have hv_3 : vp_in (i + 3) L := idx_in (k := 3) (by decide) (by decide) hi0 (by omega) hL
  refine lv_aload_n hx hb dL_law_318 rfl (lv_at hl 2 rfl) ?_
  refine lv_aload_n hx hb dL_law_319 rfl (lv_at hl 3 rfl) ?_
  refine lv_iload_n hx hb dL_law_320 rfl (lv_at hl 0 rfl) ?_
  refine lv_iconst (v := 1) hx hb dL_law_321 (by decide) ?_
  refine lv_iadd hx hb dL_law_322 ?_
  refine lw_sldg hx hb hX hv_1 dL_law_323 ?_
  refine th_Vi (A := fun q => B ≤ q) (As := [.int (xs (i + 1).toNatClampNeg)]) (rest := []) E hml hl.1 (z_X11_quit l D cI cS (tq B 0 178) (rq B) hWX H hTX (B + 0) (xs (i + 1).toNatClampNeg) (ttX B)) lk_L_48 yd_X11_quit hTX (ttX B) rfl (by decide) ⟨rfl, fun _ _ => rfl, hlo⟩ (fun q h => (at_in h).1) ⟨Nat.le_of_ble_eq_true rfl, Nat.le_of_ble_eq_true rfl⟩ (Nat.le_of_ble_eq_true rfl) ⟨Nat.le_of_ble_eq_true rfl, Nat.le_of_ble_eq_true rfl⟩ rfl dL_law_324 (fun r_1 H_1 locs_1 p_1 hT_1 hk_1 hS_1 => ?_)
  have hX_1 : va_X b L xs s H_1 := hX.kept (hS_1.2.1 b (Nat.not_le.mpr hbB))
  have kM : ∀ q, B + 178 ≤ q → H_1[q]? = H[q]? := fun q hq => hk_1 q (fun h => by have := (at_in h).2; omega)
  have hTX := hT_1
  have hTM := hTM.same (H1 := H_1) (fun q t h => kM q (by obtain ⟨j, rfl, z1, -, -⟩ := tq_some h; omega))
  have hMa := hM0.kept (H1 := H_1) kM
  have hMb := hMa.mono (N1 := n + 1) (by omega)
  have e5 : fi D 12 5 H_1 (B + 178) = fi D 12 5 H (B + 178) := fi_q (kM _ (by omega))
  have hX9_1 : TX D (rq B) T k H_1 (rq B (B + 0) 0) := hX9.q (hk_1 _ (AT.out (t := 9) ttT (by decide))) (hk_1 _ (AT.out (t := 300) ttR (by decide)))
  have hX12 : RX D (rq B) T k H_1 (B + 178) := hX12.q (fi_q (kM _ (by omega))) (kM _ (by rw [qn_178_4]; omega))
  refine lv_pop hx hb dL_law_327 rfl ?_
  refine lv_aload_n hx hb dL_law_328 rfl (lv_at hl 1 rfl) ?_
  refine lv_aload_n hx hb dL_law_329 rfl (lv_at hl 3 rfl) ?_
  refine lv_iload_n hx hb dL_law_330 rfl (lv_at hl 0 rfl) ?_
  refine lv_iconst (v := 1) hx hb dL_law_331 (by decide) ?_
  refine lv_iadd hx hb dL_law_332 ?_
  refine lw_sldg hx hb hX_1 hv_1 dL_law_333 ?_
  refine th_topi he ?_
  refine th_Vi (A := fun q => B ≤ q) (As := [.int 1]) (rest := []) E hml hl.1 (y_quit_v2 l D cI cS (tq B 178 186) (rq B) hWM H_1 hTM (B + 178) (ttM B) (n + 1) (by omega) hn1 hMb) lk_L_51 yd_X12_quit hTM (ttM B) rfl (by decide) ⟨rfl, fun _ _ => rfl, hS_1.2.2⟩ (fun q h => by have h : q = rq B (B + 178) 2 ∨ q = rq B (B + 178) 0 := h; simp only [qn_178_0, qn_178_2] at h; show B ≤ q; omega) ⟨Nat.le_of_ble_eq_true rfl, Nat.le_of_ble_eq_true rfl⟩ (Nat.le_of_ble_eq_true rfl) ⟨Nat.le_of_ble_eq_true rfl, Nat.le_of_ble_eq_true rfl⟩ rfl dL_law_334 (fun r_2 H_2 locs_2 p_2 hT_2 hk_2 hS_2 => ?_)
  have hX_2 : va_X b L xs s H_2 := hX_1.kept (hS_2.2.1 b (Nat.not_le.mpr hbB))
  have kX : ∀ q, q < B + 178 → H_2[q]? = H_1[q]? := fun q hq => hk_2 q (fun h => by have h : q = rq B (B + 178) 2 ∨ q = rq B (B + 178) 0 := h; simp only [qn_178_0, qn_178_2] at h; omega)
  have hTX := hTX.same (H1 := H_2) (fun q t h => kX q (by obtain ⟨j, rfl, -, z1, -⟩ := tq_some h; omega))
  have hX9_2 : TX D (rq B) _ _ H_2 (rq B (B + 0) 0) := hX9_1.q (kX _ (by rw [qx_1]; omega)) (kX _ (by rw [qx_16]; omega))
  have hMc : IM D (rq B) (n + 1) H_2 (B + 178) := p_2
  have e5b : fi D 12 5 H_2 (B + 178) = fi D 12 5 H_1 (B + 178) := fi_q (hk_2 _ (fun h => by have h : B + 178 = rq B (B + 178) 2 ∨ B + 178 = rq B (B + 178) 0 := h; simp only [qn_178_0, qn_178_2] at h; omega))
  have hX12_2 : RX D (rq B) T k H_2 (B + 178) := hX12.q e5b (hk_2 _ (fun h => by have h : rq B (B + 178) 4 = rq B (B + 178) 2 ∨ rq B (B + 178) 4 = rq B (B + 178) 0 := h; rw [qn_178_0, qn_178_2, qn_178_4] at h; omega))
  have hLV2 : LV D cI cS B (n + 1) H_2 := ⟨hTX, hT_2, hMc, _, _, hX9_2, hX12_2⟩
  refine lv_pop hx hb dL_law_337 rfl ?_
  refine lv_goto (tgt := 766) hx hb dL_law_338 (by decide) ?_
  exact kk H_2 locs_2 hS_2.2.2 hX_2 hLV2
set_option maxHeartbeats 4000000 in
set_option maxRecDepth 100000 in
theorem v_quit_bad (E : EE p s m args c cL_law RL D cI cS) (hml : c.maxLocals = 4) (hl : lv_has ls 4 [(3, .int i), (2, .ref (B + 178)), (1, .ref (B + 0)), (0, .ref b)]) (hWX : WF (tq B 0 178) (rq B)) (hWM : WF (tq B 178 186) (rq B)) (hLV : LV D cI cS B n H) (hn0 : 0 ≤ n) (hn1 : n + 1 ≤ 600) (hi0 : 0 ≤ i.toInt) (hi1 : i.toInt + 4 ≤ L) (hL : L ≤ 2048) (hX : va_X b L xs s H) (hbB : b < B) (hlo : ∀ x ∈ locs, B ≤ x.base) (he : (xs (i + 1).toNatClampNeg).toInt < 0 ∨ 1 < (xs (i + 1).toNatClampNeg).toInt) (kk : KL p l e s m args below meth c ls Q D cI cS n B b L xs) : WL p l e s m args below meth c H locs ls Q 318 := by
  obtain ⟨hTX, hTM, hM0, T, k, hX9, hX12⟩ := hLV
  have hx := E.1
  have hb := E.2.1
  have hv_1 : vp_in (i + 1) L := idx_in (k := 1) (by decide) (by decide) hi0 (by omega) hL
  have hv_2 : vp_in (i + 2) L := idx_in (k := 2) (by decide) (by decide) hi0 (by omega) hL
  have hv_3 : vp_in (i + 3) L := idx_in (k := 3) (by decide) (by decide) hi0 (by omega) hL
  refine lv_aload_n hx hb dL_law_318 rfl (lv_at hl 2 rfl) ?_
  refine lv_aload_n hx hb dL_law_319 rfl (lv_at hl 3 rfl) ?_
  refine lv_iload_n hx hb dL_law_320 rfl (lv_at hl 0 rfl) ?_
  refine lv_iconst (v := 1) hx hb dL_law_321 (by decide) ?_
  refine lv_iadd hx hb dL_law_322 ?_
  refine lw_sldg hx hb hX hv_1 dL_law_323 ?_
  refine th_Vi (A := fun q => B ≤ q) (As := [.int (xs (i + 1).toNatClampNeg)]) (rest := []) E hml hl.1 (z_X11_quit l D cI cS (tq B 0 178) (rq B) hWX H hTX (B + 0) (xs (i + 1).toNatClampNeg) (ttX B)) lk_L_48 yd_X11_quit hTX (ttX B) rfl (by decide) ⟨rfl, fun _ _ => rfl, hlo⟩ (fun q h => (at_in h).1) ⟨Nat.le_of_ble_eq_true rfl, Nat.le_of_ble_eq_true rfl⟩ (Nat.le_of_ble_eq_true rfl) ⟨Nat.le_of_ble_eq_true rfl, Nat.le_of_ble_eq_true rfl⟩ rfl dL_law_324 (fun r_1 H_1 locs_1 p_1 hT_1 hk_1 hS_1 => ?_)
  have hX_1 : va_X b L xs s H_1 := hX.kept (hS_1.2.1 b (Nat.not_le.mpr hbB))
  have kM : ∀ q, B + 178 ≤ q → H_1[q]? = H[q]? := fun q hq => hk_1 q (fun h => by have := (at_in h).2; omega)
  have hTX := hT_1
  have hTM := hTM.same (H1 := H_1) (fun q t h => kM q (by obtain ⟨j, rfl, z1, -, -⟩ := tq_some h; omega))
  have hMa := hM0.kept (H1 := H_1) kM
  have hMb := hMa.mono (N1 := n + 1) (by omega)
  have e5 : fi D 12 5 H_1 (B + 178) = fi D 12 5 H (B + 178) := fi_q (kM _ (by omega))
  have hX9_1 : TX D (rq B) T k H_1 (rq B (B + 0) 0) := hX9.q (hk_1 _ (AT.out (t := 9) ttT (by decide))) (hk_1 _ (AT.out (t := 300) ttR (by decide)))
  have hX12 : RX D (rq B) T k H_1 (B + 178) := hX12.q (fi_q (kM _ (by omega))) (kM _ (by rw [qn_178_4]; omega))
  refine lv_pop hx hb dL_law_327 rfl ?_
  refine lv_aload_n hx hb dL_law_328 rfl (lv_at hl 1 rfl) ?_
  refine lv_aload_n hx hb dL_law_329 rfl (lv_at hl 3 rfl) ?_
  refine lv_iload_n hx hb dL_law_330 rfl (lv_at hl 0 rfl) ?_
  refine lv_iconst (v := 1) hx hb dL_law_331 (by decide) ?_
  refine lv_iadd hx hb dL_law_332 ?_
  refine lw_sldg hx hb hX_1 hv_1 dL_law_333 ?_
  refine th_Vi (A := fun q => B ≤ q) (As := [.int (xs (i + 1).toNatClampNeg)]) (rest := []) E hml hl.1 (y_quit_v3 l D cI cS (tq B 178 186) (rq B) hWM H_1 hTM (B + 178) (xs (i + 1).toNatClampNeg) (ttM B) (n + 1) (by omega) hn1 hMb he) lk_L_51 yd_X12_quit hTM (ttM B) rfl (by decide) ⟨rfl, fun _ _ => rfl, hS_1.2.2⟩ (fun q h => h.elim) ⟨Nat.le_of_ble_eq_true rfl, Nat.le_of_ble_eq_true rfl⟩ (Nat.le_of_ble_eq_true rfl) ⟨Nat.le_of_ble_eq_true rfl, Nat.le_of_ble_eq_true rfl⟩ rfl dL_law_334 (fun r_2 H_2 locs_2 p_2 hT_2 hk_2 hS_2 => ?_)
  have hX_2 : va_X b L xs s H_2 := hX_1.kept (hS_2.2.1 b (Nat.not_le.mpr hbB))
  have kX : ∀ q, q < B + 178 → H_2[q]? = H_1[q]? := fun q hq => hk_2 q (fun h => h.elim)
  have hTX := hTX.same (H1 := H_2) (fun q t h => kX q (by obtain ⟨j, rfl, -, z1, -⟩ := tq_some h; omega))
  have hX9_2 : TX D (rq B) _ _ H_2 (rq B (B + 0) 0) := hX9_1.q (kX _ (by rw [qx_1]; omega)) (kX _ (by rw [qx_16]; omega))
  have hMc : IM D (rq B) (n + 1) H_2 (B + 178) := p_2
  have e5b : fi D 12 5 H_2 (B + 178) = fi D 12 5 H_1 (B + 178) := fi_q (hk_2 _ (fun h => h.elim))
  have hX12_2 : RX D (rq B) T k H_2 (B + 178) := hX12.q e5b (hk_2 _ (fun h => h.elim))
  have hLV2 : LV D cI cS B (n + 1) H_2 := ⟨hTX, hT_2, hMc, _, _, hX9_2, hX12_2⟩
  refine lv_pop hx hb dL_law_337 rfl ?_
  refine lv_goto (tgt := 766) hx hb dL_law_338 (by decide) ?_
  exact kk H_2 locs_2 hS_2.2.2 hX_2 hLV2
theorem v_quit (E : EE p s m args c cL_law RL D cI cS) (hml : c.maxLocals = 4) (hl : lv_has ls 4 [(3, .int i), (2, .ref (B + 178)), (1, .ref (B + 0)), (0, .ref b)]) (hWX : WF (tq B 0 178) (rq B)) (hWM : WF (tq B 178 186) (rq B)) (hLV : LV D cI cS B n H) (hn0 : 0 ≤ n) (hn1 : n + 1 ≤ 600) (hi0 : 0 ≤ i.toInt) (hi1 : i.toInt + 4 ≤ L) (hL : L ≤ 2048) (hX : va_X b L xs s H) (hbB : b < B) (hlo : ∀ x ∈ locs, B ≤ x.base) (kk : KL p l e s m args below meth c ls Q D cI cS n B b L xs) : WL p l e s m args below meth c H locs ls Q 318 := by
  rcases (show (xs (i + 1).toNatClampNeg).toInt = 0 ∨ (xs (i + 1).toNatClampNeg).toInt = 1 ∨ ((xs (i + 1).toNatClampNeg).toInt < 0 ∨ 1 < (xs (i + 1).toNatClampNeg).toInt) by omega) with h | h | h
  · exact v_quit_0 E hml hl hWX hWM hLV hn0 hn1 hi0 hi1 hL hX hbB hlo (i_eqc h (by decide)) kk
  · exact v_quit_1 E hml hl hWX hWM hLV hn0 hn1 hi0 hi1 hL hX hbB hlo (i_eqc h (by decide)) kk
  · exact v_quit_bad E hml hl hWX hWM hLV hn0 hn1 hi0 hi1 hL hX hbB hlo h kk
set_option maxHeartbeats 4000000 in
set_option maxRecDepth 100000 in
theorem v_take_0 (E : EE p s m args c cL_law RL D cI cS) (hml : c.maxLocals = 4) (hl : lv_has ls 4 [(3, .int i), (2, .ref (B + 178)), (1, .ref (B + 0)), (0, .ref b)]) (hWX : WF (tq B 0 178) (rq B)) (hWM : WF (tq B 178 186) (rq B)) (hLV : LV D cI cS B n H) (hn0 : 0 ≤ n) (hn1 : n + 1 ≤ 600) (hi0 : 0 ≤ i.toInt) (hi1 : i.toInt + 4 ≤ L) (hL : L ≤ 2048) (hX : va_X b L xs s H) (hbB : b < B) (hlo : ∀ x ∈ locs, B ≤ x.base) (he : (xs (i + 1).toNatClampNeg) = 0) (kk : KL p l e s m args below meth c ls Q D cI cS n B b L xs) : WL p l e s m args below meth c H locs ls Q 341 := by
  obtain ⟨hTX, hTM, hM0, T, k, hX9, hX12⟩ := hLV
  have hx := E.1
  have hb := E.2.1
  have hv_1 : vp_in (i + 1) L := idx_in (k := 1) (by decide) (by decide) hi0 (by omega) hL
  have hv_2 : vp_in (i + 2) L := idx_in (k := 2) (by decide) (by decide) hi0 (by omega) hL
  have hv_3 : vp_in (i + 3) L := idx_in (k := 3) (by decide) (by decide) hi0 (by omega) hL
  refine lv_aload_n hx hb dL_law_341 rfl (lv_at hl 2 rfl) ?_
  refine lv_aload_n hx hb dL_law_342 rfl (lv_at hl 3 rfl) ?_
  refine lv_iload_n hx hb dL_law_343 rfl (lv_at hl 0 rfl) ?_
  refine lv_iconst (v := 1) hx hb dL_law_344 (by decide) ?_
  refine lv_iadd hx hb dL_law_345 ?_
  refine lw_sldg hx hb hX hv_1 dL_law_346 ?_
  refine th_Vi (A := fun q => B ≤ q) (As := [.int (xs (i + 1).toNatClampNeg)]) (rest := []) E hml hl.1 (z_X11_take l D cI cS (tq B 0 178) (rq B) hWX H hTX (B + 0) (xs (i + 1).toNatClampNeg) (ttX B)) lk_L_52 yd_X11_take hTX (ttX B) rfl (by decide) ⟨rfl, fun _ _ => rfl, hlo⟩ (fun q h => (at_in h).1) ⟨Nat.le_of_ble_eq_true rfl, Nat.le_of_ble_eq_true rfl⟩ (Nat.le_of_ble_eq_true rfl) ⟨Nat.le_of_ble_eq_true rfl, Nat.le_of_ble_eq_true rfl⟩ rfl dL_law_347 (fun r_1 H_1 locs_1 p_1 hT_1 hk_1 hS_1 => ?_)
  have hX_1 : va_X b L xs s H_1 := hX.kept (hS_1.2.1 b (Nat.not_le.mpr hbB))
  have kM : ∀ q, B + 178 ≤ q → H_1[q]? = H[q]? := fun q hq => hk_1 q (fun h => by have := (at_in h).2; omega)
  have hTX := hT_1
  have hTM := hTM.same (H1 := H_1) (fun q t h => kM q (by obtain ⟨j, rfl, z1, -, -⟩ := tq_some h; omega))
  have hMa := hM0.kept (H1 := H_1) kM
  have hMb := hMa.mono (N1 := n + 1) (by omega)
  have e5 : fi D 12 5 H_1 (B + 178) = fi D 12 5 H (B + 178) := fi_q (kM _ (by omega))
  have hX9_1 : TX D (rq B) T k H_1 (rq B (B + 0) 0) := hX9.q (hk_1 _ (AT.out (t := 9) ttT (by decide))) (hk_1 _ (AT.out (t := 300) ttR (by decide)))
  have hX12 : RX D (rq B) T k H_1 (B + 178) := hX12.q (fi_q (kM _ (by omega))) (kM _ (by rw [qn_178_4]; omega))
  refine lv_pop hx hb dL_law_350 rfl ?_
  refine lv_aload_n hx hb dL_law_351 rfl (lv_at hl 1 rfl) ?_
  refine lv_aload_n hx hb dL_law_352 rfl (lv_at hl 3 rfl) ?_
  refine lv_iload_n hx hb dL_law_353 rfl (lv_at hl 0 rfl) ?_
  refine lv_iconst (v := 1) hx hb dL_law_354 (by decide) ?_
  refine lv_iadd hx hb dL_law_355 ?_
  refine lw_sldg hx hb hX_1 hv_1 dL_law_356 ?_
  refine th_topi he ?_
  refine th_Vi (A := fun q => B ≤ q) (As := [.int 0]) (rest := []) E hml hl.1 (y_take l D cI cS (tq B 178 186) (rq B) hWM H_1 hTM (B + 178) (ttM B) (n + 1) (by omega) hn1 hMb (by have h : (ai H_1 (rq B (B + 178) 0) 6).toInt ≤ n + 1 := (hMa.1 6 (by decide)).2; omega)) lk_L_55 yd_X12_take hTM (ttM B) rfl (by decide) ⟨rfl, fun _ _ => rfl, hS_1.2.2⟩ (fun q h => by have h : q = rq B (B + 178) 0 ∨ q = rq B (B + 178) 2 := h; simp only [qn_178_0, qn_178_2] at h; show B ≤ q; omega) ⟨Nat.le_of_ble_eq_true rfl, Nat.le_of_ble_eq_true rfl⟩ (Nat.le_of_ble_eq_true rfl) ⟨Nat.le_of_ble_eq_true rfl, Nat.le_of_ble_eq_true rfl⟩ rfl dL_law_357 (fun r_2 H_2 locs_2 p_2 hT_2 hk_2 hS_2 => ?_)
  have hX_2 : va_X b L xs s H_2 := hX_1.kept (hS_2.2.1 b (Nat.not_le.mpr hbB))
  have kX : ∀ q, q < B + 178 → H_2[q]? = H_1[q]? := fun q hq => hk_2 q (fun h => by have h : q = rq B (B + 178) 0 ∨ q = rq B (B + 178) 2 := h; simp only [qn_178_0, qn_178_2] at h; omega)
  have hTX := hTX.same (H1 := H_2) (fun q t h => kX q (by obtain ⟨j, rfl, -, z1, -⟩ := tq_some h; omega))
  have hX9_2 : TX D (rq B) _ _ H_2 (rq B (B + 0) 0) := hX9_1.q (kX _ (by rw [qx_1]; omega)) (kX _ (by rw [qx_16]; omega))
  have hMc : IM D (rq B) (n + 1) H_2 (B + 178) := p_2
  have e5b : fi D 12 5 H_2 (B + 178) = fi D 12 5 H_1 (B + 178) := fi_q (hk_2 _ (fun h => by have h : B + 178 = rq B (B + 178) 0 ∨ B + 178 = rq B (B + 178) 2 := h; simp only [qn_178_0, qn_178_2] at h; omega))
  have hX12_2 : RX D (rq B) T k H_2 (B + 178) := hX12.q e5b (hk_2 _ (fun h => by have h : rq B (B + 178) 4 = rq B (B + 178) 0 ∨ rq B (B + 178) 4 = rq B (B + 178) 2 := h; rw [qn_178_0, qn_178_2, qn_178_4] at h; omega))
  have hLV2 : LV D cI cS B (n + 1) H_2 := ⟨hTX, hT_2, hMc, _, _, hX9_2, hX12_2⟩
  refine lv_pop hx hb dL_law_360 rfl ?_
  refine lv_goto (tgt := 766) hx hb dL_law_361 (by decide) ?_
  exact kk H_2 locs_2 hS_2.2.2 hX_2 hLV2
set_option maxHeartbeats 4000000 in
set_option maxRecDepth 100000 in
theorem v_take_1 (E : EE p s m args c cL_law RL D cI cS) (hml : c.maxLocals = 4) (hl : lv_has ls 4 [(3, .int i), (2, .ref (B + 178)), (1, .ref (B + 0)), (0, .ref b)]) (hWX : WF (tq B 0 178) (rq B)) (hWM : WF (tq B 178 186) (rq B)) (hLV : LV D cI cS B n H) (hn0 : 0 ≤ n) (hn1 : n + 1 ≤ 600) (hi0 : 0 ≤ i.toInt) (hi1 : i.toInt + 4 ≤ L) (hL : L ≤ 2048) (hX : va_X b L xs s H) (hbB : b < B) (hlo : ∀ x ∈ locs, B ≤ x.base) (he : (xs (i + 1).toNatClampNeg) = 1) (kk : KL p l e s m args below meth c ls Q D cI cS n B b L xs) : WL p l e s m args below meth c H locs ls Q 341 := by
  obtain ⟨hTX, hTM, hM0, T, k, hX9, hX12⟩ := hLV
  have hx := E.1
  have hb := E.2.1
  have hv_1 : vp_in (i + 1) L := idx_in (k := 1) (by decide) (by decide) hi0 (by omega) hL
  have hv_2 : vp_in (i + 2) L := idx_in (k := 2) (by decide) (by decide) hi0 (by omega) hL
  have hv_3 : vp_in (i + 3) L := idx_in (k := 3) (by decide) (by decide) hi0 (by omega) hL
  refine lv_aload_n hx hb dL_law_341 rfl (lv_at hl 2 rfl) ?_
  refine lv_aload_n hx hb dL_law_342 rfl (lv_at hl 3 rfl) ?_
  refine lv_iload_n hx hb dL_law_343 rfl (lv_at hl 0 rfl) ?_
  refine lv_iconst (v := 1) hx hb dL_law_344 (by decide) ?_
  refine lv_iadd hx hb dL_law_345 ?_
  refine lw_sldg hx hb hX hv_1 dL_law_346 ?_
  refine th_Vi (A := fun q => B ≤ q) (As := [.int (xs (i + 1).toNatClampNeg)]) (rest := []) E hml hl.1 (z_X11_take l D cI cS (tq B 0 178) (rq B) hWX H hTX (B + 0) (xs (i + 1).toNatClampNeg) (ttX B)) lk_L_52 yd_X11_take hTX (ttX B) rfl (by decide) ⟨rfl, fun _ _ => rfl, hlo⟩ (fun q h => (at_in h).1) ⟨Nat.le_of_ble_eq_true rfl, Nat.le_of_ble_eq_true rfl⟩ (Nat.le_of_ble_eq_true rfl) ⟨Nat.le_of_ble_eq_true rfl, Nat.le_of_ble_eq_true rfl⟩ rfl dL_law_347 (fun r_1 H_1 locs_1 p_1 hT_1 hk_1 hS_1 => ?_)
  have hX_1 : va_X b L xs s H_1 := hX.kept (hS_1.2.1 b (Nat.not_le.mpr hbB))
  have kM : ∀ q, B + 178 ≤ q → H_1[q]? = H[q]? := fun q hq => hk_1 q (fun h => by have := (at_in h).2; omega)
  have hTX := hT_1
  have hTM := hTM.same (H1 := H_1) (fun q t h => kM q (by obtain ⟨j, rfl, z1, -, -⟩ := tq_some h; omega))
  have hMa := hM0.kept (H1 := H_1) kM
  have hMb := hMa.mono (N1 := n + 1) (by omega)
  have e5 : fi D 12 5 H_1 (B + 178) = fi D 12 5 H (B + 178) := fi_q (kM _ (by omega))
  have hX9_1 : TX D (rq B) T k H_1 (rq B (B + 0) 0) := hX9.q (hk_1 _ (AT.out (t := 9) ttT (by decide))) (hk_1 _ (AT.out (t := 300) ttR (by decide)))
  have hX12 : RX D (rq B) T k H_1 (B + 178) := hX12.q (fi_q (kM _ (by omega))) (kM _ (by rw [qn_178_4]; omega))
  refine lv_pop hx hb dL_law_350 rfl ?_
  refine lv_aload_n hx hb dL_law_351 rfl (lv_at hl 1 rfl) ?_
  refine lv_aload_n hx hb dL_law_352 rfl (lv_at hl 3 rfl) ?_
  refine lv_iload_n hx hb dL_law_353 rfl (lv_at hl 0 rfl) ?_
  refine lv_iconst (v := 1) hx hb dL_law_354 (by decide) ?_
  refine lv_iadd hx hb dL_law_355 ?_
  refine lw_sldg hx hb hX_1 hv_1 dL_law_356 ?_
  refine th_topi he ?_
  refine th_Vi (A := fun q => B ≤ q) (As := [.int 1]) (rest := []) E hml hl.1 (y_take_v2 l D cI cS (tq B 178 186) (rq B) hWM H_1 hTM (B + 178) (ttM B) (n + 1) (by omega) hn1 hMb (by have h : (ai H_1 (rq B (B + 178) 0) 294).toInt ≤ n + 1 := (hMa.1 294 (by decide)).2; omega)) lk_L_55 yd_X12_take hTM (ttM B) rfl (by decide) ⟨rfl, fun _ _ => rfl, hS_1.2.2⟩ (fun q h => by have h : q = rq B (B + 178) 0 ∨ q = rq B (B + 178) 2 := h; simp only [qn_178_0, qn_178_2] at h; show B ≤ q; omega) ⟨Nat.le_of_ble_eq_true rfl, Nat.le_of_ble_eq_true rfl⟩ (Nat.le_of_ble_eq_true rfl) ⟨Nat.le_of_ble_eq_true rfl, Nat.le_of_ble_eq_true rfl⟩ rfl dL_law_357 (fun r_2 H_2 locs_2 p_2 hT_2 hk_2 hS_2 => ?_)
  have hX_2 : va_X b L xs s H_2 := hX_1.kept (hS_2.2.1 b (Nat.not_le.mpr hbB))
  have kX : ∀ q, q < B + 178 → H_2[q]? = H_1[q]? := fun q hq => hk_2 q (fun h => by have h : q = rq B (B + 178) 0 ∨ q = rq B (B + 178) 2 := h; simp only [qn_178_0, qn_178_2] at h; omega)
  have hTX := hTX.same (H1 := H_2) (fun q t h => kX q (by obtain ⟨j, rfl, -, z1, -⟩ := tq_some h; omega))
  have hX9_2 : TX D (rq B) _ _ H_2 (rq B (B + 0) 0) := hX9_1.q (kX _ (by rw [qx_1]; omega)) (kX _ (by rw [qx_16]; omega))
  have hMc : IM D (rq B) (n + 1) H_2 (B + 178) := p_2
  have e5b : fi D 12 5 H_2 (B + 178) = fi D 12 5 H_1 (B + 178) := fi_q (hk_2 _ (fun h => by have h : B + 178 = rq B (B + 178) 0 ∨ B + 178 = rq B (B + 178) 2 := h; simp only [qn_178_0, qn_178_2] at h; omega))
  have hX12_2 : RX D (rq B) T k H_2 (B + 178) := hX12.q e5b (hk_2 _ (fun h => by have h : rq B (B + 178) 4 = rq B (B + 178) 0 ∨ rq B (B + 178) 4 = rq B (B + 178) 2 := h; rw [qn_178_0, qn_178_2, qn_178_4] at h; omega))
  have hLV2 : LV D cI cS B (n + 1) H_2 := ⟨hTX, hT_2, hMc, _, _, hX9_2, hX12_2⟩
  refine lv_pop hx hb dL_law_360 rfl ?_
  refine lv_goto (tgt := 766) hx hb dL_law_361 (by decide) ?_
  exact kk H_2 locs_2 hS_2.2.2 hX_2 hLV2
set_option maxHeartbeats 4000000 in
set_option maxRecDepth 100000 in
theorem v_take_bad (E : EE p s m args c cL_law RL D cI cS) (hml : c.maxLocals = 4) (hl : lv_has ls 4 [(3, .int i), (2, .ref (B + 178)), (1, .ref (B + 0)), (0, .ref b)]) (hWX : WF (tq B 0 178) (rq B)) (hWM : WF (tq B 178 186) (rq B)) (hLV : LV D cI cS B n H) (hn0 : 0 ≤ n) (hn1 : n + 1 ≤ 600) (hi0 : 0 ≤ i.toInt) (hi1 : i.toInt + 4 ≤ L) (hL : L ≤ 2048) (hX : va_X b L xs s H) (hbB : b < B) (hlo : ∀ x ∈ locs, B ≤ x.base) (he : (xs (i + 1).toNatClampNeg).toInt < 0 ∨ 1 < (xs (i + 1).toNatClampNeg).toInt) (kk : KL p l e s m args below meth c ls Q D cI cS n B b L xs) : WL p l e s m args below meth c H locs ls Q 341 := by
  obtain ⟨hTX, hTM, hM0, T, k, hX9, hX12⟩ := hLV
  have hx := E.1
  have hb := E.2.1
  have hv_1 : vp_in (i + 1) L := idx_in (k := 1) (by decide) (by decide) hi0 (by omega) hL
  have hv_2 : vp_in (i + 2) L := idx_in (k := 2) (by decide) (by decide) hi0 (by omega) hL
  have hv_3 : vp_in (i + 3) L := idx_in (k := 3) (by decide) (by decide) hi0 (by omega) hL
  refine lv_aload_n hx hb dL_law_341 rfl (lv_at hl 2 rfl) ?_
  refine lv_aload_n hx hb dL_law_342 rfl (lv_at hl 3 rfl) ?_
  refine lv_iload_n hx hb dL_law_343 rfl (lv_at hl 0 rfl) ?_
  refine lv_iconst (v := 1) hx hb dL_law_344 (by decide) ?_
  refine lv_iadd hx hb dL_law_345 ?_
  refine lw_sldg hx hb hX hv_1 dL_law_346 ?_
  refine th_Vi (A := fun q => B ≤ q) (As := [.int (xs (i + 1).toNatClampNeg)]) (rest := []) E hml hl.1 (z_X11_take l D cI cS (tq B 0 178) (rq B) hWX H hTX (B + 0) (xs (i + 1).toNatClampNeg) (ttX B)) lk_L_52 yd_X11_take hTX (ttX B) rfl (by decide) ⟨rfl, fun _ _ => rfl, hlo⟩ (fun q h => (at_in h).1) ⟨Nat.le_of_ble_eq_true rfl, Nat.le_of_ble_eq_true rfl⟩ (Nat.le_of_ble_eq_true rfl) ⟨Nat.le_of_ble_eq_true rfl, Nat.le_of_ble_eq_true rfl⟩ rfl dL_law_347 (fun r_1 H_1 locs_1 p_1 hT_1 hk_1 hS_1 => ?_)
  have hX_1 : va_X b L xs s H_1 := hX.kept (hS_1.2.1 b (Nat.not_le.mpr hbB))
  have kM : ∀ q, B + 178 ≤ q → H_1[q]? = H[q]? := fun q hq => hk_1 q (fun h => by have := (at_in h).2; omega)
  have hTX := hT_1
  have hTM := hTM.same (H1 := H_1) (fun q t h => kM q (by obtain ⟨j, rfl, z1, -, -⟩ := tq_some h; omega))
  have hMa := hM0.kept (H1 := H_1) kM
  have hMb := hMa.mono (N1 := n + 1) (by omega)
  have e5 : fi D 12 5 H_1 (B + 178) = fi D 12 5 H (B + 178) := fi_q (kM _ (by omega))
  have hX9_1 : TX D (rq B) T k H_1 (rq B (B + 0) 0) := hX9.q (hk_1 _ (AT.out (t := 9) ttT (by decide))) (hk_1 _ (AT.out (t := 300) ttR (by decide)))
  have hX12 : RX D (rq B) T k H_1 (B + 178) := hX12.q (fi_q (kM _ (by omega))) (kM _ (by rw [qn_178_4]; omega))
  refine lv_pop hx hb dL_law_350 rfl ?_
  refine lv_aload_n hx hb dL_law_351 rfl (lv_at hl 1 rfl) ?_
  refine lv_aload_n hx hb dL_law_352 rfl (lv_at hl 3 rfl) ?_
  refine lv_iload_n hx hb dL_law_353 rfl (lv_at hl 0 rfl) ?_
  refine lv_iconst (v := 1) hx hb dL_law_354 (by decide) ?_
  refine lv_iadd hx hb dL_law_355 ?_
  refine lw_sldg hx hb hX_1 hv_1 dL_law_356 ?_
  refine th_Vi (A := fun q => B ≤ q) (As := [.int (xs (i + 1).toNatClampNeg)]) (rest := []) E hml hl.1 (y_take_v3 l D cI cS (tq B 178 186) (rq B) hWM H_1 hTM (B + 178) (xs (i + 1).toNatClampNeg) (ttM B) (n + 1) (by omega) hn1 hMb he) lk_L_55 yd_X12_take hTM (ttM B) rfl (by decide) ⟨rfl, fun _ _ => rfl, hS_1.2.2⟩ (fun q h => h.elim) ⟨Nat.le_of_ble_eq_true rfl, Nat.le_of_ble_eq_true rfl⟩ (Nat.le_of_ble_eq_true rfl) ⟨Nat.le_of_ble_eq_true rfl, Nat.le_of_ble_eq_true rfl⟩ rfl dL_law_357 (fun r_2 H_2 locs_2 p_2 hT_2 hk_2 hS_2 => ?_)
  have hX_2 : va_X b L xs s H_2 := hX_1.kept (hS_2.2.1 b (Nat.not_le.mpr hbB))
  have kX : ∀ q, q < B + 178 → H_2[q]? = H_1[q]? := fun q hq => hk_2 q (fun h => h.elim)
  have hTX := hTX.same (H1 := H_2) (fun q t h => kX q (by obtain ⟨j, rfl, -, z1, -⟩ := tq_some h; omega))
  have hX9_2 : TX D (rq B) _ _ H_2 (rq B (B + 0) 0) := hX9_1.q (kX _ (by rw [qx_1]; omega)) (kX _ (by rw [qx_16]; omega))
  have hMc : IM D (rq B) (n + 1) H_2 (B + 178) := p_2
  have e5b : fi D 12 5 H_2 (B + 178) = fi D 12 5 H_1 (B + 178) := fi_q (hk_2 _ (fun h => h.elim))
  have hX12_2 : RX D (rq B) T k H_2 (B + 178) := hX12.q e5b (hk_2 _ (fun h => h.elim))
  have hLV2 : LV D cI cS B (n + 1) H_2 := ⟨hTX, hT_2, hMc, _, _, hX9_2, hX12_2⟩
  refine lv_pop hx hb dL_law_360 rfl ?_
  refine lv_goto (tgt := 766) hx hb dL_law_361 (by decide) ?_
  exact kk H_2 locs_2 hS_2.2.2 hX_2 hLV2
theorem v_take (E : EE p s m args c cL_law RL D cI cS) (hml : c.maxLocals = 4) (hl : lv_has ls 4 [(3, .int i), (2, .ref (B + 178)), (1, .ref (B + 0)), (0, .ref b)]) (hWX : WF (tq B 0 178) (rq B)) (hWM : WF (tq B 178 186) (rq B)) (hLV : LV D cI cS B n H) (hn0 : 0 ≤ n) (hn1 : n + 1 ≤ 600) (hi0 : 0 ≤ i.toInt) (hi1 : i.toInt + 4 ≤ L) (hL : L ≤ 2048) (hX : va_X b L xs s H) (hbB : b < B) (hlo : ∀ x ∈ locs, B ≤ x.base) (kk : KL p l e s m args below meth c ls Q D cI cS n B b L xs) : WL p l e s m args below meth c H locs ls Q 341 := by
  rcases (show (xs (i + 1).toNatClampNeg).toInt = 0 ∨ (xs (i + 1).toNatClampNeg).toInt = 1 ∨ ((xs (i + 1).toNatClampNeg).toInt < 0 ∨ 1 < (xs (i + 1).toNatClampNeg).toInt) by omega) with h | h | h
  · exact v_take_0 E hml hl hWX hWM hLV hn0 hn1 hi0 hi1 hL hX hbB hlo (i_eqc h (by decide)) kk
  · exact v_take_1 E hml hl hWX hWM hLV hn0 hn1 hi0 hi1 hL hX hbB hlo (i_eqc h (by decide)) kk
  · exact v_take_bad E hml hl hWX hWM hLV hn0 hn1 hi0 hi1 hL hX hbB hlo h kk
set_option maxHeartbeats 4000000 in
set_option maxRecDepth 100000 in
theorem v_arrive (E : EE p s m args c cL_law RL D cI cS) (hml : c.maxLocals = 4) (hl : lv_has ls 4 [(3, .int i), (2, .ref (B + 178)), (1, .ref (B + 0)), (0, .ref b)]) (hWX : WF (tq B 0 178) (rq B)) (hWM : WF (tq B 178 186) (rq B)) (hLV : LV D cI cS B n H) (hn0 : 0 ≤ n) (hn1 : n + 1 ≤ 600) (hi0 : 0 ≤ i.toInt) (hi1 : i.toInt + 4 ≤ L) (hL : L ≤ 2048) (hX : va_X b L xs s H) (hbB : b < B) (hlo : ∀ x ∈ locs, B ≤ x.base) (kk : KL p l e s m args below meth c ls Q D cI cS n B b L xs) : WL p l e s m args below meth c H locs ls Q 364 := by
  obtain ⟨hTX, hTM, hM0, T, k, hX9, hX12⟩ := hLV
  have hx := E.1
  have hb := E.2.1
  have hv_1 : vp_in (i + 1) L := idx_in (k := 1) (by decide) (by decide) hi0 (by omega) hL
  have hv_2 : vp_in (i + 2) L := idx_in (k := 2) (by decide) (by decide) hi0 (by omega) hL
  have hv_3 : vp_in (i + 3) L := idx_in (k := 3) (by decide) (by decide) hi0 (by omega) hL
  refine lv_aload_n hx hb dL_law_364 rfl (lv_at hl 2 rfl) ?_
  refine lv_aload_n hx hb dL_law_365 rfl (lv_at hl 3 rfl) ?_
  refine lv_iload_n hx hb dL_law_366 rfl (lv_at hl 0 rfl) ?_
  refine lv_iconst (v := 1) hx hb dL_law_367 (by decide) ?_
  refine lv_iadd hx hb dL_law_368 ?_
  refine lw_sldg hx hb hX hv_1 dL_law_369 ?_
  refine th_Vi (A := fun q => B ≤ q) (As := [.int (xs (i + 1).toNatClampNeg)]) (rest := []) E hml hl.1 (z_X11_arrive l D cI cS (tq B 0 178) (rq B) hWX H hTX (B + 0) (xs (i + 1).toNatClampNeg) (ttX B)) lk_L_56 yd_X11_arrive hTX (ttX B) rfl (by decide) ⟨rfl, fun _ _ => rfl, hlo⟩ (fun q h => (at_in h).1) ⟨Nat.le_of_ble_eq_true rfl, Nat.le_of_ble_eq_true rfl⟩ (Nat.le_of_ble_eq_true rfl) ⟨Nat.le_of_ble_eq_true rfl, Nat.le_of_ble_eq_true rfl⟩ rfl dL_law_370 (fun r_1 H_1 locs_1 p_1 hT_1 hk_1 hS_1 => ?_)
  have hX_1 : va_X b L xs s H_1 := hX.kept (hS_1.2.1 b (Nat.not_le.mpr hbB))
  have kM : ∀ q, B + 178 ≤ q → H_1[q]? = H[q]? := fun q hq => hk_1 q (fun h => by have := (at_in h).2; omega)
  have hTX := hT_1
  have hTM := hTM.same (H1 := H_1) (fun q t h => kM q (by obtain ⟨j, rfl, z1, -, -⟩ := tq_some h; omega))
  have hMa := hM0.kept (H1 := H_1) kM
  have hMb := hMa.mono (N1 := n + 1) (by omega)
  have e5 : fi D 12 5 H_1 (B + 178) = fi D 12 5 H (B + 178) := fi_q (kM _ (by omega))
  have hX9_1 : TX D (rq B) T k H_1 (rq B (B + 0) 0) := hX9.q (hk_1 _ (AT.out (t := 9) ttT (by decide))) (hk_1 _ (AT.out (t := 300) ttR (by decide)))
  have hX12 : RX D (rq B) T k H_1 (B + 178) := hX12.q (fi_q (kM _ (by omega))) (kM _ (by rw [qn_178_4]; omega))
  refine lv_pop hx hb dL_law_373 rfl ?_
  refine lv_aload_n hx hb dL_law_374 rfl (lv_at hl 1 rfl) ?_
  refine lv_aload_n hx hb dL_law_375 rfl (lv_at hl 3 rfl) ?_
  refine lv_iload_n hx hb dL_law_376 rfl (lv_at hl 0 rfl) ?_
  refine lv_iconst (v := 1) hx hb dL_law_377 (by decide) ?_
  refine lv_iadd hx hb dL_law_378 ?_
  refine lw_sldg hx hb hX_1 hv_1 dL_law_379 ?_
  refine th_Vi (A := fun q => B ≤ q) (As := [.int (xs (i + 1).toNatClampNeg)]) (rest := []) E hml hl.1 (y_arrive l D cI cS (tq B 178 186) (rq B) hWM H_1 hTM (B + 178) (xs (i + 1).toNatClampNeg) (ttM B) (n + 1) (by omega) hn1 hMb) lk_L_59 yd_X12_arrive hTM (ttM B) rfl (by decide) ⟨rfl, fun _ _ => rfl, hS_1.2.2⟩ (fun q h => by have h : q = rq B (B + 178) 3 ∨ q = rq B (B + 178) 0 ∨ q = rq B (B + 178) 2 := h; simp only [qn_178_0, qn_178_2, qn_178_3] at h; show B ≤ q; omega) ⟨Nat.le_of_ble_eq_true rfl, Nat.le_of_ble_eq_true rfl⟩ (Nat.le_of_ble_eq_true rfl) ⟨Nat.le_of_ble_eq_true rfl, Nat.le_of_ble_eq_true rfl⟩ rfl dL_law_380 (fun r_2 H_2 locs_2 p_2 hT_2 hk_2 hS_2 => ?_)
  have hX_2 : va_X b L xs s H_2 := hX_1.kept (hS_2.2.1 b (Nat.not_le.mpr hbB))
  have kX : ∀ q, q < B + 178 → H_2[q]? = H_1[q]? := fun q hq => hk_2 q (fun h => by have h : q = rq B (B + 178) 3 ∨ q = rq B (B + 178) 0 ∨ q = rq B (B + 178) 2 := h; simp only [qn_178_0, qn_178_2, qn_178_3] at h; omega)
  have hTX := hTX.same (H1 := H_2) (fun q t h => kX q (by obtain ⟨j, rfl, -, z1, -⟩ := tq_some h; omega))
  have hX9_2 : TX D (rq B) _ _ H_2 (rq B (B + 0) 0) := hX9_1.q (kX _ (by rw [qx_1]; omega)) (kX _ (by rw [qx_16]; omega))
  have hMc : IM D (rq B) (n + 1) H_2 (B + 178) := p_2
  have e5b : fi D 12 5 H_2 (B + 178) = fi D 12 5 H_1 (B + 178) := fi_q (hk_2 _ (fun h => by have h : B + 178 = rq B (B + 178) 3 ∨ B + 178 = rq B (B + 178) 0 ∨ B + 178 = rq B (B + 178) 2 := h; simp only [qn_178_0, qn_178_2, qn_178_3] at h; omega))
  have hX12_2 : RX D (rq B) T k H_2 (B + 178) := hX12.q e5b (hk_2 _ (fun h => by have h : rq B (B + 178) 4 = rq B (B + 178) 3 ∨ rq B (B + 178) 4 = rq B (B + 178) 0 ∨ rq B (B + 178) 4 = rq B (B + 178) 2 := h; rw [qn_178_0, qn_178_2, qn_178_3, qn_178_4] at h; omega))
  have hLV2 : LV D cI cS B (n + 1) H_2 := ⟨hTX, hT_2, hMc, _, _, hX9_2, hX12_2⟩
  refine lv_pop hx hb dL_law_383 rfl ?_
  refine lv_goto (tgt := 766) hx hb dL_law_384 (by decide) ?_
  exact kk H_2 locs_2 hS_2.2.2 hX_2 hLV2
set_option maxHeartbeats 4000000 in
set_option maxRecDepth 100000 in
theorem v_lose (E : EE p s m args c cL_law RL D cI cS) (hml : c.maxLocals = 4) (hl : lv_has ls 4 [(3, .int i), (2, .ref (B + 178)), (1, .ref (B + 0)), (0, .ref b)]) (hWX : WF (tq B 0 178) (rq B)) (hWM : WF (tq B 178 186) (rq B)) (hLV : LV D cI cS B n H) (hn0 : 0 ≤ n) (hn1 : n + 1 ≤ 600) (hi0 : 0 ≤ i.toInt) (hi1 : i.toInt + 4 ≤ L) (hL : L ≤ 2048) (hX : va_X b L xs s H) (hbB : b < B) (hlo : ∀ x ∈ locs, B ≤ x.base) (kk : KL p l e s m args below meth c ls Q D cI cS n B b L xs) : WL p l e s m args below meth c H locs ls Q 387 := by
  obtain ⟨hTX, hTM, hM0, T, k, hX9, hX12⟩ := hLV
  have hx := E.1
  have hb := E.2.1
  have hv_1 : vp_in (i + 1) L := idx_in (k := 1) (by decide) (by decide) hi0 (by omega) hL
  have hv_2 : vp_in (i + 2) L := idx_in (k := 2) (by decide) (by decide) hi0 (by omega) hL
  have hv_3 : vp_in (i + 3) L := idx_in (k := 3) (by decide) (by decide) hi0 (by omega) hL
  refine lv_aload_n hx hb dL_law_387 rfl (lv_at hl 2 rfl) ?_
  refine lv_aload_n hx hb dL_law_388 rfl (lv_at hl 3 rfl) ?_
  refine lv_iload_n hx hb dL_law_389 rfl (lv_at hl 0 rfl) ?_
  refine lv_iconst (v := 1) hx hb dL_law_390 (by decide) ?_
  refine lv_iadd hx hb dL_law_391 ?_
  refine lw_sldg hx hb hX hv_1 dL_law_392 ?_
  refine th_Vi (A := fun q => B ≤ q) (As := [.int (xs (i + 1).toNatClampNeg)]) (rest := []) E hml hl.1 (z_X11_lose l D cI cS (tq B 0 178) (rq B) hWX H hTX (B + 0) (xs (i + 1).toNatClampNeg) (ttX B)) lk_L_60 yd_X11_lose hTX (ttX B) rfl (by decide) ⟨rfl, fun _ _ => rfl, hlo⟩ (fun q h => (at_in h).1) ⟨Nat.le_of_ble_eq_true rfl, Nat.le_of_ble_eq_true rfl⟩ (Nat.le_of_ble_eq_true rfl) ⟨Nat.le_of_ble_eq_true rfl, Nat.le_of_ble_eq_true rfl⟩ rfl dL_law_393 (fun r_1 H_1 locs_1 p_1 hT_1 hk_1 hS_1 => ?_)
  have hX_1 : va_X b L xs s H_1 := hX.kept (hS_1.2.1 b (Nat.not_le.mpr hbB))
  have kM : ∀ q, B + 178 ≤ q → H_1[q]? = H[q]? := fun q hq => hk_1 q (fun h => by have := (at_in h).2; omega)
  have hTX := hT_1
  have hTM := hTM.same (H1 := H_1) (fun q t h => kM q (by obtain ⟨j, rfl, z1, -, -⟩ := tq_some h; omega))
  have hMa := hM0.kept (H1 := H_1) kM
  have hMb := hMa.mono (N1 := n + 1) (by omega)
  have e5 : fi D 12 5 H_1 (B + 178) = fi D 12 5 H (B + 178) := fi_q (kM _ (by omega))
  have hX9_1 : TX D (rq B) T k H_1 (rq B (B + 0) 0) := hX9.q (hk_1 _ (AT.out (t := 9) ttT (by decide))) (hk_1 _ (AT.out (t := 300) ttR (by decide)))
  have hX12 : RX D (rq B) T k H_1 (B + 178) := hX12.q (fi_q (kM _ (by omega))) (kM _ (by rw [qn_178_4]; omega))
  refine lv_pop hx hb dL_law_396 rfl ?_
  refine lv_aload_n hx hb dL_law_397 rfl (lv_at hl 1 rfl) ?_
  refine lv_aload_n hx hb dL_law_398 rfl (lv_at hl 3 rfl) ?_
  refine lv_iload_n hx hb dL_law_399 rfl (lv_at hl 0 rfl) ?_
  refine lv_iconst (v := 1) hx hb dL_law_400 (by decide) ?_
  refine lv_iadd hx hb dL_law_401 ?_
  refine lw_sldg hx hb hX_1 hv_1 dL_law_402 ?_
  refine th_Vi (A := fun q => B ≤ q) (As := [.int (xs (i + 1).toNatClampNeg)]) (rest := []) E hml hl.1 (y_lose l D cI cS (tq B 178 186) (rq B) hWM H_1 hTM (B + 178) (xs (i + 1).toNatClampNeg) (ttM B) (n + 1) (by omega) hn1 hMb) lk_L_63 yd_X12_lose hTM (ttM B) rfl (by decide) ⟨rfl, fun _ _ => rfl, hS_1.2.2⟩ (fun q h => by have h : q = rq B (B + 178) 0 := h; simp only [qn_178_0] at h; show B ≤ q; omega) ⟨Nat.le_of_ble_eq_true rfl, Nat.le_of_ble_eq_true rfl⟩ (Nat.le_of_ble_eq_true rfl) ⟨Nat.le_of_ble_eq_true rfl, Nat.le_of_ble_eq_true rfl⟩ rfl dL_law_403 (fun r_2 H_2 locs_2 p_2 hT_2 hk_2 hS_2 => ?_)
  have hX_2 : va_X b L xs s H_2 := hX_1.kept (hS_2.2.1 b (Nat.not_le.mpr hbB))
  have kX : ∀ q, q < B + 178 → H_2[q]? = H_1[q]? := fun q hq => hk_2 q (fun h => by have h : q = rq B (B + 178) 0 := h; simp only [qn_178_0] at h; omega)
  have hTX := hTX.same (H1 := H_2) (fun q t h => kX q (by obtain ⟨j, rfl, -, z1, -⟩ := tq_some h; omega))
  have hX9_2 : TX D (rq B) _ _ H_2 (rq B (B + 0) 0) := hX9_1.q (kX _ (by rw [qx_1]; omega)) (kX _ (by rw [qx_16]; omega))
  have hMc : IM D (rq B) (n + 1) H_2 (B + 178) := p_2
  have e5b : fi D 12 5 H_2 (B + 178) = fi D 12 5 H_1 (B + 178) := fi_q (hk_2 _ (fun h => by have h : B + 178 = rq B (B + 178) 0 := h; simp only [qn_178_0] at h; omega))
  have hX12_2 : RX D (rq B) T k H_2 (B + 178) := hX12.q e5b (hk_2 _ (fun h => by have h : rq B (B + 178) 4 = rq B (B + 178) 0 := h; rw [qn_178_0, qn_178_4] at h; omega))
  have hLV2 : LV D cI cS B (n + 1) H_2 := ⟨hTX, hT_2, hMc, _, _, hX9_2, hX12_2⟩
  refine lv_pop hx hb dL_law_406 rfl ?_
  refine lv_goto (tgt := 766) hx hb dL_law_407 (by decide) ?_
  exact kk H_2 locs_2 hS_2.2.2 hX_2 hLV2
set_option maxHeartbeats 4000000 in
set_option maxRecDepth 100000 in
theorem v_twice (E : EE p s m args c cL_law RL D cI cS) (hml : c.maxLocals = 4) (hl : lv_has ls 4 [(3, .int i), (2, .ref (B + 178)), (1, .ref (B + 0)), (0, .ref b)]) (hWX : WF (tq B 0 178) (rq B)) (hWM : WF (tq B 178 186) (rq B)) (hLV : LV D cI cS B n H) (hn0 : 0 ≤ n) (hn1 : n + 1 ≤ 600) (hi0 : 0 ≤ i.toInt) (hi1 : i.toInt + 4 ≤ L) (hL : L ≤ 2048) (hX : va_X b L xs s H) (hbB : b < B) (hlo : ∀ x ∈ locs, B ≤ x.base) (kk : KL p l e s m args below meth c ls Q D cI cS n B b L xs) : WL p l e s m args below meth c H locs ls Q 410 := by
  obtain ⟨hTX, hTM, hM0, T, k, hX9, hX12⟩ := hLV
  have hx := E.1
  have hb := E.2.1
  have hv_1 : vp_in (i + 1) L := idx_in (k := 1) (by decide) (by decide) hi0 (by omega) hL
  have hv_2 : vp_in (i + 2) L := idx_in (k := 2) (by decide) (by decide) hi0 (by omega) hL
  have hv_3 : vp_in (i + 3) L := idx_in (k := 3) (by decide) (by decide) hi0 (by omega) hL
  refine lv_aload_n hx hb dL_law_410 rfl (lv_at hl 2 rfl) ?_
  refine lv_aload_n hx hb dL_law_411 rfl (lv_at hl 3 rfl) ?_
  refine lv_iload_n hx hb dL_law_412 rfl (lv_at hl 0 rfl) ?_
  refine lv_iconst (v := 1) hx hb dL_law_413 (by decide) ?_
  refine lv_iadd hx hb dL_law_414 ?_
  refine lw_sldg hx hb hX hv_1 dL_law_415 ?_
  refine th_Vi (A := fun q => B ≤ q) (As := [.int (xs (i + 1).toNatClampNeg)]) (rest := []) E hml hl.1 (z_X11_twice l D cI cS (tq B 0 178) (rq B) hWX H hTX (B + 0) (xs (i + 1).toNatClampNeg) (ttX B)) lk_L_64 yd_X11_twice hTX (ttX B) rfl (by decide) ⟨rfl, fun _ _ => rfl, hlo⟩ (fun q h => (at_in h).1) ⟨Nat.le_of_ble_eq_true rfl, Nat.le_of_ble_eq_true rfl⟩ (Nat.le_of_ble_eq_true rfl) ⟨Nat.le_of_ble_eq_true rfl, Nat.le_of_ble_eq_true rfl⟩ rfl dL_law_416 (fun r_1 H_1 locs_1 p_1 hT_1 hk_1 hS_1 => ?_)
  have hX_1 : va_X b L xs s H_1 := hX.kept (hS_1.2.1 b (Nat.not_le.mpr hbB))
  have kM : ∀ q, B + 178 ≤ q → H_1[q]? = H[q]? := fun q hq => hk_1 q (fun h => by have := (at_in h).2; omega)
  have hTX := hT_1
  have hTM := hTM.same (H1 := H_1) (fun q t h => kM q (by obtain ⟨j, rfl, z1, -, -⟩ := tq_some h; omega))
  have hMa := hM0.kept (H1 := H_1) kM
  have hMb := hMa.mono (N1 := n + 1) (by omega)
  have e5 : fi D 12 5 H_1 (B + 178) = fi D 12 5 H (B + 178) := fi_q (kM _ (by omega))
  have hX9_1 : TX D (rq B) T k H_1 (rq B (B + 0) 0) := hX9.q (hk_1 _ (AT.out (t := 9) ttT (by decide))) (hk_1 _ (AT.out (t := 300) ttR (by decide)))
  have hX12 : RX D (rq B) T k H_1 (B + 178) := hX12.q (fi_q (kM _ (by omega))) (kM _ (by rw [qn_178_4]; omega))
  refine lv_pop hx hb dL_law_419 rfl ?_
  refine lv_aload_n hx hb dL_law_420 rfl (lv_at hl 1 rfl) ?_
  refine lv_aload_n hx hb dL_law_421 rfl (lv_at hl 3 rfl) ?_
  refine lv_iload_n hx hb dL_law_422 rfl (lv_at hl 0 rfl) ?_
  refine lv_iconst (v := 1) hx hb dL_law_423 (by decide) ?_
  refine lv_iadd hx hb dL_law_424 ?_
  refine lw_sldg hx hb hX_1 hv_1 dL_law_425 ?_
  refine th_Vi (A := fun q => B ≤ q) (As := [.int (xs (i + 1).toNatClampNeg)]) (rest := []) E hml hl.1 (y_twice l D cI cS (tq B 178 186) (rq B) hWM H_1 hTM (B + 178) (xs (i + 1).toNatClampNeg) (ttM B) (n + 1) (by omega) hn1 hMb) lk_L_67 yd_X12_twice hTM (ttM B) rfl (by decide) ⟨rfl, fun _ _ => rfl, hS_1.2.2⟩ (fun q h => by have h : q = rq B (B + 178) 0 := h; simp only [qn_178_0] at h; show B ≤ q; omega) ⟨Nat.le_of_ble_eq_true rfl, Nat.le_of_ble_eq_true rfl⟩ (Nat.le_of_ble_eq_true rfl) ⟨Nat.le_of_ble_eq_true rfl, Nat.le_of_ble_eq_true rfl⟩ rfl dL_law_426 (fun r_2 H_2 locs_2 p_2 hT_2 hk_2 hS_2 => ?_)
  have hX_2 : va_X b L xs s H_2 := hX_1.kept (hS_2.2.1 b (Nat.not_le.mpr hbB))
  have kX : ∀ q, q < B + 178 → H_2[q]? = H_1[q]? := fun q hq => hk_2 q (fun h => by have h : q = rq B (B + 178) 0 := h; simp only [qn_178_0] at h; omega)
  have hTX := hTX.same (H1 := H_2) (fun q t h => kX q (by obtain ⟨j, rfl, -, z1, -⟩ := tq_some h; omega))
  have hX9_2 : TX D (rq B) _ _ H_2 (rq B (B + 0) 0) := hX9_1.q (kX _ (by rw [qx_1]; omega)) (kX _ (by rw [qx_16]; omega))
  have hMc : IM D (rq B) (n + 1) H_2 (B + 178) := p_2
  have e5b : fi D 12 5 H_2 (B + 178) = fi D 12 5 H_1 (B + 178) := fi_q (hk_2 _ (fun h => by have h : B + 178 = rq B (B + 178) 0 := h; simp only [qn_178_0] at h; omega))
  have hX12_2 : RX D (rq B) T k H_2 (B + 178) := hX12.q e5b (hk_2 _ (fun h => by have h : rq B (B + 178) 4 = rq B (B + 178) 0 := h; rw [qn_178_0, qn_178_4] at h; omega))
  have hLV2 : LV D cI cS B (n + 1) H_2 := ⟨hTX, hT_2, hMc, _, _, hX9_2, hX12_2⟩
  refine lv_pop hx hb dL_law_429 rfl ?_
  refine lv_goto (tgt := 766) hx hb dL_law_430 (by decide) ?_
  exact kk H_2 locs_2 hS_2.2.2 hX_2 hLV2
set_option maxHeartbeats 4000000 in
set_option maxRecDepth 100000 in
theorem v_pass (E : EE p s m args c cL_law RL D cI cS) (hml : c.maxLocals = 4) (hl : lv_has ls 4 [(3, .int i), (2, .ref (B + 178)), (1, .ref (B + 0)), (0, .ref b)]) (hWX : WF (tq B 0 178) (rq B)) (hWM : WF (tq B 178 186) (rq B)) (hLV : LV D cI cS B n H) (hn0 : 0 ≤ n) (hn1 : n + 1 ≤ 600) (hi0 : 0 ≤ i.toInt) (hi1 : i.toInt + 4 ≤ L) (hL : L ≤ 2048) (hX : va_X b L xs s H) (hbB : b < B) (hlo : ∀ x ∈ locs, B ≤ x.base) (kk : KL p l e s m args below meth c ls Q D cI cS n B b L xs) : WL p l e s m args below meth c H locs ls Q 433 := by
  obtain ⟨hTX, hTM, hM0, T, k, hX9, hX12⟩ := hLV
  have hx := E.1
  have hb := E.2.1
  have hv_1 : vp_in (i + 1) L := idx_in (k := 1) (by decide) (by decide) hi0 (by omega) hL
  have hv_2 : vp_in (i + 2) L := idx_in (k := 2) (by decide) (by decide) hi0 (by omega) hL
  have hv_3 : vp_in (i + 3) L := idx_in (k := 3) (by decide) (by decide) hi0 (by omega) hL
  refine lv_aload_n hx hb dL_law_433 rfl (lv_at hl 2 rfl) ?_
  refine lv_aload_n hx hb dL_law_434 rfl (lv_at hl 3 rfl) ?_
  refine lv_iload_n hx hb dL_law_435 rfl (lv_at hl 0 rfl) ?_
  refine lv_iconst (v := 1) hx hb dL_law_436 (by decide) ?_
  refine lv_iadd hx hb dL_law_437 ?_
  refine lw_sldg hx hb hX hv_1 dL_law_438 ?_
  refine th_Vi (A := fun q => B ≤ q) (As := [.int (xs (i + 1).toNatClampNeg)]) (rest := []) E hml hl.1 (z_X11_pass l D cI cS (tq B 0 178) (rq B) hWX H hTX (B + 0) (xs (i + 1).toNatClampNeg) (ttX B)) lk_L_68 yd_X11_pass hTX (ttX B) rfl (by decide) ⟨rfl, fun _ _ => rfl, hlo⟩ (fun q h => (at_in h).1) ⟨Nat.le_of_ble_eq_true rfl, Nat.le_of_ble_eq_true rfl⟩ (Nat.le_of_ble_eq_true rfl) ⟨Nat.le_of_ble_eq_true rfl, Nat.le_of_ble_eq_true rfl⟩ rfl dL_law_439 (fun r_1 H_1 locs_1 p_1 hT_1 hk_1 hS_1 => ?_)
  have hX_1 : va_X b L xs s H_1 := hX.kept (hS_1.2.1 b (Nat.not_le.mpr hbB))
  have kM : ∀ q, B + 178 ≤ q → H_1[q]? = H[q]? := fun q hq => hk_1 q (fun h => by have := (at_in h).2; omega)
  have hTX := hT_1
  have hTM := hTM.same (H1 := H_1) (fun q t h => kM q (by obtain ⟨j, rfl, z1, -, -⟩ := tq_some h; omega))
  have hMa := hM0.kept (H1 := H_1) kM
  have hMb := hMa.mono (N1 := n + 1) (by omega)
  have e5 : fi D 12 5 H_1 (B + 178) = fi D 12 5 H (B + 178) := fi_q (kM _ (by omega))
  have hX9_1 : TX D (rq B) T k H_1 (rq B (B + 0) 0) := hX9.q (hk_1 _ (AT.out (t := 9) ttT (by decide))) (hk_1 _ (AT.out (t := 300) ttR (by decide)))
  have hX12 : RX D (rq B) T k H_1 (B + 178) := hX12.q (fi_q (kM _ (by omega))) (kM _ (by rw [qn_178_4]; omega))
  refine lv_pop hx hb dL_law_442 rfl ?_
  refine lv_aload_n hx hb dL_law_443 rfl (lv_at hl 1 rfl) ?_
  refine lv_aload_n hx hb dL_law_444 rfl (lv_at hl 3 rfl) ?_
  refine lv_iload_n hx hb dL_law_445 rfl (lv_at hl 0 rfl) ?_
  refine lv_iconst (v := 1) hx hb dL_law_446 (by decide) ?_
  refine lv_iadd hx hb dL_law_447 ?_
  refine lw_sldg hx hb hX_1 hv_1 dL_law_448 ?_
  refine th_Vi (A := fun q => B ≤ q) (As := [.int (xs (i + 1).toNatClampNeg)]) (rest := []) E hml hl.1 (y_pass l D cI cS (tq B 178 186) (rq B) hWM H_1 hTM (B + 178) (xs (i + 1).toNatClampNeg) (ttM B) (n + 1) (by omega) hn1 hMb) lk_L_71 yd_X12_pass hTM (ttM B) rfl (by decide) ⟨rfl, fun _ _ => rfl, hS_1.2.2⟩ (fun q h => by have h : q = rq B (B + 178) 0 ∨ q = rq B (B + 178) 2 := h; simp only [qn_178_0, qn_178_2] at h; show B ≤ q; omega) ⟨Nat.le_of_ble_eq_true rfl, Nat.le_of_ble_eq_true rfl⟩ (Nat.le_of_ble_eq_true rfl) ⟨Nat.le_of_ble_eq_true rfl, Nat.le_of_ble_eq_true rfl⟩ rfl dL_law_449 (fun r_2 H_2 locs_2 p_2 hT_2 hk_2 hS_2 => ?_)
  have hX_2 : va_X b L xs s H_2 := hX_1.kept (hS_2.2.1 b (Nat.not_le.mpr hbB))
  have kX : ∀ q, q < B + 178 → H_2[q]? = H_1[q]? := fun q hq => hk_2 q (fun h => by have h : q = rq B (B + 178) 0 ∨ q = rq B (B + 178) 2 := h; simp only [qn_178_0, qn_178_2] at h; omega)
  have hTX := hTX.same (H1 := H_2) (fun q t h => kX q (by obtain ⟨j, rfl, -, z1, -⟩ := tq_some h; omega))
  have hX9_2 : TX D (rq B) _ _ H_2 (rq B (B + 0) 0) := hX9_1.q (kX _ (by rw [qx_1]; omega)) (kX _ (by rw [qx_16]; omega))
  have hMc : IM D (rq B) (n + 1) H_2 (B + 178) := p_2
  have e5b : fi D 12 5 H_2 (B + 178) = fi D 12 5 H_1 (B + 178) := fi_q (hk_2 _ (fun h => by have h : B + 178 = rq B (B + 178) 0 ∨ B + 178 = rq B (B + 178) 2 := h; simp only [qn_178_0, qn_178_2] at h; omega))
  have hX12_2 : RX D (rq B) T k H_2 (B + 178) := hX12.q e5b (hk_2 _ (fun h => by have h : rq B (B + 178) 4 = rq B (B + 178) 0 ∨ rq B (B + 178) 4 = rq B (B + 178) 2 := h; rw [qn_178_0, qn_178_2, qn_178_4] at h; omega))
  have hLV2 : LV D cI cS B (n + 1) H_2 := ⟨hTX, hT_2, hMc, _, _, hX9_2, hX12_2⟩
  refine lv_pop hx hb dL_law_452 rfl ?_
  refine lv_goto (tgt := 766) hx hb dL_law_453 (by decide) ?_
  exact kk H_2 locs_2 hS_2.2.2 hX_2 hLV2
set_option maxHeartbeats 4000000 in
set_option maxRecDepth 100000 in
theorem v_drive (E : EE p s m args c cL_law RL D cI cS) (hml : c.maxLocals = 4) (hl : lv_has ls 4 [(3, .int i), (2, .ref (B + 178)), (1, .ref (B + 0)), (0, .ref b)]) (hWX : WF (tq B 0 178) (rq B)) (hWM : WF (tq B 178 186) (rq B)) (hLV : LV D cI cS B n H) (hn0 : 0 ≤ n) (hn1 : n + 1 ≤ 600) (hi0 : 0 ≤ i.toInt) (hi1 : i.toInt + 4 ≤ L) (hL : L ≤ 2048) (hX : va_X b L xs s H) (hbB : b < B) (hlo : ∀ x ∈ locs, B ≤ x.base) (kk : KL p l e s m args below meth c ls Q D cI cS n B b L xs) : WL p l e s m args below meth c H locs ls Q 456 := by
  obtain ⟨hTX, hTM, hM0, T, k, hX9, hX12⟩ := hLV
  have hx := E.1
  have hb := E.2.1
  have hv_1 : vp_in (i + 1) L := idx_in (k := 1) (by decide) (by decide) hi0 (by omega) hL
  have hv_2 : vp_in (i + 2) L := idx_in (k := 2) (by decide) (by decide) hi0 (by omega) hL
  have hv_3 : vp_in (i + 3) L := idx_in (k := 3) (by decide) (by decide) hi0 (by omega) hL
  refine lv_aload_n hx hb dL_law_456 rfl (lv_at hl 2 rfl) ?_
  refine lv_aload_n hx hb dL_law_457 rfl (lv_at hl 3 rfl) ?_
  refine lv_iload_n hx hb dL_law_458 rfl (lv_at hl 0 rfl) ?_
  refine lv_iconst (v := 1) hx hb dL_law_459 (by decide) ?_
  refine lv_iadd hx hb dL_law_460 ?_
  refine lw_sldg hx hb hX hv_1 dL_law_461 ?_
  refine lv_aload_n hx hb dL_law_462 rfl (lv_at hl 3 rfl) ?_
  refine lv_iload_n hx hb dL_law_463 rfl (lv_at hl 0 rfl) ?_
  refine lv_iconst (v := 2) hx hb dL_law_464 (by decide) ?_
  refine lv_iadd hx hb dL_law_465 ?_
  refine lw_sldg hx hb hX hv_2 dL_law_466 ?_
  refine th_Vi (A := fun q => B ≤ q) (As := [.int (xs (i + 1).toNatClampNeg), .int (xs (i + 2).toNatClampNeg)]) (rest := []) E hml hl.1 (z_X11_drive l D cI cS (tq B 0 178) (rq B) hWX H hTX (B + 0) (xs (i + 1).toNatClampNeg) (xs (i + 2).toNatClampNeg) (ttX B)) lk_L_72 yd_X11_drive hTX (ttX B) rfl (by decide) ⟨rfl, fun _ _ => rfl, hlo⟩ (fun q h => (at_in h).1) ⟨Nat.le_of_ble_eq_true rfl, Nat.le_of_ble_eq_true rfl⟩ (Nat.le_of_ble_eq_true rfl) ⟨Nat.le_of_ble_eq_true rfl, Nat.le_of_ble_eq_true rfl⟩ rfl dL_law_467 (fun r_1 H_1 locs_1 p_1 hT_1 hk_1 hS_1 => ?_)
  have hX_1 : va_X b L xs s H_1 := hX.kept (hS_1.2.1 b (Nat.not_le.mpr hbB))
  have kM : ∀ q, B + 178 ≤ q → H_1[q]? = H[q]? := fun q hq => hk_1 q (fun h => by have := (at_in h).2; omega)
  have hTX := hT_1
  have hTM := hTM.same (H1 := H_1) (fun q t h => kM q (by obtain ⟨j, rfl, z1, -, -⟩ := tq_some h; omega))
  have hMa := hM0.kept (H1 := H_1) kM
  have hMb := hMa.mono (N1 := n + 1) (by omega)
  have e5 : fi D 12 5 H_1 (B + 178) = fi D 12 5 H (B + 178) := fi_q (kM _ (by omega))
  have hX9_1 : TX D (rq B) T k H_1 (rq B (B + 0) 0) := hX9.q (hk_1 _ (AT.out (t := 9) ttT (by decide))) (hk_1 _ (AT.out (t := 300) ttR (by decide)))
  have hX12 : RX D (rq B) T k H_1 (B + 178) := hX12.q (fi_q (kM _ (by omega))) (kM _ (by rw [qn_178_4]; omega))
  refine lv_pop hx hb dL_law_470 rfl ?_
  refine lv_aload_n hx hb dL_law_471 rfl (lv_at hl 1 rfl) ?_
  refine lv_aload_n hx hb dL_law_472 rfl (lv_at hl 3 rfl) ?_
  refine lv_iload_n hx hb dL_law_473 rfl (lv_at hl 0 rfl) ?_
  refine lv_iconst (v := 1) hx hb dL_law_474 (by decide) ?_
  refine lv_iadd hx hb dL_law_475 ?_
  refine lw_sldg hx hb hX_1 hv_1 dL_law_476 ?_
  refine lv_aload_n hx hb dL_law_477 rfl (lv_at hl 3 rfl) ?_
  refine lv_iload_n hx hb dL_law_478 rfl (lv_at hl 0 rfl) ?_
  refine lv_iconst (v := 2) hx hb dL_law_479 (by decide) ?_
  refine lv_iadd hx hb dL_law_480 ?_
  refine lw_sldg hx hb hX_1 hv_2 dL_law_481 ?_
  refine th_Vi (A := fun q => B ≤ q) (As := [.int (xs (i + 1).toNatClampNeg), .int (xs (i + 2).toNatClampNeg)]) (rest := []) E hml hl.1 (y_drive l D cI cS (tq B 178 186) (rq B) hWM H_1 hTM (B + 178) (xs (i + 1).toNatClampNeg) (xs (i + 2).toNatClampNeg) (ttM B) (n + 1) (by omega) hn1 hMb) lk_L_75 yd_X12_drive hTM (ttM B) rfl (by decide) ⟨rfl, fun _ _ => rfl, hS_1.2.2⟩ (fun q h => by have h : q = rq B (B + 178) 3 ∨ q = rq B (B + 178) 0 ∨ q = rq B (B + 178) 2 := h; simp only [qn_178_0, qn_178_2, qn_178_3] at h; show B ≤ q; omega) ⟨Nat.le_of_ble_eq_true rfl, Nat.le_of_ble_eq_true rfl⟩ (Nat.le_of_ble_eq_true rfl) ⟨Nat.le_of_ble_eq_true rfl, Nat.le_of_ble_eq_true rfl⟩ rfl dL_law_482 (fun r_2 H_2 locs_2 p_2 hT_2 hk_2 hS_2 => ?_)
  have hX_2 : va_X b L xs s H_2 := hX_1.kept (hS_2.2.1 b (Nat.not_le.mpr hbB))
  have kX : ∀ q, q < B + 178 → H_2[q]? = H_1[q]? := fun q hq => hk_2 q (fun h => by have h : q = rq B (B + 178) 3 ∨ q = rq B (B + 178) 0 ∨ q = rq B (B + 178) 2 := h; simp only [qn_178_0, qn_178_2, qn_178_3] at h; omega)
  have hTX := hTX.same (H1 := H_2) (fun q t h => kX q (by obtain ⟨j, rfl, -, z1, -⟩ := tq_some h; omega))
  have hX9_2 : TX D (rq B) _ _ H_2 (rq B (B + 0) 0) := hX9_1.q (kX _ (by rw [qx_1]; omega)) (kX _ (by rw [qx_16]; omega))
  have hMc : IM D (rq B) (n + 1) H_2 (B + 178) := p_2
  have e5b : fi D 12 5 H_2 (B + 178) = fi D 12 5 H_1 (B + 178) := fi_q (hk_2 _ (fun h => by have h : B + 178 = rq B (B + 178) 3 ∨ B + 178 = rq B (B + 178) 0 ∨ B + 178 = rq B (B + 178) 2 := h; simp only [qn_178_0, qn_178_2, qn_178_3] at h; omega))
  have hX12_2 : RX D (rq B) T k H_2 (B + 178) := hX12.q e5b (hk_2 _ (fun h => by have h : rq B (B + 178) 4 = rq B (B + 178) 3 ∨ rq B (B + 178) 4 = rq B (B + 178) 0 ∨ rq B (B + 178) 4 = rq B (B + 178) 2 := h; rw [qn_178_0, qn_178_2, qn_178_3, qn_178_4] at h; omega))
  have hLV2 : LV D cI cS B (n + 1) H_2 := ⟨hTX, hT_2, hMc, _, _, hX9_2, hX12_2⟩
  refine lv_pop hx hb dL_law_485 rfl ?_
  refine lv_goto (tgt := 766) hx hb dL_law_486 (by decide) ?_
  exact kk H_2 locs_2 hS_2.2.2 hX_2 hLV2
set_option maxHeartbeats 4000000 in
set_option maxRecDepth 100000 in
theorem v_calm (E : EE p s m args c cL_law RL D cI cS) (hml : c.maxLocals = 4) (hl : lv_has ls 4 [(3, .int i), (2, .ref (B + 178)), (1, .ref (B + 0)), (0, .ref b)]) (hWX : WF (tq B 0 178) (rq B)) (hWM : WF (tq B 178 186) (rq B)) (hLV : LV D cI cS B n H) (hn0 : 0 ≤ n) (hn1 : n + 1 ≤ 600) (hi0 : 0 ≤ i.toInt) (hi1 : i.toInt + 4 ≤ L) (hL : L ≤ 2048) (hX : va_X b L xs s H) (hbB : b < B) (hlo : ∀ x ∈ locs, B ≤ x.base) (kk : KL p l e s m args below meth c ls Q D cI cS n B b L xs) : WL p l e s m args below meth c H locs ls Q 489 := by
  obtain ⟨hTX, hTM, hM0, T, k, hX9, hX12⟩ := hLV
  have hx := E.1
  have hb := E.2.1
  have hv_1 : vp_in (i + 1) L := idx_in (k := 1) (by decide) (by decide) hi0 (by omega) hL
  have hv_2 : vp_in (i + 2) L := idx_in (k := 2) (by decide) (by decide) hi0 (by omega) hL
  have hv_3 : vp_in (i + 3) L := idx_in (k := 3) (by decide) (by decide) hi0 (by omega) hL
  refine lv_aload_n hx hb dL_law_489 rfl (lv_at hl 2 rfl) ?_
  refine lv_aload_n hx hb dL_law_490 rfl (lv_at hl 3 rfl) ?_
  refine lv_iload_n hx hb dL_law_491 rfl (lv_at hl 0 rfl) ?_
  refine lv_iconst (v := 1) hx hb dL_law_492 (by decide) ?_
  refine lv_iadd hx hb dL_law_493 ?_
  refine lw_sldg hx hb hX hv_1 dL_law_494 ?_
  refine th_Vi (A := fun q => B ≤ q) (As := [.int (xs (i + 1).toNatClampNeg)]) (rest := []) E hml hl.1 (z_X11_calm l D cI cS (tq B 0 178) (rq B) hWX H hTX (B + 0) (xs (i + 1).toNatClampNeg) (ttX B)) lk_L_76 yd_X11_calm hTX (ttX B) rfl (by decide) ⟨rfl, fun _ _ => rfl, hlo⟩ (fun q h => (at_in h).1) ⟨Nat.le_of_ble_eq_true rfl, Nat.le_of_ble_eq_true rfl⟩ (Nat.le_of_ble_eq_true rfl) ⟨Nat.le_of_ble_eq_true rfl, Nat.le_of_ble_eq_true rfl⟩ rfl dL_law_495 (fun r_1 H_1 locs_1 p_1 hT_1 hk_1 hS_1 => ?_)
  have hX_1 : va_X b L xs s H_1 := hX.kept (hS_1.2.1 b (Nat.not_le.mpr hbB))
  have kM : ∀ q, B + 178 ≤ q → H_1[q]? = H[q]? := fun q hq => hk_1 q (fun h => by have := (at_in h).2; omega)
  have hTX := hT_1
  have hTM := hTM.same (H1 := H_1) (fun q t h => kM q (by obtain ⟨j, rfl, z1, -, -⟩ := tq_some h; omega))
  have hMa := hM0.kept (H1 := H_1) kM
  have hMb := hMa.mono (N1 := n + 1) (by omega)
  have e5 : fi D 12 5 H_1 (B + 178) = fi D 12 5 H (B + 178) := fi_q (kM _ (by omega))
  have hX9_1 : TX D (rq B) T k H_1 (rq B (B + 0) 0) := hX9.q (hk_1 _ (AT.out (t := 9) ttT (by decide))) (hk_1 _ (AT.out (t := 300) ttR (by decide)))
  have hX12 : RX D (rq B) T k H_1 (B + 178) := hX12.q (fi_q (kM _ (by omega))) (kM _ (by rw [qn_178_4]; omega))
  refine lv_pop hx hb dL_law_498 rfl ?_
  refine lv_aload_n hx hb dL_law_499 rfl (lv_at hl 1 rfl) ?_
  refine lv_aload_n hx hb dL_law_500 rfl (lv_at hl 3 rfl) ?_
  refine lv_iload_n hx hb dL_law_501 rfl (lv_at hl 0 rfl) ?_
  refine lv_iconst (v := 1) hx hb dL_law_502 (by decide) ?_
  refine lv_iadd hx hb dL_law_503 ?_
  refine lw_sldg hx hb hX_1 hv_1 dL_law_504 ?_
  refine th_Vi (A := fun q => B ≤ q) (As := [.int (xs (i + 1).toNatClampNeg)]) (rest := []) E hml hl.1 (y_calm l D cI cS (tq B 178 186) (rq B) hWM H_1 hTM (B + 178) (xs (i + 1).toNatClampNeg) (ttM B) (n + 1) (by omega) hn1 hMb) lk_L_79 yd_X12_calm hTM (ttM B) rfl (by decide) ⟨rfl, fun _ _ => rfl, hS_1.2.2⟩ (fun q h => by have h : q = rq B (B + 178) 1 ∨ q = rq B (B + 178) 0 ∨ q = rq B (B + 178) 2 ∨ q = rq B (B + 178) 3 := h; simp only [qn_178_0, qn_178_1, qn_178_2, qn_178_3] at h; show B ≤ q; omega) ⟨Nat.le_of_ble_eq_true rfl, Nat.le_of_ble_eq_true rfl⟩ (Nat.le_of_ble_eq_true rfl) ⟨Nat.le_of_ble_eq_true rfl, Nat.le_of_ble_eq_true rfl⟩ rfl dL_law_505 (fun r_2 H_2 locs_2 p_2 hT_2 hk_2 hS_2 => ?_)
  have hX_2 : va_X b L xs s H_2 := hX_1.kept (hS_2.2.1 b (Nat.not_le.mpr hbB))
  have kX : ∀ q, q < B + 178 → H_2[q]? = H_1[q]? := fun q hq => hk_2 q (fun h => by have h : q = rq B (B + 178) 1 ∨ q = rq B (B + 178) 0 ∨ q = rq B (B + 178) 2 ∨ q = rq B (B + 178) 3 := h; simp only [qn_178_0, qn_178_1, qn_178_2, qn_178_3] at h; omega)
  have hTX := hTX.same (H1 := H_2) (fun q t h => kX q (by obtain ⟨j, rfl, -, z1, -⟩ := tq_some h; omega))
  have hX9_2 : TX D (rq B) _ _ H_2 (rq B (B + 0) 0) := hX9_1.q (kX _ (by rw [qx_1]; omega)) (kX _ (by rw [qx_16]; omega))
  have hMc : IM D (rq B) (n + 1) H_2 (B + 178) := p_2
  have e5b : fi D 12 5 H_2 (B + 178) = fi D 12 5 H_1 (B + 178) := fi_q (hk_2 _ (fun h => by have h : B + 178 = rq B (B + 178) 1 ∨ B + 178 = rq B (B + 178) 0 ∨ B + 178 = rq B (B + 178) 2 ∨ B + 178 = rq B (B + 178) 3 := h; simp only [qn_178_0, qn_178_1, qn_178_2, qn_178_3] at h; omega))
  have hX12_2 : RX D (rq B) T k H_2 (B + 178) := hX12.q e5b (hk_2 _ (fun h => by have h : rq B (B + 178) 4 = rq B (B + 178) 1 ∨ rq B (B + 178) 4 = rq B (B + 178) 0 ∨ rq B (B + 178) 4 = rq B (B + 178) 2 ∨ rq B (B + 178) 4 = rq B (B + 178) 3 := h; rw [qn_178_0, qn_178_1, qn_178_2, qn_178_3, qn_178_4] at h; omega))
  have hLV2 : LV D cI cS B (n + 1) H_2 := ⟨hTX, hT_2, hMc, _, _, hX9_2, hX12_2⟩
  refine lv_pop hx hb dL_law_508 rfl ?_
  refine lv_goto (tgt := 766) hx hb dL_law_509 (by decide) ?_
  exact kk H_2 locs_2 hS_2.2.2 hX_2 hLV2
set_option maxHeartbeats 4000000 in
set_option maxRecDepth 100000 in
theorem v_end_0 (E : EE p s m args c cL_law RL D cI cS) (hml : c.maxLocals = 4) (hl : lv_has ls 4 [(3, .int i), (2, .ref (B + 178)), (1, .ref (B + 0)), (0, .ref b)]) (hWX : WF (tq B 0 178) (rq B)) (hWM : WF (tq B 178 186) (rq B)) (hLV : LV D cI cS B n H) (hn0 : 0 ≤ n) (hn1 : n + 1 ≤ 600) (hi0 : 0 ≤ i.toInt) (hi1 : i.toInt + 4 ≤ L) (hL : L ≤ 2048) (hX : va_X b L xs s H) (hbB : b < B) (hlo : ∀ x ∈ locs, B ≤ x.base) (he : (xs (i + 1).toNatClampNeg) = 0) (kk : KL p l e s m args below meth c ls Q D cI cS n B b L xs) : WL p l e s m args below meth c H locs ls Q 512 := by
  obtain ⟨hTX, hTM, hM0, T, k, hX9, hX12⟩ := hLV
  have hx := E.1
  have hb := E.2.1
  have hv_1 : vp_in (i + 1) L := idx_in (k := 1) (by decide) (by decide) hi0 (by omega) hL
  have hv_2 : vp_in (i + 2) L := idx_in (k := 2) (by decide) (by decide) hi0 (by omega) hL
  have hv_3 : vp_in (i + 3) L := idx_in (k := 3) (by decide) (by decide) hi0 (by omega) hL
  refine lv_aload_n hx hb dL_law_512 rfl (lv_at hl 2 rfl) ?_
  refine lv_aload_n hx hb dL_law_513 rfl (lv_at hl 3 rfl) ?_
  refine lv_iload_n hx hb dL_law_514 rfl (lv_at hl 0 rfl) ?_
  refine lv_iconst (v := 1) hx hb dL_law_515 (by decide) ?_
  refine lv_iadd hx hb dL_law_516 ?_
  refine lw_sldg hx hb hX hv_1 dL_law_517 ?_
  refine lv_aload_n hx hb dL_law_518 rfl (lv_at hl 3 rfl) ?_
  refine lv_iload_n hx hb dL_law_519 rfl (lv_at hl 0 rfl) ?_
  refine lv_iconst (v := 2) hx hb dL_law_520 (by decide) ?_
  refine lv_iadd hx hb dL_law_521 ?_
  refine lw_sldg hx hb hX hv_2 dL_law_522 ?_
  refine th_Vi (A := fun q => B ≤ q) (As := [.int (xs (i + 1).toNatClampNeg), .int (xs (i + 2).toNatClampNeg)]) (rest := []) E hml hl.1 (z_X11_end l D cI cS (tq B 0 178) (rq B) hWX H hTX (B + 0) (xs (i + 1).toNatClampNeg) (xs (i + 2).toNatClampNeg) (ttX B)) lk_L_80 yd_X11_end hTX (ttX B) rfl (by decide) ⟨rfl, fun _ _ => rfl, hlo⟩ (fun q h => (at_in h).1) ⟨Nat.le_of_ble_eq_true rfl, Nat.le_of_ble_eq_true rfl⟩ (Nat.le_of_ble_eq_true rfl) ⟨Nat.le_of_ble_eq_true rfl, Nat.le_of_ble_eq_true rfl⟩ rfl dL_law_523 (fun r_1 H_1 locs_1 p_1 hT_1 hk_1 hS_1 => ?_)
  have hX_1 : va_X b L xs s H_1 := hX.kept (hS_1.2.1 b (Nat.not_le.mpr hbB))
  have kM : ∀ q, B + 178 ≤ q → H_1[q]? = H[q]? := fun q hq => hk_1 q (fun h => by have := (at_in h).2; omega)
  have hTX := hT_1
  have hTM := hTM.same (H1 := H_1) (fun q t h => kM q (by obtain ⟨j, rfl, z1, -, -⟩ := tq_some h; omega))
  have hMa := hM0.kept (H1 := H_1) kM
  have hMb := hMa.mono (N1 := n + 1) (by omega)
  have e5 : fi D 12 5 H_1 (B + 178) = fi D 12 5 H (B + 178) := fi_q (kM _ (by omega))
  have hX9_1 : TX D (rq B) T k H_1 (rq B (B + 0) 0) := hX9.q (hk_1 _ (AT.out (t := 9) ttT (by decide))) (hk_1 _ (AT.out (t := 300) ttR (by decide)))
  have hX12 : RX D (rq B) T k H_1 (B + 178) := hX12.q (fi_q (kM _ (by omega))) (kM _ (by rw [qn_178_4]; omega))
  refine lv_pop hx hb dL_law_526 rfl ?_
  refine lv_aload_n hx hb dL_law_527 rfl (lv_at hl 1 rfl) ?_
  refine lv_aload_n hx hb dL_law_528 rfl (lv_at hl 3 rfl) ?_
  refine lv_iload_n hx hb dL_law_529 rfl (lv_at hl 0 rfl) ?_
  refine lv_iconst (v := 1) hx hb dL_law_530 (by decide) ?_
  refine lv_iadd hx hb dL_law_531 ?_
  refine lw_sldg hx hb hX_1 hv_1 dL_law_532 ?_
  refine th_topi he ?_
  refine lv_aload_n hx hb dL_law_533 rfl (lv_at hl 3 rfl) ?_
  refine lv_iload_n hx hb dL_law_534 rfl (lv_at hl 0 rfl) ?_
  refine lv_iconst (v := 2) hx hb dL_law_535 (by decide) ?_
  refine lv_iadd hx hb dL_law_536 ?_
  refine lw_sldg hx hb hX_1 hv_2 dL_law_537 ?_
  refine th_Vi (A := fun q => B ≤ q) (As := [.int 0, .int (xs (i + 2).toNatClampNeg)]) (rest := []) E hml hl.1 (y_end l D cI cS (tq B 178 186) (rq B) hWM H_1 hTM (B + 178) (xs (i + 2).toNatClampNeg) (ttM B) (n + 1) (by omega) hn1 hMb) lk_L_83 yd_X12_end hTM (ttM B) rfl (by decide) ⟨rfl, fun _ _ => rfl, hS_1.2.2⟩ (fun q h => h.elim) ⟨Nat.le_of_ble_eq_true rfl, Nat.le_of_ble_eq_true rfl⟩ (Nat.le_of_ble_eq_true rfl) ⟨Nat.le_of_ble_eq_true rfl, Nat.le_of_ble_eq_true rfl⟩ rfl dL_law_538 (fun r_2 H_2 locs_2 p_2 hT_2 hk_2 hS_2 => ?_)
  have hX_2 : va_X b L xs s H_2 := hX_1.kept (hS_2.2.1 b (Nat.not_le.mpr hbB))
  have kX : ∀ q, q < B + 178 → H_2[q]? = H_1[q]? := fun q hq => hk_2 q (fun h => h.elim)
  have hTX := hTX.same (H1 := H_2) (fun q t h => kX q (by obtain ⟨j, rfl, -, z1, -⟩ := tq_some h; omega))
  have hX9_2 : TX D (rq B) _ _ H_2 (rq B (B + 0) 0) := hX9_1.q (kX _ (by rw [qx_1]; omega)) (kX _ (by rw [qx_16]; omega))
  have hu : H_1 = H_2 := p_2
  have hMc : IM D (rq B) (n + 1) H_2 (B + 178) := hu ▸ hMb
  have hX12_2 : RX D (rq B) T k H_2 (B + 178) := hu ▸ hX12
  have hLV2 : LV D cI cS B (n + 1) H_2 := ⟨hTX, hT_2, hMc, _, _, hX9_2, hX12_2⟩
  refine lv_pop hx hb dL_law_541 rfl ?_
  refine lv_goto (tgt := 766) hx hb dL_law_542 (by decide) ?_
  exact kk H_2 locs_2 hS_2.2.2 hX_2 hLV2
set_option maxHeartbeats 4000000 in
set_option maxRecDepth 100000 in
theorem v_end_1 (E : EE p s m args c cL_law RL D cI cS) (hml : c.maxLocals = 4) (hl : lv_has ls 4 [(3, .int i), (2, .ref (B + 178)), (1, .ref (B + 0)), (0, .ref b)]) (hWX : WF (tq B 0 178) (rq B)) (hWM : WF (tq B 178 186) (rq B)) (hLV : LV D cI cS B n H) (hn0 : 0 ≤ n) (hn1 : n + 1 ≤ 600) (hi0 : 0 ≤ i.toInt) (hi1 : i.toInt + 4 ≤ L) (hL : L ≤ 2048) (hX : va_X b L xs s H) (hbB : b < B) (hlo : ∀ x ∈ locs, B ≤ x.base) (he : (xs (i + 1).toNatClampNeg) = 1) (kk : KL p l e s m args below meth c ls Q D cI cS n B b L xs) : WL p l e s m args below meth c H locs ls Q 512 := by
  obtain ⟨hTX, hTM, hM0, T, k, hX9, hX12⟩ := hLV
  have hx := E.1
  have hb := E.2.1
  have hv_1 : vp_in (i + 1) L := idx_in (k := 1) (by decide) (by decide) hi0 (by omega) hL
  have hv_2 : vp_in (i + 2) L := idx_in (k := 2) (by decide) (by decide) hi0 (by omega) hL
  have hv_3 : vp_in (i + 3) L := idx_in (k := 3) (by decide) (by decide) hi0 (by omega) hL
  refine lv_aload_n hx hb dL_law_512 rfl (lv_at hl 2 rfl) ?_
  refine lv_aload_n hx hb dL_law_513 rfl (lv_at hl 3 rfl) ?_
  refine lv_iload_n hx hb dL_law_514 rfl (lv_at hl 0 rfl) ?_
  refine lv_iconst (v := 1) hx hb dL_law_515 (by decide) ?_
  refine lv_iadd hx hb dL_law_516 ?_
  refine lw_sldg hx hb hX hv_1 dL_law_517 ?_
  refine lv_aload_n hx hb dL_law_518 rfl (lv_at hl 3 rfl) ?_
  refine lv_iload_n hx hb dL_law_519 rfl (lv_at hl 0 rfl) ?_
  refine lv_iconst (v := 2) hx hb dL_law_520 (by decide) ?_
  refine lv_iadd hx hb dL_law_521 ?_
  refine lw_sldg hx hb hX hv_2 dL_law_522 ?_
  refine th_Vi (A := fun q => B ≤ q) (As := [.int (xs (i + 1).toNatClampNeg), .int (xs (i + 2).toNatClampNeg)]) (rest := []) E hml hl.1 (z_X11_end l D cI cS (tq B 0 178) (rq B) hWX H hTX (B + 0) (xs (i + 1).toNatClampNeg) (xs (i + 2).toNatClampNeg) (ttX B)) lk_L_80 yd_X11_end hTX (ttX B) rfl (by decide) ⟨rfl, fun _ _ => rfl, hlo⟩ (fun q h => (at_in h).1) ⟨Nat.le_of_ble_eq_true rfl, Nat.le_of_ble_eq_true rfl⟩ (Nat.le_of_ble_eq_true rfl) ⟨Nat.le_of_ble_eq_true rfl, Nat.le_of_ble_eq_true rfl⟩ rfl dL_law_523 (fun r_1 H_1 locs_1 p_1 hT_1 hk_1 hS_1 => ?_)
  have hX_1 : va_X b L xs s H_1 := hX.kept (hS_1.2.1 b (Nat.not_le.mpr hbB))
  have kM : ∀ q, B + 178 ≤ q → H_1[q]? = H[q]? := fun q hq => hk_1 q (fun h => by have := (at_in h).2; omega)
  have hTX := hT_1
  have hTM := hTM.same (H1 := H_1) (fun q t h => kM q (by obtain ⟨j, rfl, z1, -, -⟩ := tq_some h; omega))
  have hMa := hM0.kept (H1 := H_1) kM
  have hMb := hMa.mono (N1 := n + 1) (by omega)
  have e5 : fi D 12 5 H_1 (B + 178) = fi D 12 5 H (B + 178) := fi_q (kM _ (by omega))
  have hX9_1 : TX D (rq B) T k H_1 (rq B (B + 0) 0) := hX9.q (hk_1 _ (AT.out (t := 9) ttT (by decide))) (hk_1 _ (AT.out (t := 300) ttR (by decide)))
  have hX12 : RX D (rq B) T k H_1 (B + 178) := hX12.q (fi_q (kM _ (by omega))) (kM _ (by rw [qn_178_4]; omega))
  refine lv_pop hx hb dL_law_526 rfl ?_
  refine lv_aload_n hx hb dL_law_527 rfl (lv_at hl 1 rfl) ?_
  refine lv_aload_n hx hb dL_law_528 rfl (lv_at hl 3 rfl) ?_
  refine lv_iload_n hx hb dL_law_529 rfl (lv_at hl 0 rfl) ?_
  refine lv_iconst (v := 1) hx hb dL_law_530 (by decide) ?_
  refine lv_iadd hx hb dL_law_531 ?_
  refine lw_sldg hx hb hX_1 hv_1 dL_law_532 ?_
  refine th_topi he ?_
  refine lv_aload_n hx hb dL_law_533 rfl (lv_at hl 3 rfl) ?_
  refine lv_iload_n hx hb dL_law_534 rfl (lv_at hl 0 rfl) ?_
  refine lv_iconst (v := 2) hx hb dL_law_535 (by decide) ?_
  refine lv_iadd hx hb dL_law_536 ?_
  refine lw_sldg hx hb hX_1 hv_2 dL_law_537 ?_
  refine th_Vi (A := fun q => B ≤ q) (As := [.int 1, .int (xs (i + 2).toNatClampNeg)]) (rest := []) E hml hl.1 (y_end_v2 l D cI cS (tq B 178 186) (rq B) hWM H_1 hTM (B + 178) (xs (i + 2).toNatClampNeg) (ttM B) (n + 1) (by omega) hn1 hMb) lk_L_83 yd_X12_end hTM (ttM B) rfl (by decide) ⟨rfl, fun _ _ => rfl, hS_1.2.2⟩ (fun q h => h.elim) ⟨Nat.le_of_ble_eq_true rfl, Nat.le_of_ble_eq_true rfl⟩ (Nat.le_of_ble_eq_true rfl) ⟨Nat.le_of_ble_eq_true rfl, Nat.le_of_ble_eq_true rfl⟩ rfl dL_law_538 (fun r_2 H_2 locs_2 p_2 hT_2 hk_2 hS_2 => ?_)
  have hX_2 : va_X b L xs s H_2 := hX_1.kept (hS_2.2.1 b (Nat.not_le.mpr hbB))
  have kX : ∀ q, q < B + 178 → H_2[q]? = H_1[q]? := fun q hq => hk_2 q (fun h => h.elim)
  have hTX := hTX.same (H1 := H_2) (fun q t h => kX q (by obtain ⟨j, rfl, -, z1, -⟩ := tq_some h; omega))
  have hX9_2 : TX D (rq B) _ _ H_2 (rq B (B + 0) 0) := hX9_1.q (kX _ (by rw [qx_1]; omega)) (kX _ (by rw [qx_16]; omega))
  have hu : H_1 = H_2 := p_2
  have hMc : IM D (rq B) (n + 1) H_2 (B + 178) := hu ▸ hMb
  have hX12_2 : RX D (rq B) T k H_2 (B + 178) := hu ▸ hX12
  have hLV2 : LV D cI cS B (n + 1) H_2 := ⟨hTX, hT_2, hMc, _, _, hX9_2, hX12_2⟩
  refine lv_pop hx hb dL_law_541 rfl ?_
  refine lv_goto (tgt := 766) hx hb dL_law_542 (by decide) ?_
  exact kk H_2 locs_2 hS_2.2.2 hX_2 hLV2
set_option maxHeartbeats 4000000 in
set_option maxRecDepth 100000 in
theorem v_end_bad (E : EE p s m args c cL_law RL D cI cS) (hml : c.maxLocals = 4) (hl : lv_has ls 4 [(3, .int i), (2, .ref (B + 178)), (1, .ref (B + 0)), (0, .ref b)]) (hWX : WF (tq B 0 178) (rq B)) (hWM : WF (tq B 178 186) (rq B)) (hLV : LV D cI cS B n H) (hn0 : 0 ≤ n) (hn1 : n + 1 ≤ 600) (hi0 : 0 ≤ i.toInt) (hi1 : i.toInt + 4 ≤ L) (hL : L ≤ 2048) (hX : va_X b L xs s H) (hbB : b < B) (hlo : ∀ x ∈ locs, B ≤ x.base) (he : (xs (i + 1).toNatClampNeg).toInt < 0 ∨ 1 < (xs (i + 1).toNatClampNeg).toInt) (kk : KL p l e s m args below meth c ls Q D cI cS n B b L xs) : WL p l e s m args below meth c H locs ls Q 512 := by
  obtain ⟨hTX, hTM, hM0, T, k, hX9, hX12⟩ := hLV
  have hx := E.1
  have hb := E.2.1
  have hv_1 : vp_in (i + 1) L := idx_in (k := 1) (by decide) (by decide) hi0 (by omega) hL
  have hv_2 : vp_in (i + 2) L := idx_in (k := 2) (by decide) (by decide) hi0 (by omega) hL
  have hv_3 : vp_in (i + 3) L := idx_in (k := 3) (by decide) (by decide) hi0 (by omega) hL
  refine lv_aload_n hx hb dL_law_512 rfl (lv_at hl 2 rfl) ?_
  refine lv_aload_n hx hb dL_law_513 rfl (lv_at hl 3 rfl) ?_
  refine lv_iload_n hx hb dL_law_514 rfl (lv_at hl 0 rfl) ?_
  refine lv_iconst (v := 1) hx hb dL_law_515 (by decide) ?_
  refine lv_iadd hx hb dL_law_516 ?_
  refine lw_sldg hx hb hX hv_1 dL_law_517 ?_
  refine lv_aload_n hx hb dL_law_518 rfl (lv_at hl 3 rfl) ?_
  refine lv_iload_n hx hb dL_law_519 rfl (lv_at hl 0 rfl) ?_
  refine lv_iconst (v := 2) hx hb dL_law_520 (by decide) ?_
  refine lv_iadd hx hb dL_law_521 ?_
  refine lw_sldg hx hb hX hv_2 dL_law_522 ?_
  refine th_Vi (A := fun q => B ≤ q) (As := [.int (xs (i + 1).toNatClampNeg), .int (xs (i + 2).toNatClampNeg)]) (rest := []) E hml hl.1 (z_X11_end l D cI cS (tq B 0 178) (rq B) hWX H hTX (B + 0) (xs (i + 1).toNatClampNeg) (xs (i + 2).toNatClampNeg) (ttX B)) lk_L_80 yd_X11_end hTX (ttX B) rfl (by decide) ⟨rfl, fun _ _ => rfl, hlo⟩ (fun q h => (at_in h).1) ⟨Nat.le_of_ble_eq_true rfl, Nat.le_of_ble_eq_true rfl⟩ (Nat.le_of_ble_eq_true rfl) ⟨Nat.le_of_ble_eq_true rfl, Nat.le_of_ble_eq_true rfl⟩ rfl dL_law_523 (fun r_1 H_1 locs_1 p_1 hT_1 hk_1 hS_1 => ?_)
  have hX_1 : va_X b L xs s H_1 := hX.kept (hS_1.2.1 b (Nat.not_le.mpr hbB))
  have kM : ∀ q, B + 178 ≤ q → H_1[q]? = H[q]? := fun q hq => hk_1 q (fun h => by have := (at_in h).2; omega)
  have hTX := hT_1
  have hTM := hTM.same (H1 := H_1) (fun q t h => kM q (by obtain ⟨j, rfl, z1, -, -⟩ := tq_some h; omega))
  have hMa := hM0.kept (H1 := H_1) kM
  have hMb := hMa.mono (N1 := n + 1) (by omega)
  have e5 : fi D 12 5 H_1 (B + 178) = fi D 12 5 H (B + 178) := fi_q (kM _ (by omega))
  have hX9_1 : TX D (rq B) T k H_1 (rq B (B + 0) 0) := hX9.q (hk_1 _ (AT.out (t := 9) ttT (by decide))) (hk_1 _ (AT.out (t := 300) ttR (by decide)))
  have hX12 : RX D (rq B) T k H_1 (B + 178) := hX12.q (fi_q (kM _ (by omega))) (kM _ (by rw [qn_178_4]; omega))
  refine lv_pop hx hb dL_law_526 rfl ?_
  refine lv_aload_n hx hb dL_law_527 rfl (lv_at hl 1 rfl) ?_
  refine lv_aload_n hx hb dL_law_528 rfl (lv_at hl 3 rfl) ?_
  refine lv_iload_n hx hb dL_law_529 rfl (lv_at hl 0 rfl) ?_
  refine lv_iconst (v := 1) hx hb dL_law_530 (by decide) ?_
  refine lv_iadd hx hb dL_law_531 ?_
  refine lw_sldg hx hb hX_1 hv_1 dL_law_532 ?_
  refine lv_aload_n hx hb dL_law_533 rfl (lv_at hl 3 rfl) ?_
  refine lv_iload_n hx hb dL_law_534 rfl (lv_at hl 0 rfl) ?_
  refine lv_iconst (v := 2) hx hb dL_law_535 (by decide) ?_
  refine lv_iadd hx hb dL_law_536 ?_
  refine lw_sldg hx hb hX_1 hv_2 dL_law_537 ?_
  refine th_Vi (A := fun q => B ≤ q) (As := [.int (xs (i + 1).toNatClampNeg), .int (xs (i + 2).toNatClampNeg)]) (rest := []) E hml hl.1 (y_end_v3 l D cI cS (tq B 178 186) (rq B) hWM H_1 hTM (B + 178) (xs (i + 1).toNatClampNeg) (xs (i + 2).toNatClampNeg) (ttM B) (n + 1) (by omega) hn1 hMb he) lk_L_83 yd_X12_end hTM (ttM B) rfl (by decide) ⟨rfl, fun _ _ => rfl, hS_1.2.2⟩ (fun q h => h.elim) ⟨Nat.le_of_ble_eq_true rfl, Nat.le_of_ble_eq_true rfl⟩ (Nat.le_of_ble_eq_true rfl) ⟨Nat.le_of_ble_eq_true rfl, Nat.le_of_ble_eq_true rfl⟩ rfl dL_law_538 (fun r_2 H_2 locs_2 p_2 hT_2 hk_2 hS_2 => ?_)
  have hX_2 : va_X b L xs s H_2 := hX_1.kept (hS_2.2.1 b (Nat.not_le.mpr hbB))
  have kX : ∀ q, q < B + 178 → H_2[q]? = H_1[q]? := fun q hq => hk_2 q (fun h => h.elim)
  have hTX := hTX.same (H1 := H_2) (fun q t h => kX q (by obtain ⟨j, rfl, -, z1, -⟩ := tq_some h; omega))
  have hX9_2 : TX D (rq B) _ _ H_2 (rq B (B + 0) 0) := hX9_1.q (kX _ (by rw [qx_1]; omega)) (kX _ (by rw [qx_16]; omega))
  have hu : H_1 = H_2 := p_2
  have hMc : IM D (rq B) (n + 1) H_2 (B + 178) := hu ▸ hMb
  have hX12_2 : RX D (rq B) T k H_2 (B + 178) := hu ▸ hX12
  have hLV2 : LV D cI cS B (n + 1) H_2 := ⟨hTX, hT_2, hMc, _, _, hX9_2, hX12_2⟩
  refine lv_pop hx hb dL_law_541 rfl ?_
  refine lv_goto (tgt := 766) hx hb dL_law_542 (by decide) ?_
  exact kk H_2 locs_2 hS_2.2.2 hX_2 hLV2
theorem v_end (E : EE p s m args c cL_law RL D cI cS) (hml : c.maxLocals = 4) (hl : lv_has ls 4 [(3, .int i), (2, .ref (B + 178)), (1, .ref (B + 0)), (0, .ref b)]) (hWX : WF (tq B 0 178) (rq B)) (hWM : WF (tq B 178 186) (rq B)) (hLV : LV D cI cS B n H) (hn0 : 0 ≤ n) (hn1 : n + 1 ≤ 600) (hi0 : 0 ≤ i.toInt) (hi1 : i.toInt + 4 ≤ L) (hL : L ≤ 2048) (hX : va_X b L xs s H) (hbB : b < B) (hlo : ∀ x ∈ locs, B ≤ x.base) (kk : KL p l e s m args below meth c ls Q D cI cS n B b L xs) : WL p l e s m args below meth c H locs ls Q 512 := by
  rcases (show (xs (i + 1).toNatClampNeg).toInt = 0 ∨ (xs (i + 1).toNatClampNeg).toInt = 1 ∨ ((xs (i + 1).toNatClampNeg).toInt < 0 ∨ 1 < (xs (i + 1).toNatClampNeg).toInt) by omega) with h | h | h
  · exact v_end_0 E hml hl hWX hWM hLV hn0 hn1 hi0 hi1 hL hX hbB hlo (i_eqc h (by decide)) kk
  · exact v_end_1 E hml hl hWX hWM hLV hn0 hn1 hi0 hi1 hL hX hbB hlo (i_eqc h (by decide)) kk
  · exact v_end_bad E hml hl hWX hWM hLV hn0 hn1 hi0 hi1 hL hX hbB hlo h kk
set_option maxHeartbeats 4000000 in
set_option maxRecDepth 100000 in
theorem v_sample_0 (E : EE p s m args c cL_law RL D cI cS) (hml : c.maxLocals = 4) (hl : lv_has ls 4 [(3, .int i), (2, .ref (B + 178)), (1, .ref (B + 0)), (0, .ref b)]) (hWX : WF (tq B 0 178) (rq B)) (hWM : WF (tq B 178 186) (rq B)) (hLV : LV D cI cS B n H) (hn0 : 0 ≤ n) (hn1 : n + 1 ≤ 600) (hi0 : 0 ≤ i.toInt) (hi1 : i.toInt + 4 ≤ L) (hL : L ≤ 2048) (hX : va_X b L xs s H) (hbB : b < B) (hlo : ∀ x ∈ locs, B ≤ x.base) (he : (xs (i + 1).toNatClampNeg) = 0) (kk : KL p l e s m args below meth c ls Q D cI cS n B b L xs) : WL p l e s m args below meth c H locs ls Q 545 := by
  obtain ⟨hTX, hTM, hM0, T, k, hX9, hX12⟩ := hLV
  have hx := E.1
  have hb := E.2.1
  have hv_1 : vp_in (i + 1) L := idx_in (k := 1) (by decide) (by decide) hi0 (by omega) hL
  have hv_2 : vp_in (i + 2) L := idx_in (k := 2) (by decide) (by decide) hi0 (by omega) hL
  have hv_3 : vp_in (i + 3) L := idx_in (k := 3) (by decide) (by decide) hi0 (by omega) hL
  refine lv_aload_n hx hb dL_law_545 rfl (lv_at hl 2 rfl) ?_
  refine lv_aload_n hx hb dL_law_546 rfl (lv_at hl 3 rfl) ?_
  refine lv_iload_n hx hb dL_law_547 rfl (lv_at hl 0 rfl) ?_
  refine lv_iconst (v := 1) hx hb dL_law_548 (by decide) ?_
  refine lv_iadd hx hb dL_law_549 ?_
  refine lw_sldg hx hb hX hv_1 dL_law_550 ?_
  refine lv_aload_n hx hb dL_law_551 rfl (lv_at hl 3 rfl) ?_
  refine lv_iload_n hx hb dL_law_552 rfl (lv_at hl 0 rfl) ?_
  refine lv_iconst (v := 2) hx hb dL_law_553 (by decide) ?_
  refine lv_iadd hx hb dL_law_554 ?_
  refine lw_sldg hx hb hX hv_2 dL_law_555 ?_
  refine th_Vi (A := fun q => B ≤ q) (As := [.int (xs (i + 1).toNatClampNeg), .int (xs (i + 2).toNatClampNeg)]) (rest := []) E hml hl.1 (z_X11_sample l D cI cS (tq B 0 178) (rq B) hWX H hTX (B + 0) (xs (i + 1).toNatClampNeg) (xs (i + 2).toNatClampNeg) (ttX B)) lk_L_84 yd_X11_sample hTX (ttX B) rfl (by decide) ⟨rfl, fun _ _ => rfl, hlo⟩ (fun q h => (at_in h).1) ⟨Nat.le_of_ble_eq_true rfl, Nat.le_of_ble_eq_true rfl⟩ (Nat.le_of_ble_eq_true rfl) ⟨Nat.le_of_ble_eq_true rfl, Nat.le_of_ble_eq_true rfl⟩ rfl dL_law_556 (fun r_1 H_1 locs_1 p_1 hT_1 hk_1 hS_1 => ?_)
  have hX_1 : va_X b L xs s H_1 := hX.kept (hS_1.2.1 b (Nat.not_le.mpr hbB))
  have kM : ∀ q, B + 178 ≤ q → H_1[q]? = H[q]? := fun q hq => hk_1 q (fun h => by have := (at_in h).2; omega)
  have hTX := hT_1
  have hTM := hTM.same (H1 := H_1) (fun q t h => kM q (by obtain ⟨j, rfl, z1, -, -⟩ := tq_some h; omega))
  have hMa := hM0.kept (H1 := H_1) kM
  have hMb := hMa.mono (N1 := n + 1) (by omega)
  have e5 : fi D 12 5 H_1 (B + 178) = fi D 12 5 H (B + 178) := fi_q (kM _ (by omega))
  have hX9_1 : TX D (rq B) T k H_1 (rq B (B + 0) 0) := hX9.q (hk_1 _ (AT.out (t := 9) ttT (by decide))) (hk_1 _ (AT.out (t := 300) ttR (by decide)))
  have hX12 : RX D (rq B) T k H_1 (B + 178) := hX12.q (fi_q (kM _ (by omega))) (kM _ (by rw [qn_178_4]; omega))
  refine lv_pop hx hb dL_law_559 rfl ?_
  refine lv_aload_n hx hb dL_law_560 rfl (lv_at hl 1 rfl) ?_
  refine lv_aload_n hx hb dL_law_561 rfl (lv_at hl 3 rfl) ?_
  refine lv_iload_n hx hb dL_law_562 rfl (lv_at hl 0 rfl) ?_
  refine lv_iconst (v := 1) hx hb dL_law_563 (by decide) ?_
  refine lv_iadd hx hb dL_law_564 ?_
  refine lw_sldg hx hb hX_1 hv_1 dL_law_565 ?_
  refine th_topi he ?_
  refine lv_aload_n hx hb dL_law_566 rfl (lv_at hl 3 rfl) ?_
  refine lv_iload_n hx hb dL_law_567 rfl (lv_at hl 0 rfl) ?_
  refine lv_iconst (v := 2) hx hb dL_law_568 (by decide) ?_
  refine lv_iadd hx hb dL_law_569 ?_
  refine lw_sldg hx hb hX_1 hv_2 dL_law_570 ?_
  refine th_Vi (A := fun q => B ≤ q) (As := [.int 0, .int (xs (i + 2).toNatClampNeg)]) (rest := []) E hml hl.1 (y_sample l D cI cS (tq B 178 186) (rq B) hWM H_1 hTM (B + 178) (xs (i + 2).toNatClampNeg) (ttM B) (n + 1) (by omega) hn1 hMb) lk_L_87 yd_X12_sample hTM (ttM B) rfl (by decide) ⟨rfl, fun _ _ => rfl, hS_1.2.2⟩ (fun q h => h.elim) ⟨Nat.le_of_ble_eq_true rfl, Nat.le_of_ble_eq_true rfl⟩ (Nat.le_of_ble_eq_true rfl) ⟨Nat.le_of_ble_eq_true rfl, Nat.le_of_ble_eq_true rfl⟩ rfl dL_law_571 (fun r_2 H_2 locs_2 p_2 hT_2 hk_2 hS_2 => ?_)
  have hX_2 : va_X b L xs s H_2 := hX_1.kept (hS_2.2.1 b (Nat.not_le.mpr hbB))
  have kX : ∀ q, q < B + 178 → H_2[q]? = H_1[q]? := fun q hq => hk_2 q (fun h => h.elim)
  have hTX := hTX.same (H1 := H_2) (fun q t h => kX q (by obtain ⟨j, rfl, -, z1, -⟩ := tq_some h; omega))
  have hX9_2 : TX D (rq B) _ _ H_2 (rq B (B + 0) 0) := hX9_1.q (kX _ (by rw [qx_1]; omega)) (kX _ (by rw [qx_16]; omega))
  have hu : H_1 = H_2 := p_2
  have hMc : IM D (rq B) (n + 1) H_2 (B + 178) := hu ▸ hMb
  have hX12_2 : RX D (rq B) T k H_2 (B + 178) := hu ▸ hX12
  have hLV2 : LV D cI cS B (n + 1) H_2 := ⟨hTX, hT_2, hMc, _, _, hX9_2, hX12_2⟩
  refine lv_pop hx hb dL_law_574 rfl ?_
  refine lv_goto (tgt := 766) hx hb dL_law_575 (by decide) ?_
  exact kk H_2 locs_2 hS_2.2.2 hX_2 hLV2
set_option maxHeartbeats 4000000 in
set_option maxRecDepth 100000 in
theorem v_sample_1 (E : EE p s m args c cL_law RL D cI cS) (hml : c.maxLocals = 4) (hl : lv_has ls 4 [(3, .int i), (2, .ref (B + 178)), (1, .ref (B + 0)), (0, .ref b)]) (hWX : WF (tq B 0 178) (rq B)) (hWM : WF (tq B 178 186) (rq B)) (hLV : LV D cI cS B n H) (hn0 : 0 ≤ n) (hn1 : n + 1 ≤ 600) (hi0 : 0 ≤ i.toInt) (hi1 : i.toInt + 4 ≤ L) (hL : L ≤ 2048) (hX : va_X b L xs s H) (hbB : b < B) (hlo : ∀ x ∈ locs, B ≤ x.base) (he : (xs (i + 1).toNatClampNeg) = 1) (kk : KL p l e s m args below meth c ls Q D cI cS n B b L xs) : WL p l e s m args below meth c H locs ls Q 545 := by
  obtain ⟨hTX, hTM, hM0, T, k, hX9, hX12⟩ := hLV
  have hx := E.1
  have hb := E.2.1
  have hv_1 : vp_in (i + 1) L := idx_in (k := 1) (by decide) (by decide) hi0 (by omega) hL
  have hv_2 : vp_in (i + 2) L := idx_in (k := 2) (by decide) (by decide) hi0 (by omega) hL
  have hv_3 : vp_in (i + 3) L := idx_in (k := 3) (by decide) (by decide) hi0 (by omega) hL
  refine lv_aload_n hx hb dL_law_545 rfl (lv_at hl 2 rfl) ?_
  refine lv_aload_n hx hb dL_law_546 rfl (lv_at hl 3 rfl) ?_
  refine lv_iload_n hx hb dL_law_547 rfl (lv_at hl 0 rfl) ?_
  refine lv_iconst (v := 1) hx hb dL_law_548 (by decide) ?_
  refine lv_iadd hx hb dL_law_549 ?_
  refine lw_sldg hx hb hX hv_1 dL_law_550 ?_
  refine lv_aload_n hx hb dL_law_551 rfl (lv_at hl 3 rfl) ?_
  refine lv_iload_n hx hb dL_law_552 rfl (lv_at hl 0 rfl) ?_
  refine lv_iconst (v := 2) hx hb dL_law_553 (by decide) ?_
  refine lv_iadd hx hb dL_law_554 ?_
  refine lw_sldg hx hb hX hv_2 dL_law_555 ?_
  refine th_Vi (A := fun q => B ≤ q) (As := [.int (xs (i + 1).toNatClampNeg), .int (xs (i + 2).toNatClampNeg)]) (rest := []) E hml hl.1 (z_X11_sample l D cI cS (tq B 0 178) (rq B) hWX H hTX (B + 0) (xs (i + 1).toNatClampNeg) (xs (i + 2).toNatClampNeg) (ttX B)) lk_L_84 yd_X11_sample hTX (ttX B) rfl (by decide) ⟨rfl, fun _ _ => rfl, hlo⟩ (fun q h => (at_in h).1) ⟨Nat.le_of_ble_eq_true rfl, Nat.le_of_ble_eq_true rfl⟩ (Nat.le_of_ble_eq_true rfl) ⟨Nat.le_of_ble_eq_true rfl, Nat.le_of_ble_eq_true rfl⟩ rfl dL_law_556 (fun r_1 H_1 locs_1 p_1 hT_1 hk_1 hS_1 => ?_)
  have hX_1 : va_X b L xs s H_1 := hX.kept (hS_1.2.1 b (Nat.not_le.mpr hbB))
  have kM : ∀ q, B + 178 ≤ q → H_1[q]? = H[q]? := fun q hq => hk_1 q (fun h => by have := (at_in h).2; omega)
  have hTX := hT_1
  have hTM := hTM.same (H1 := H_1) (fun q t h => kM q (by obtain ⟨j, rfl, z1, -, -⟩ := tq_some h; omega))
  have hMa := hM0.kept (H1 := H_1) kM
  have hMb := hMa.mono (N1 := n + 1) (by omega)
  have e5 : fi D 12 5 H_1 (B + 178) = fi D 12 5 H (B + 178) := fi_q (kM _ (by omega))
  have hX9_1 : TX D (rq B) T k H_1 (rq B (B + 0) 0) := hX9.q (hk_1 _ (AT.out (t := 9) ttT (by decide))) (hk_1 _ (AT.out (t := 300) ttR (by decide)))
  have hX12 : RX D (rq B) T k H_1 (B + 178) := hX12.q (fi_q (kM _ (by omega))) (kM _ (by rw [qn_178_4]; omega))
  refine lv_pop hx hb dL_law_559 rfl ?_
  refine lv_aload_n hx hb dL_law_560 rfl (lv_at hl 1 rfl) ?_
  refine lv_aload_n hx hb dL_law_561 rfl (lv_at hl 3 rfl) ?_
  refine lv_iload_n hx hb dL_law_562 rfl (lv_at hl 0 rfl) ?_
  refine lv_iconst (v := 1) hx hb dL_law_563 (by decide) ?_
  refine lv_iadd hx hb dL_law_564 ?_
  refine lw_sldg hx hb hX_1 hv_1 dL_law_565 ?_
  refine th_topi he ?_
  refine lv_aload_n hx hb dL_law_566 rfl (lv_at hl 3 rfl) ?_
  refine lv_iload_n hx hb dL_law_567 rfl (lv_at hl 0 rfl) ?_
  refine lv_iconst (v := 2) hx hb dL_law_568 (by decide) ?_
  refine lv_iadd hx hb dL_law_569 ?_
  refine lw_sldg hx hb hX_1 hv_2 dL_law_570 ?_
  refine th_Vi (A := fun q => B ≤ q) (As := [.int 1, .int (xs (i + 2).toNatClampNeg)]) (rest := []) E hml hl.1 (y_sample_v2 l D cI cS (tq B 178 186) (rq B) hWM H_1 hTM (B + 178) (xs (i + 2).toNatClampNeg) (ttM B) (n + 1) (by omega) hn1 hMb) lk_L_87 yd_X12_sample hTM (ttM B) rfl (by decide) ⟨rfl, fun _ _ => rfl, hS_1.2.2⟩ (fun q h => h.elim) ⟨Nat.le_of_ble_eq_true rfl, Nat.le_of_ble_eq_true rfl⟩ (Nat.le_of_ble_eq_true rfl) ⟨Nat.le_of_ble_eq_true rfl, Nat.le_of_ble_eq_true rfl⟩ rfl dL_law_571 (fun r_2 H_2 locs_2 p_2 hT_2 hk_2 hS_2 => ?_)
  have hX_2 : va_X b L xs s H_2 := hX_1.kept (hS_2.2.1 b (Nat.not_le.mpr hbB))
  have kX : ∀ q, q < B + 178 → H_2[q]? = H_1[q]? := fun q hq => hk_2 q (fun h => h.elim)
  have hTX := hTX.same (H1 := H_2) (fun q t h => kX q (by obtain ⟨j, rfl, -, z1, -⟩ := tq_some h; omega))
  have hX9_2 : TX D (rq B) _ _ H_2 (rq B (B + 0) 0) := hX9_1.q (kX _ (by rw [qx_1]; omega)) (kX _ (by rw [qx_16]; omega))
  have hu : H_1 = H_2 := p_2
  have hMc : IM D (rq B) (n + 1) H_2 (B + 178) := hu ▸ hMb
  have hX12_2 : RX D (rq B) T k H_2 (B + 178) := hu ▸ hX12
  have hLV2 : LV D cI cS B (n + 1) H_2 := ⟨hTX, hT_2, hMc, _, _, hX9_2, hX12_2⟩
  refine lv_pop hx hb dL_law_574 rfl ?_
  refine lv_goto (tgt := 766) hx hb dL_law_575 (by decide) ?_
  exact kk H_2 locs_2 hS_2.2.2 hX_2 hLV2
set_option maxHeartbeats 4000000 in
set_option maxRecDepth 100000 in
theorem v_sample_bad (E : EE p s m args c cL_law RL D cI cS) (hml : c.maxLocals = 4) (hl : lv_has ls 4 [(3, .int i), (2, .ref (B + 178)), (1, .ref (B + 0)), (0, .ref b)]) (hWX : WF (tq B 0 178) (rq B)) (hWM : WF (tq B 178 186) (rq B)) (hLV : LV D cI cS B n H) (hn0 : 0 ≤ n) (hn1 : n + 1 ≤ 600) (hi0 : 0 ≤ i.toInt) (hi1 : i.toInt + 4 ≤ L) (hL : L ≤ 2048) (hX : va_X b L xs s H) (hbB : b < B) (hlo : ∀ x ∈ locs, B ≤ x.base) (he : (xs (i + 1).toNatClampNeg).toInt < 0 ∨ 1 < (xs (i + 1).toNatClampNeg).toInt) (kk : KL p l e s m args below meth c ls Q D cI cS n B b L xs) : WL p l e s m args below meth c H locs ls Q 545 := by
  obtain ⟨hTX, hTM, hM0, T, k, hX9, hX12⟩ := hLV
  have hx := E.1
  have hb := E.2.1
  have hv_1 : vp_in (i + 1) L := idx_in (k := 1) (by decide) (by decide) hi0 (by omega) hL
  have hv_2 : vp_in (i + 2) L := idx_in (k := 2) (by decide) (by decide) hi0 (by omega) hL
  have hv_3 : vp_in (i + 3) L := idx_in (k := 3) (by decide) (by decide) hi0 (by omega) hL
  refine lv_aload_n hx hb dL_law_545 rfl (lv_at hl 2 rfl) ?_
  refine lv_aload_n hx hb dL_law_546 rfl (lv_at hl 3 rfl) ?_
  refine lv_iload_n hx hb dL_law_547 rfl (lv_at hl 0 rfl) ?_
  refine lv_iconst (v := 1) hx hb dL_law_548 (by decide) ?_
  refine lv_iadd hx hb dL_law_549 ?_
  refine lw_sldg hx hb hX hv_1 dL_law_550 ?_
  refine lv_aload_n hx hb dL_law_551 rfl (lv_at hl 3 rfl) ?_
  refine lv_iload_n hx hb dL_law_552 rfl (lv_at hl 0 rfl) ?_
  refine lv_iconst (v := 2) hx hb dL_law_553 (by decide) ?_
  refine lv_iadd hx hb dL_law_554 ?_
  refine lw_sldg hx hb hX hv_2 dL_law_555 ?_
  refine th_Vi (A := fun q => B ≤ q) (As := [.int (xs (i + 1).toNatClampNeg), .int (xs (i + 2).toNatClampNeg)]) (rest := []) E hml hl.1 (z_X11_sample l D cI cS (tq B 0 178) (rq B) hWX H hTX (B + 0) (xs (i + 1).toNatClampNeg) (xs (i + 2).toNatClampNeg) (ttX B)) lk_L_84 yd_X11_sample hTX (ttX B) rfl (by decide) ⟨rfl, fun _ _ => rfl, hlo⟩ (fun q h => (at_in h).1) ⟨Nat.le_of_ble_eq_true rfl, Nat.le_of_ble_eq_true rfl⟩ (Nat.le_of_ble_eq_true rfl) ⟨Nat.le_of_ble_eq_true rfl, Nat.le_of_ble_eq_true rfl⟩ rfl dL_law_556 (fun r_1 H_1 locs_1 p_1 hT_1 hk_1 hS_1 => ?_)
  have hX_1 : va_X b L xs s H_1 := hX.kept (hS_1.2.1 b (Nat.not_le.mpr hbB))
  have kM : ∀ q, B + 178 ≤ q → H_1[q]? = H[q]? := fun q hq => hk_1 q (fun h => by have := (at_in h).2; omega)
  have hTX := hT_1
  have hTM := hTM.same (H1 := H_1) (fun q t h => kM q (by obtain ⟨j, rfl, z1, -, -⟩ := tq_some h; omega))
  have hMa := hM0.kept (H1 := H_1) kM
  have hMb := hMa.mono (N1 := n + 1) (by omega)
  have e5 : fi D 12 5 H_1 (B + 178) = fi D 12 5 H (B + 178) := fi_q (kM _ (by omega))
  have hX9_1 : TX D (rq B) T k H_1 (rq B (B + 0) 0) := hX9.q (hk_1 _ (AT.out (t := 9) ttT (by decide))) (hk_1 _ (AT.out (t := 300) ttR (by decide)))
  have hX12 : RX D (rq B) T k H_1 (B + 178) := hX12.q (fi_q (kM _ (by omega))) (kM _ (by rw [qn_178_4]; omega))
  refine lv_pop hx hb dL_law_559 rfl ?_
  refine lv_aload_n hx hb dL_law_560 rfl (lv_at hl 1 rfl) ?_
  refine lv_aload_n hx hb dL_law_561 rfl (lv_at hl 3 rfl) ?_
  refine lv_iload_n hx hb dL_law_562 rfl (lv_at hl 0 rfl) ?_
  refine lv_iconst (v := 1) hx hb dL_law_563 (by decide) ?_
  refine lv_iadd hx hb dL_law_564 ?_
  refine lw_sldg hx hb hX_1 hv_1 dL_law_565 ?_
  refine lv_aload_n hx hb dL_law_566 rfl (lv_at hl 3 rfl) ?_
  refine lv_iload_n hx hb dL_law_567 rfl (lv_at hl 0 rfl) ?_
  refine lv_iconst (v := 2) hx hb dL_law_568 (by decide) ?_
  refine lv_iadd hx hb dL_law_569 ?_
  refine lw_sldg hx hb hX_1 hv_2 dL_law_570 ?_
  refine th_Vi (A := fun q => B ≤ q) (As := [.int (xs (i + 1).toNatClampNeg), .int (xs (i + 2).toNatClampNeg)]) (rest := []) E hml hl.1 (y_sample_v3 l D cI cS (tq B 178 186) (rq B) hWM H_1 hTM (B + 178) (xs (i + 1).toNatClampNeg) (xs (i + 2).toNatClampNeg) (ttM B) (n + 1) (by omega) hn1 hMb he) lk_L_87 yd_X12_sample hTM (ttM B) rfl (by decide) ⟨rfl, fun _ _ => rfl, hS_1.2.2⟩ (fun q h => h.elim) ⟨Nat.le_of_ble_eq_true rfl, Nat.le_of_ble_eq_true rfl⟩ (Nat.le_of_ble_eq_true rfl) ⟨Nat.le_of_ble_eq_true rfl, Nat.le_of_ble_eq_true rfl⟩ rfl dL_law_571 (fun r_2 H_2 locs_2 p_2 hT_2 hk_2 hS_2 => ?_)
  have hX_2 : va_X b L xs s H_2 := hX_1.kept (hS_2.2.1 b (Nat.not_le.mpr hbB))
  have kX : ∀ q, q < B + 178 → H_2[q]? = H_1[q]? := fun q hq => hk_2 q (fun h => h.elim)
  have hTX := hTX.same (H1 := H_2) (fun q t h => kX q (by obtain ⟨j, rfl, -, z1, -⟩ := tq_some h; omega))
  have hX9_2 : TX D (rq B) _ _ H_2 (rq B (B + 0) 0) := hX9_1.q (kX _ (by rw [qx_1]; omega)) (kX _ (by rw [qx_16]; omega))
  have hu : H_1 = H_2 := p_2
  have hMc : IM D (rq B) (n + 1) H_2 (B + 178) := hu ▸ hMb
  have hX12_2 : RX D (rq B) T k H_2 (B + 178) := hu ▸ hX12
  have hLV2 : LV D cI cS B (n + 1) H_2 := ⟨hTX, hT_2, hMc, _, _, hX9_2, hX12_2⟩
  refine lv_pop hx hb dL_law_574 rfl ?_
  refine lv_goto (tgt := 766) hx hb dL_law_575 (by decide) ?_
  exact kk H_2 locs_2 hS_2.2.2 hX_2 hLV2
theorem v_sample (E : EE p s m args c cL_law RL D cI cS) (hml : c.maxLocals = 4) (hl : lv_has ls 4 [(3, .int i), (2, .ref (B + 178)), (1, .ref (B + 0)), (0, .ref b)]) (hWX : WF (tq B 0 178) (rq B)) (hWM : WF (tq B 178 186) (rq B)) (hLV : LV D cI cS B n H) (hn0 : 0 ≤ n) (hn1 : n + 1 ≤ 600) (hi0 : 0 ≤ i.toInt) (hi1 : i.toInt + 4 ≤ L) (hL : L ≤ 2048) (hX : va_X b L xs s H) (hbB : b < B) (hlo : ∀ x ∈ locs, B ≤ x.base) (kk : KL p l e s m args below meth c ls Q D cI cS n B b L xs) : WL p l e s m args below meth c H locs ls Q 545 := by
  rcases (show (xs (i + 1).toNatClampNeg).toInt = 0 ∨ (xs (i + 1).toNatClampNeg).toInt = 1 ∨ ((xs (i + 1).toNatClampNeg).toInt < 0 ∨ 1 < (xs (i + 1).toNatClampNeg).toInt) by omega) with h | h | h
  · exact v_sample_0 E hml hl hWX hWM hLV hn0 hn1 hi0 hi1 hL hX hbB hlo (i_eqc h (by decide)) kk
  · exact v_sample_1 E hml hl hWX hWM hLV hn0 hn1 hi0 hi1 hL hX hbB hlo (i_eqc h (by decide)) kk
  · exact v_sample_bad E hml hl hWX hWM hLV hn0 hn1 hi0 hi1 hL hX hbB hlo h kk
set_option maxHeartbeats 4000000 in
set_option maxRecDepth 100000 in
theorem v_span_0 (E : EE p s m args c cL_law RL D cI cS) (hml : c.maxLocals = 4) (hl : lv_has ls 4 [(3, .int i), (2, .ref (B + 178)), (1, .ref (B + 0)), (0, .ref b)]) (hWX : WF (tq B 0 178) (rq B)) (hWM : WF (tq B 178 186) (rq B)) (hLV : LV D cI cS B n H) (hn0 : 0 ≤ n) (hn1 : n + 1 ≤ 600) (hi0 : 0 ≤ i.toInt) (hi1 : i.toInt + 4 ≤ L) (hL : L ≤ 2048) (hX : va_X b L xs s H) (hbB : b < B) (hlo : ∀ x ∈ locs, B ≤ x.base) (he : (xs (i + 1).toNatClampNeg) = 0) (kk : KL p l e s m args below meth c ls Q D cI cS n B b L xs) : WL p l e s m args below meth c H locs ls Q 578 := by
  obtain ⟨hTX, hTM, hM0, T, k, hX9, hX12⟩ := hLV
  have hx := E.1
  have hb := E.2.1
  have hv_1 : vp_in (i + 1) L := idx_in (k := 1) (by decide) (by decide) hi0 (by omega) hL
  have hv_2 : vp_in (i + 2) L := idx_in (k := 2) (by decide) (by decide) hi0 (by omega) hL
  have hv_3 : vp_in (i + 3) L := idx_in (k := 3) (by decide) (by decide) hi0 (by omega) hL
  refine lv_aload_n hx hb dL_law_578 rfl (lv_at hl 2 rfl) ?_
  refine lv_aload_n hx hb dL_law_579 rfl (lv_at hl 3 rfl) ?_
  refine lv_iload_n hx hb dL_law_580 rfl (lv_at hl 0 rfl) ?_
  refine lv_iconst (v := 1) hx hb dL_law_581 (by decide) ?_
  refine lv_iadd hx hb dL_law_582 ?_
  refine lw_sldg hx hb hX hv_1 dL_law_583 ?_
  refine lv_aload_n hx hb dL_law_584 rfl (lv_at hl 3 rfl) ?_
  refine lv_iload_n hx hb dL_law_585 rfl (lv_at hl 0 rfl) ?_
  refine lv_iconst (v := 2) hx hb dL_law_586 (by decide) ?_
  refine lv_iadd hx hb dL_law_587 ?_
  refine lw_sldg hx hb hX hv_2 dL_law_588 ?_
  refine lv_aload_n hx hb dL_law_589 rfl (lv_at hl 3 rfl) ?_
  refine lv_iload_n hx hb dL_law_590 rfl (lv_at hl 0 rfl) ?_
  refine lv_iconst (v := 3) hx hb dL_law_591 (by decide) ?_
  refine lv_iadd hx hb dL_law_592 ?_
  refine lw_sldg hx hb hX hv_3 dL_law_593 ?_
  refine th_Vi (A := fun q => B ≤ q) (As := [.int (xs (i + 1).toNatClampNeg), .int (xs (i + 2).toNatClampNeg), .int (xs (i + 3).toNatClampNeg)]) (rest := []) E hml hl.1 (z_X11_span l D cI cS (tq B 0 178) (rq B) hWX H hTX (B + 0) (xs (i + 1).toNatClampNeg) (xs (i + 2).toNatClampNeg) (xs (i + 3).toNatClampNeg) (ttX B)) lk_L_88 yd_X11_span hTX (ttX B) rfl (by decide) ⟨rfl, fun _ _ => rfl, hlo⟩ (fun q h => (at_in h).1) ⟨Nat.le_of_ble_eq_true rfl, Nat.le_of_ble_eq_true rfl⟩ (Nat.le_of_ble_eq_true rfl) ⟨Nat.le_of_ble_eq_true rfl, Nat.le_of_ble_eq_true rfl⟩ rfl dL_law_594 (fun r_1 H_1 locs_1 p_1 hT_1 hk_1 hS_1 => ?_)
  have hX_1 : va_X b L xs s H_1 := hX.kept (hS_1.2.1 b (Nat.not_le.mpr hbB))
  have kM : ∀ q, B + 178 ≤ q → H_1[q]? = H[q]? := fun q hq => hk_1 q (fun h => by have := (at_in h).2; omega)
  have hTX := hT_1
  have hTM := hTM.same (H1 := H_1) (fun q t h => kM q (by obtain ⟨j, rfl, z1, -, -⟩ := tq_some h; omega))
  have hMa := hM0.kept (H1 := H_1) kM
  have hMb := hMa.mono (N1 := n + 1) (by omega)
  have e5 : fi D 12 5 H_1 (B + 178) = fi D 12 5 H (B + 178) := fi_q (kM _ (by omega))
  have hX9_1 : TX D (rq B) T k H_1 (rq B (B + 0) 0) := hX9.q (hk_1 _ (AT.out (t := 9) ttT (by decide))) (hk_1 _ (AT.out (t := 300) ttR (by decide)))
  have hX12 : RX D (rq B) T k H_1 (B + 178) := hX12.q (fi_q (kM _ (by omega))) (kM _ (by rw [qn_178_4]; omega))
  refine lv_pop hx hb dL_law_597 rfl ?_
  refine lv_aload_n hx hb dL_law_598 rfl (lv_at hl 1 rfl) ?_
  refine lv_aload_n hx hb dL_law_599 rfl (lv_at hl 3 rfl) ?_
  refine lv_iload_n hx hb dL_law_600 rfl (lv_at hl 0 rfl) ?_
  refine lv_iconst (v := 1) hx hb dL_law_601 (by decide) ?_
  refine lv_iadd hx hb dL_law_602 ?_
  refine lw_sldg hx hb hX_1 hv_1 dL_law_603 ?_
  refine th_topi he ?_
  refine lv_aload_n hx hb dL_law_604 rfl (lv_at hl 3 rfl) ?_
  refine lv_iload_n hx hb dL_law_605 rfl (lv_at hl 0 rfl) ?_
  refine lv_iconst (v := 2) hx hb dL_law_606 (by decide) ?_
  refine lv_iadd hx hb dL_law_607 ?_
  refine lw_sldg hx hb hX_1 hv_2 dL_law_608 ?_
  refine lv_aload_n hx hb dL_law_609 rfl (lv_at hl 3 rfl) ?_
  refine lv_iload_n hx hb dL_law_610 rfl (lv_at hl 0 rfl) ?_
  refine lv_iconst (v := 3) hx hb dL_law_611 (by decide) ?_
  refine lv_iadd hx hb dL_law_612 ?_
  refine lw_sldg hx hb hX_1 hv_3 dL_law_613 ?_
  refine th_Vi (A := fun q => B ≤ q) (As := [.int 0, .int (xs (i + 2).toNatClampNeg), .int (xs (i + 3).toNatClampNeg)]) (rest := []) E hml hl.1 (y_span l D cI cS (tq B 178 186) (rq B) hWM H_1 hTM (B + 178) (xs (i + 2).toNatClampNeg) (xs (i + 3).toNatClampNeg) (ttM B) (n + 1) (by omega) hn1 hMb) lk_L_92 yd_X12_span hTM (ttM B) rfl (by decide) ⟨rfl, fun _ _ => rfl, hS_1.2.2⟩ (fun q h => h.elim) ⟨Nat.le_of_ble_eq_true rfl, Nat.le_of_ble_eq_true rfl⟩ (Nat.le_of_ble_eq_true rfl) ⟨Nat.le_of_ble_eq_true rfl, Nat.le_of_ble_eq_true rfl⟩ rfl dL_law_614 (fun r_2 H_2 locs_2 p_2 hT_2 hk_2 hS_2 => ?_)
  have hX_2 : va_X b L xs s H_2 := hX_1.kept (hS_2.2.1 b (Nat.not_le.mpr hbB))
  have kX : ∀ q, q < B + 178 → H_2[q]? = H_1[q]? := fun q hq => hk_2 q (fun h => h.elim)
  have hTX := hTX.same (H1 := H_2) (fun q t h => kX q (by obtain ⟨j, rfl, -, z1, -⟩ := tq_some h; omega))
  have hX9_2 : TX D (rq B) _ _ H_2 (rq B (B + 0) 0) := hX9_1.q (kX _ (by rw [qx_1]; omega)) (kX _ (by rw [qx_16]; omega))
  have hu : H_1 = H_2 := p_2
  have hMc : IM D (rq B) (n + 1) H_2 (B + 178) := hu ▸ hMb
  have hX12_2 : RX D (rq B) T k H_2 (B + 178) := hu ▸ hX12
  have hLV2 : LV D cI cS B (n + 1) H_2 := ⟨hTX, hT_2, hMc, _, _, hX9_2, hX12_2⟩
  refine lv_pop hx hb dL_law_617 rfl ?_
  refine lv_goto (tgt := 766) hx hb dL_law_618 (by decide) ?_
  exact kk H_2 locs_2 hS_2.2.2 hX_2 hLV2
set_option maxHeartbeats 4000000 in
set_option maxRecDepth 100000 in
theorem v_span_1 (E : EE p s m args c cL_law RL D cI cS) (hml : c.maxLocals = 4) (hl : lv_has ls 4 [(3, .int i), (2, .ref (B + 178)), (1, .ref (B + 0)), (0, .ref b)]) (hWX : WF (tq B 0 178) (rq B)) (hWM : WF (tq B 178 186) (rq B)) (hLV : LV D cI cS B n H) (hn0 : 0 ≤ n) (hn1 : n + 1 ≤ 600) (hi0 : 0 ≤ i.toInt) (hi1 : i.toInt + 4 ≤ L) (hL : L ≤ 2048) (hX : va_X b L xs s H) (hbB : b < B) (hlo : ∀ x ∈ locs, B ≤ x.base) (he : (xs (i + 1).toNatClampNeg) = 1) (kk : KL p l e s m args below meth c ls Q D cI cS n B b L xs) : WL p l e s m args below meth c H locs ls Q 578 := by
  obtain ⟨hTX, hTM, hM0, T, k, hX9, hX12⟩ := hLV
  have hx := E.1
  have hb := E.2.1
  have hv_1 : vp_in (i + 1) L := idx_in (k := 1) (by decide) (by decide) hi0 (by omega) hL
  have hv_2 : vp_in (i + 2) L := idx_in (k := 2) (by decide) (by decide) hi0 (by omega) hL
  have hv_3 : vp_in (i + 3) L := idx_in (k := 3) (by decide) (by decide) hi0 (by omega) hL
  refine lv_aload_n hx hb dL_law_578 rfl (lv_at hl 2 rfl) ?_
  refine lv_aload_n hx hb dL_law_579 rfl (lv_at hl 3 rfl) ?_
  refine lv_iload_n hx hb dL_law_580 rfl (lv_at hl 0 rfl) ?_
  refine lv_iconst (v := 1) hx hb dL_law_581 (by decide) ?_
  refine lv_iadd hx hb dL_law_582 ?_
  refine lw_sldg hx hb hX hv_1 dL_law_583 ?_
  refine lv_aload_n hx hb dL_law_584 rfl (lv_at hl 3 rfl) ?_
  refine lv_iload_n hx hb dL_law_585 rfl (lv_at hl 0 rfl) ?_
  refine lv_iconst (v := 2) hx hb dL_law_586 (by decide) ?_
  refine lv_iadd hx hb dL_law_587 ?_
  refine lw_sldg hx hb hX hv_2 dL_law_588 ?_
  refine lv_aload_n hx hb dL_law_589 rfl (lv_at hl 3 rfl) ?_
  refine lv_iload_n hx hb dL_law_590 rfl (lv_at hl 0 rfl) ?_
  refine lv_iconst (v := 3) hx hb dL_law_591 (by decide) ?_
  refine lv_iadd hx hb dL_law_592 ?_
  refine lw_sldg hx hb hX hv_3 dL_law_593 ?_
  refine th_Vi (A := fun q => B ≤ q) (As := [.int (xs (i + 1).toNatClampNeg), .int (xs (i + 2).toNatClampNeg), .int (xs (i + 3).toNatClampNeg)]) (rest := []) E hml hl.1 (z_X11_span l D cI cS (tq B 0 178) (rq B) hWX H hTX (B + 0) (xs (i + 1).toNatClampNeg) (xs (i + 2).toNatClampNeg) (xs (i + 3).toNatClampNeg) (ttX B)) lk_L_88 yd_X11_span hTX (ttX B) rfl (by decide) ⟨rfl, fun _ _ => rfl, hlo⟩ (fun q h => (at_in h).1) ⟨Nat.le_of_ble_eq_true rfl, Nat.le_of_ble_eq_true rfl⟩ (Nat.le_of_ble_eq_true rfl) ⟨Nat.le_of_ble_eq_true rfl, Nat.le_of_ble_eq_true rfl⟩ rfl dL_law_594 (fun r_1 H_1 locs_1 p_1 hT_1 hk_1 hS_1 => ?_)
  have hX_1 : va_X b L xs s H_1 := hX.kept (hS_1.2.1 b (Nat.not_le.mpr hbB))
  have kM : ∀ q, B + 178 ≤ q → H_1[q]? = H[q]? := fun q hq => hk_1 q (fun h => by have := (at_in h).2; omega)
  have hTX := hT_1
  have hTM := hTM.same (H1 := H_1) (fun q t h => kM q (by obtain ⟨j, rfl, z1, -, -⟩ := tq_some h; omega))
  have hMa := hM0.kept (H1 := H_1) kM
  have hMb := hMa.mono (N1 := n + 1) (by omega)
  have e5 : fi D 12 5 H_1 (B + 178) = fi D 12 5 H (B + 178) := fi_q (kM _ (by omega))
  have hX9_1 : TX D (rq B) T k H_1 (rq B (B + 0) 0) := hX9.q (hk_1 _ (AT.out (t := 9) ttT (by decide))) (hk_1 _ (AT.out (t := 300) ttR (by decide)))
  have hX12 : RX D (rq B) T k H_1 (B + 178) := hX12.q (fi_q (kM _ (by omega))) (kM _ (by rw [qn_178_4]; omega))
  refine lv_pop hx hb dL_law_597 rfl ?_
  refine lv_aload_n hx hb dL_law_598 rfl (lv_at hl 1 rfl) ?_
  refine lv_aload_n hx hb dL_law_599 rfl (lv_at hl 3 rfl) ?_
  refine lv_iload_n hx hb dL_law_600 rfl (lv_at hl 0 rfl) ?_
  refine lv_iconst (v := 1) hx hb dL_law_601 (by decide) ?_
  refine lv_iadd hx hb dL_law_602 ?_
  refine lw_sldg hx hb hX_1 hv_1 dL_law_603 ?_
  refine th_topi he ?_
  refine lv_aload_n hx hb dL_law_604 rfl (lv_at hl 3 rfl) ?_
  refine lv_iload_n hx hb dL_law_605 rfl (lv_at hl 0 rfl) ?_
  refine lv_iconst (v := 2) hx hb dL_law_606 (by decide) ?_
  refine lv_iadd hx hb dL_law_607 ?_
  refine lw_sldg hx hb hX_1 hv_2 dL_law_608 ?_
  refine lv_aload_n hx hb dL_law_609 rfl (lv_at hl 3 rfl) ?_
  refine lv_iload_n hx hb dL_law_610 rfl (lv_at hl 0 rfl) ?_
  refine lv_iconst (v := 3) hx hb dL_law_611 (by decide) ?_
  refine lv_iadd hx hb dL_law_612 ?_
  refine lw_sldg hx hb hX_1 hv_3 dL_law_613 ?_
  refine th_Vi (A := fun q => B ≤ q) (As := [.int 1, .int (xs (i + 2).toNatClampNeg), .int (xs (i + 3).toNatClampNeg)]) (rest := []) E hml hl.1 (y_span_v2 l D cI cS (tq B 178 186) (rq B) hWM H_1 hTM (B + 178) (xs (i + 2).toNatClampNeg) (xs (i + 3).toNatClampNeg) (ttM B) (n + 1) (by omega) hn1 hMb) lk_L_92 yd_X12_span hTM (ttM B) rfl (by decide) ⟨rfl, fun _ _ => rfl, hS_1.2.2⟩ (fun q h => h.elim) ⟨Nat.le_of_ble_eq_true rfl, Nat.le_of_ble_eq_true rfl⟩ (Nat.le_of_ble_eq_true rfl) ⟨Nat.le_of_ble_eq_true rfl, Nat.le_of_ble_eq_true rfl⟩ rfl dL_law_614 (fun r_2 H_2 locs_2 p_2 hT_2 hk_2 hS_2 => ?_)
  have hX_2 : va_X b L xs s H_2 := hX_1.kept (hS_2.2.1 b (Nat.not_le.mpr hbB))
  have kX : ∀ q, q < B + 178 → H_2[q]? = H_1[q]? := fun q hq => hk_2 q (fun h => h.elim)
  have hTX := hTX.same (H1 := H_2) (fun q t h => kX q (by obtain ⟨j, rfl, -, z1, -⟩ := tq_some h; omega))
  have hX9_2 : TX D (rq B) _ _ H_2 (rq B (B + 0) 0) := hX9_1.q (kX _ (by rw [qx_1]; omega)) (kX _ (by rw [qx_16]; omega))
  have hu : H_1 = H_2 := p_2
  have hMc : IM D (rq B) (n + 1) H_2 (B + 178) := hu ▸ hMb
  have hX12_2 : RX D (rq B) T k H_2 (B + 178) := hu ▸ hX12
  have hLV2 : LV D cI cS B (n + 1) H_2 := ⟨hTX, hT_2, hMc, _, _, hX9_2, hX12_2⟩
  refine lv_pop hx hb dL_law_617 rfl ?_
  refine lv_goto (tgt := 766) hx hb dL_law_618 (by decide) ?_
  exact kk H_2 locs_2 hS_2.2.2 hX_2 hLV2
set_option maxHeartbeats 4000000 in
set_option maxRecDepth 100000 in
theorem v_span_bad (E : EE p s m args c cL_law RL D cI cS) (hml : c.maxLocals = 4) (hl : lv_has ls 4 [(3, .int i), (2, .ref (B + 178)), (1, .ref (B + 0)), (0, .ref b)]) (hWX : WF (tq B 0 178) (rq B)) (hWM : WF (tq B 178 186) (rq B)) (hLV : LV D cI cS B n H) (hn0 : 0 ≤ n) (hn1 : n + 1 ≤ 600) (hi0 : 0 ≤ i.toInt) (hi1 : i.toInt + 4 ≤ L) (hL : L ≤ 2048) (hX : va_X b L xs s H) (hbB : b < B) (hlo : ∀ x ∈ locs, B ≤ x.base) (he : (xs (i + 1).toNatClampNeg).toInt < 0 ∨ 1 < (xs (i + 1).toNatClampNeg).toInt) (kk : KL p l e s m args below meth c ls Q D cI cS n B b L xs) : WL p l e s m args below meth c H locs ls Q 578 := by
  obtain ⟨hTX, hTM, hM0, T, k, hX9, hX12⟩ := hLV
  have hx := E.1
  have hb := E.2.1
  have hv_1 : vp_in (i + 1) L := idx_in (k := 1) (by decide) (by decide) hi0 (by omega) hL
  have hv_2 : vp_in (i + 2) L := idx_in (k := 2) (by decide) (by decide) hi0 (by omega) hL
  have hv_3 : vp_in (i + 3) L := idx_in (k := 3) (by decide) (by decide) hi0 (by omega) hL
  refine lv_aload_n hx hb dL_law_578 rfl (lv_at hl 2 rfl) ?_
  refine lv_aload_n hx hb dL_law_579 rfl (lv_at hl 3 rfl) ?_
  refine lv_iload_n hx hb dL_law_580 rfl (lv_at hl 0 rfl) ?_
  refine lv_iconst (v := 1) hx hb dL_law_581 (by decide) ?_
  refine lv_iadd hx hb dL_law_582 ?_
  refine lw_sldg hx hb hX hv_1 dL_law_583 ?_
  refine lv_aload_n hx hb dL_law_584 rfl (lv_at hl 3 rfl) ?_
  refine lv_iload_n hx hb dL_law_585 rfl (lv_at hl 0 rfl) ?_
  refine lv_iconst (v := 2) hx hb dL_law_586 (by decide) ?_
  refine lv_iadd hx hb dL_law_587 ?_
  refine lw_sldg hx hb hX hv_2 dL_law_588 ?_
  refine lv_aload_n hx hb dL_law_589 rfl (lv_at hl 3 rfl) ?_
  refine lv_iload_n hx hb dL_law_590 rfl (lv_at hl 0 rfl) ?_
  refine lv_iconst (v := 3) hx hb dL_law_591 (by decide) ?_
  refine lv_iadd hx hb dL_law_592 ?_
  refine lw_sldg hx hb hX hv_3 dL_law_593 ?_
  refine th_Vi (A := fun q => B ≤ q) (As := [.int (xs (i + 1).toNatClampNeg), .int (xs (i + 2).toNatClampNeg), .int (xs (i + 3).toNatClampNeg)]) (rest := []) E hml hl.1 (z_X11_span l D cI cS (tq B 0 178) (rq B) hWX H hTX (B + 0) (xs (i + 1).toNatClampNeg) (xs (i + 2).toNatClampNeg) (xs (i + 3).toNatClampNeg) (ttX B)) lk_L_88 yd_X11_span hTX (ttX B) rfl (by decide) ⟨rfl, fun _ _ => rfl, hlo⟩ (fun q h => (at_in h).1) ⟨Nat.le_of_ble_eq_true rfl, Nat.le_of_ble_eq_true rfl⟩ (Nat.le_of_ble_eq_true rfl) ⟨Nat.le_of_ble_eq_true rfl, Nat.le_of_ble_eq_true rfl⟩ rfl dL_law_594 (fun r_1 H_1 locs_1 p_1 hT_1 hk_1 hS_1 => ?_)
  have hX_1 : va_X b L xs s H_1 := hX.kept (hS_1.2.1 b (Nat.not_le.mpr hbB))
  have kM : ∀ q, B + 178 ≤ q → H_1[q]? = H[q]? := fun q hq => hk_1 q (fun h => by have := (at_in h).2; omega)
  have hTX := hT_1
  have hTM := hTM.same (H1 := H_1) (fun q t h => kM q (by obtain ⟨j, rfl, z1, -, -⟩ := tq_some h; omega))
  have hMa := hM0.kept (H1 := H_1) kM
  have hMb := hMa.mono (N1 := n + 1) (by omega)
  have e5 : fi D 12 5 H_1 (B + 178) = fi D 12 5 H (B + 178) := fi_q (kM _ (by omega))
  have hX9_1 : TX D (rq B) T k H_1 (rq B (B + 0) 0) := hX9.q (hk_1 _ (AT.out (t := 9) ttT (by decide))) (hk_1 _ (AT.out (t := 300) ttR (by decide)))
  have hX12 : RX D (rq B) T k H_1 (B + 178) := hX12.q (fi_q (kM _ (by omega))) (kM _ (by rw [qn_178_4]; omega))
  refine lv_pop hx hb dL_law_597 rfl ?_
  refine lv_aload_n hx hb dL_law_598 rfl (lv_at hl 1 rfl) ?_
  refine lv_aload_n hx hb dL_law_599 rfl (lv_at hl 3 rfl) ?_
  refine lv_iload_n hx hb dL_law_600 rfl (lv_at hl 0 rfl) ?_
  refine lv_iconst (v := 1) hx hb dL_law_601 (by decide) ?_
  refine lv_iadd hx hb dL_law_602 ?_
  refine lw_sldg hx hb hX_1 hv_1 dL_law_603 ?_
  refine lv_aload_n hx hb dL_law_604 rfl (lv_at hl 3 rfl) ?_
  refine lv_iload_n hx hb dL_law_605 rfl (lv_at hl 0 rfl) ?_
  refine lv_iconst (v := 2) hx hb dL_law_606 (by decide) ?_
  refine lv_iadd hx hb dL_law_607 ?_
  refine lw_sldg hx hb hX_1 hv_2 dL_law_608 ?_
  refine lv_aload_n hx hb dL_law_609 rfl (lv_at hl 3 rfl) ?_
  refine lv_iload_n hx hb dL_law_610 rfl (lv_at hl 0 rfl) ?_
  refine lv_iconst (v := 3) hx hb dL_law_611 (by decide) ?_
  refine lv_iadd hx hb dL_law_612 ?_
  refine lw_sldg hx hb hX_1 hv_3 dL_law_613 ?_
  refine th_Vi (A := fun q => B ≤ q) (As := [.int (xs (i + 1).toNatClampNeg), .int (xs (i + 2).toNatClampNeg), .int (xs (i + 3).toNatClampNeg)]) (rest := []) E hml hl.1 (y_span_v3 l D cI cS (tq B 178 186) (rq B) hWM H_1 hTM (B + 178) (xs (i + 1).toNatClampNeg) (xs (i + 2).toNatClampNeg) (xs (i + 3).toNatClampNeg) (ttM B) (n + 1) (by omega) hn1 hMb he) lk_L_92 yd_X12_span hTM (ttM B) rfl (by decide) ⟨rfl, fun _ _ => rfl, hS_1.2.2⟩ (fun q h => h.elim) ⟨Nat.le_of_ble_eq_true rfl, Nat.le_of_ble_eq_true rfl⟩ (Nat.le_of_ble_eq_true rfl) ⟨Nat.le_of_ble_eq_true rfl, Nat.le_of_ble_eq_true rfl⟩ rfl dL_law_614 (fun r_2 H_2 locs_2 p_2 hT_2 hk_2 hS_2 => ?_)
  have hX_2 : va_X b L xs s H_2 := hX_1.kept (hS_2.2.1 b (Nat.not_le.mpr hbB))
  have kX : ∀ q, q < B + 178 → H_2[q]? = H_1[q]? := fun q hq => hk_2 q (fun h => h.elim)
  have hTX := hTX.same (H1 := H_2) (fun q t h => kX q (by obtain ⟨j, rfl, -, z1, -⟩ := tq_some h; omega))
  have hX9_2 : TX D (rq B) _ _ H_2 (rq B (B + 0) 0) := hX9_1.q (kX _ (by rw [qx_1]; omega)) (kX _ (by rw [qx_16]; omega))
  have hu : H_1 = H_2 := p_2
  have hMc : IM D (rq B) (n + 1) H_2 (B + 178) := hu ▸ hMb
  have hX12_2 : RX D (rq B) T k H_2 (B + 178) := hu ▸ hX12
  have hLV2 : LV D cI cS B (n + 1) H_2 := ⟨hTX, hT_2, hMc, _, _, hX9_2, hX12_2⟩
  refine lv_pop hx hb dL_law_617 rfl ?_
  refine lv_goto (tgt := 766) hx hb dL_law_618 (by decide) ?_
  exact kk H_2 locs_2 hS_2.2.2 hX_2 hLV2
theorem v_span (E : EE p s m args c cL_law RL D cI cS) (hml : c.maxLocals = 4) (hl : lv_has ls 4 [(3, .int i), (2, .ref (B + 178)), (1, .ref (B + 0)), (0, .ref b)]) (hWX : WF (tq B 0 178) (rq B)) (hWM : WF (tq B 178 186) (rq B)) (hLV : LV D cI cS B n H) (hn0 : 0 ≤ n) (hn1 : n + 1 ≤ 600) (hi0 : 0 ≤ i.toInt) (hi1 : i.toInt + 4 ≤ L) (hL : L ≤ 2048) (hX : va_X b L xs s H) (hbB : b < B) (hlo : ∀ x ∈ locs, B ≤ x.base) (kk : KL p l e s m args below meth c ls Q D cI cS n B b L xs) : WL p l e s m args below meth c H locs ls Q 578 := by
  rcases (show (xs (i + 1).toNatClampNeg).toInt = 0 ∨ (xs (i + 1).toNatClampNeg).toInt = 1 ∨ ((xs (i + 1).toNatClampNeg).toInt < 0 ∨ 1 < (xs (i + 1).toNatClampNeg).toInt) by omega) with h | h | h
  · exact v_span_0 E hml hl hWX hWM hLV hn0 hn1 hi0 hi1 hL hX hbB hlo (i_eqc h (by decide)) kk
  · exact v_span_1 E hml hl hWX hWM hLV hn0 hn1 hi0 hi1 hL hX hbB hlo (i_eqc h (by decide)) kk
  · exact v_span_bad E hml hl hWX hWM hLV hn0 hn1 hi0 hi1 hL hX hbB hlo h kk
set_option maxHeartbeats 4000000 in
set_option maxRecDepth 100000 in
theorem v_known_0 (E : EE p s m args c cL_law RL D cI cS) (hml : c.maxLocals = 4) (hl : lv_has ls 4 [(3, .int i), (2, .ref (B + 178)), (1, .ref (B + 0)), (0, .ref b)]) (hWX : WF (tq B 0 178) (rq B)) (hWM : WF (tq B 178 186) (rq B)) (hLV : LV D cI cS B n H) (hn0 : 0 ≤ n) (hn1 : n + 1 ≤ 600) (hi0 : 0 ≤ i.toInt) (hi1 : i.toInt + 4 ≤ L) (hL : L ≤ 2048) (hX : va_X b L xs s H) (hbB : b < B) (hlo : ∀ x ∈ locs, B ≤ x.base) (he : (xs (i + 1).toNatClampNeg) = 0) (kk : KL p l e s m args below meth c ls Q D cI cS n B b L xs) : WL p l e s m args below meth c H locs ls Q 621 := by
  obtain ⟨hTX, hTM, hM0, T, k, hX9, hX12⟩ := hLV
  have hx := E.1
  have hb := E.2.1
  have hv_1 : vp_in (i + 1) L := idx_in (k := 1) (by decide) (by decide) hi0 (by omega) hL
  have hv_2 : vp_in (i + 2) L := idx_in (k := 2) (by decide) (by decide) hi0 (by omega) hL
  have hv_3 : vp_in (i + 3) L := idx_in (k := 3) (by decide) (by decide) hi0 (by omega) hL
  refine lv_aload_n hx hb dL_law_621 rfl (lv_at hl 2 rfl) ?_
  refine lv_aload_n hx hb dL_law_622 rfl (lv_at hl 3 rfl) ?_
  refine lv_iload_n hx hb dL_law_623 rfl (lv_at hl 0 rfl) ?_
  refine lv_iconst (v := 1) hx hb dL_law_624 (by decide) ?_
  refine lv_iadd hx hb dL_law_625 ?_
  refine lw_sldg hx hb hX hv_1 dL_law_626 ?_
  refine lv_aload_n hx hb dL_law_627 rfl (lv_at hl 3 rfl) ?_
  refine lv_iload_n hx hb dL_law_628 rfl (lv_at hl 0 rfl) ?_
  refine lv_iconst (v := 2) hx hb dL_law_629 (by decide) ?_
  refine lv_iadd hx hb dL_law_630 ?_
  refine lw_sldg hx hb hX hv_2 dL_law_631 ?_
  refine th_Vi (A := fun q => B ≤ q) (As := [.int (xs (i + 1).toNatClampNeg), .int (xs (i + 2).toNatClampNeg)]) (rest := []) E hml hl.1 (z_X11_known l D cI cS (tq B 0 178) (rq B) hWX H hTX (B + 0) (xs (i + 1).toNatClampNeg) (xs (i + 2).toNatClampNeg) (ttX B)) lk_L_93 yd_X11_known hTX (ttX B) rfl (by decide) ⟨rfl, fun _ _ => rfl, hlo⟩ (fun q h => (at_in h).1) ⟨Nat.le_of_ble_eq_true rfl, Nat.le_of_ble_eq_true rfl⟩ (Nat.le_of_ble_eq_true rfl) ⟨Nat.le_of_ble_eq_true rfl, Nat.le_of_ble_eq_true rfl⟩ rfl dL_law_632 (fun r_1 H_1 locs_1 p_1 hT_1 hk_1 hS_1 => ?_)
  have hX_1 : va_X b L xs s H_1 := hX.kept (hS_1.2.1 b (Nat.not_le.mpr hbB))
  have kM : ∀ q, B + 178 ≤ q → H_1[q]? = H[q]? := fun q hq => hk_1 q (fun h => by have := (at_in h).2; omega)
  have hTX := hT_1
  have hTM := hTM.same (H1 := H_1) (fun q t h => kM q (by obtain ⟨j, rfl, z1, -, -⟩ := tq_some h; omega))
  have hMa := hM0.kept (H1 := H_1) kM
  have hMb := hMa.mono (N1 := n + 1) (by omega)
  have e5 : fi D 12 5 H_1 (B + 178) = fi D 12 5 H (B + 178) := fi_q (kM _ (by omega))
  have hX9_1 : TX D (rq B) T k H_1 (rq B (B + 0) 0) := hX9.q (hk_1 _ (AT.out (t := 9) ttT (by decide))) (hk_1 _ (AT.out (t := 300) ttR (by decide)))
  have hX12 : RX D (rq B) T k H_1 (B + 178) := hX12.q (fi_q (kM _ (by omega))) (kM _ (by rw [qn_178_4]; omega))
  refine lv_pop hx hb dL_law_635 rfl ?_
  refine lv_aload_n hx hb dL_law_636 rfl (lv_at hl 1 rfl) ?_
  refine lv_aload_n hx hb dL_law_637 rfl (lv_at hl 3 rfl) ?_
  refine lv_iload_n hx hb dL_law_638 rfl (lv_at hl 0 rfl) ?_
  refine lv_iconst (v := 1) hx hb dL_law_639 (by decide) ?_
  refine lv_iadd hx hb dL_law_640 ?_
  refine lw_sldg hx hb hX_1 hv_1 dL_law_641 ?_
  refine th_topi he ?_
  refine lv_aload_n hx hb dL_law_642 rfl (lv_at hl 3 rfl) ?_
  refine lv_iload_n hx hb dL_law_643 rfl (lv_at hl 0 rfl) ?_
  refine lv_iconst (v := 2) hx hb dL_law_644 (by decide) ?_
  refine lv_iadd hx hb dL_law_645 ?_
  refine lw_sldg hx hb hX_1 hv_2 dL_law_646 ?_
  refine th_Vi (A := fun q => B ≤ q) (As := [.int 0, .int (xs (i + 2).toNatClampNeg)]) (rest := []) E hml hl.1 (y_known l D cI cS (tq B 178 186) (rq B) hWM H_1 hTM (B + 178) (xs (i + 2).toNatClampNeg) (ttM B) (n + 1) (by omega) hn1 hMb) lk_L_96 yd_X12_known hTM (ttM B) rfl (by decide) ⟨rfl, fun _ _ => rfl, hS_1.2.2⟩ (fun q h => h.elim) ⟨Nat.le_of_ble_eq_true rfl, Nat.le_of_ble_eq_true rfl⟩ (Nat.le_of_ble_eq_true rfl) ⟨Nat.le_of_ble_eq_true rfl, Nat.le_of_ble_eq_true rfl⟩ rfl dL_law_647 (fun r_2 H_2 locs_2 p_2 hT_2 hk_2 hS_2 => ?_)
  have hX_2 : va_X b L xs s H_2 := hX_1.kept (hS_2.2.1 b (Nat.not_le.mpr hbB))
  have kX : ∀ q, q < B + 178 → H_2[q]? = H_1[q]? := fun q hq => hk_2 q (fun h => h.elim)
  have hTX := hTX.same (H1 := H_2) (fun q t h => kX q (by obtain ⟨j, rfl, -, z1, -⟩ := tq_some h; omega))
  have hX9_2 : TX D (rq B) _ _ H_2 (rq B (B + 0) 0) := hX9_1.q (kX _ (by rw [qx_1]; omega)) (kX _ (by rw [qx_16]; omega))
  have hu : H_1 = H_2 := p_2
  have hMc : IM D (rq B) (n + 1) H_2 (B + 178) := hu ▸ hMb
  have hX12_2 : RX D (rq B) T k H_2 (B + 178) := hu ▸ hX12
  have hLV2 : LV D cI cS B (n + 1) H_2 := ⟨hTX, hT_2, hMc, _, _, hX9_2, hX12_2⟩
  refine lv_pop hx hb dL_law_650 rfl ?_
  refine lv_goto (tgt := 766) hx hb dL_law_651 (by decide) ?_
  exact kk H_2 locs_2 hS_2.2.2 hX_2 hLV2
set_option maxHeartbeats 4000000 in
set_option maxRecDepth 100000 in
theorem v_known_1 (E : EE p s m args c cL_law RL D cI cS) (hml : c.maxLocals = 4) (hl : lv_has ls 4 [(3, .int i), (2, .ref (B + 178)), (1, .ref (B + 0)), (0, .ref b)]) (hWX : WF (tq B 0 178) (rq B)) (hWM : WF (tq B 178 186) (rq B)) (hLV : LV D cI cS B n H) (hn0 : 0 ≤ n) (hn1 : n + 1 ≤ 600) (hi0 : 0 ≤ i.toInt) (hi1 : i.toInt + 4 ≤ L) (hL : L ≤ 2048) (hX : va_X b L xs s H) (hbB : b < B) (hlo : ∀ x ∈ locs, B ≤ x.base) (he : (xs (i + 1).toNatClampNeg) = 1) (kk : KL p l e s m args below meth c ls Q D cI cS n B b L xs) : WL p l e s m args below meth c H locs ls Q 621 := by
  obtain ⟨hTX, hTM, hM0, T, k, hX9, hX12⟩ := hLV
  have hx := E.1
  have hb := E.2.1
  have hv_1 : vp_in (i + 1) L := idx_in (k := 1) (by decide) (by decide) hi0 (by omega) hL
  have hv_2 : vp_in (i + 2) L := idx_in (k := 2) (by decide) (by decide) hi0 (by omega) hL
  have hv_3 : vp_in (i + 3) L := idx_in (k := 3) (by decide) (by decide) hi0 (by omega) hL
  refine lv_aload_n hx hb dL_law_621 rfl (lv_at hl 2 rfl) ?_
  refine lv_aload_n hx hb dL_law_622 rfl (lv_at hl 3 rfl) ?_
  refine lv_iload_n hx hb dL_law_623 rfl (lv_at hl 0 rfl) ?_
  refine lv_iconst (v := 1) hx hb dL_law_624 (by decide) ?_
  refine lv_iadd hx hb dL_law_625 ?_
  refine lw_sldg hx hb hX hv_1 dL_law_626 ?_
  refine lv_aload_n hx hb dL_law_627 rfl (lv_at hl 3 rfl) ?_
  refine lv_iload_n hx hb dL_law_628 rfl (lv_at hl 0 rfl) ?_
  refine lv_iconst (v := 2) hx hb dL_law_629 (by decide) ?_
  refine lv_iadd hx hb dL_law_630 ?_
  refine lw_sldg hx hb hX hv_2 dL_law_631 ?_
  refine th_Vi (A := fun q => B ≤ q) (As := [.int (xs (i + 1).toNatClampNeg), .int (xs (i + 2).toNatClampNeg)]) (rest := []) E hml hl.1 (z_X11_known l D cI cS (tq B 0 178) (rq B) hWX H hTX (B + 0) (xs (i + 1).toNatClampNeg) (xs (i + 2).toNatClampNeg) (ttX B)) lk_L_93 yd_X11_known hTX (ttX B) rfl (by decide) ⟨rfl, fun _ _ => rfl, hlo⟩ (fun q h => (at_in h).1) ⟨Nat.le_of_ble_eq_true rfl, Nat.le_of_ble_eq_true rfl⟩ (Nat.le_of_ble_eq_true rfl) ⟨Nat.le_of_ble_eq_true rfl, Nat.le_of_ble_eq_true rfl⟩ rfl dL_law_632 (fun r_1 H_1 locs_1 p_1 hT_1 hk_1 hS_1 => ?_)
  have hX_1 : va_X b L xs s H_1 := hX.kept (hS_1.2.1 b (Nat.not_le.mpr hbB))
  have kM : ∀ q, B + 178 ≤ q → H_1[q]? = H[q]? := fun q hq => hk_1 q (fun h => by have := (at_in h).2; omega)
  have hTX := hT_1
  have hTM := hTM.same (H1 := H_1) (fun q t h => kM q (by obtain ⟨j, rfl, z1, -, -⟩ := tq_some h; omega))
  have hMa := hM0.kept (H1 := H_1) kM
  have hMb := hMa.mono (N1 := n + 1) (by omega)
  have e5 : fi D 12 5 H_1 (B + 178) = fi D 12 5 H (B + 178) := fi_q (kM _ (by omega))
  have hX9_1 : TX D (rq B) T k H_1 (rq B (B + 0) 0) := hX9.q (hk_1 _ (AT.out (t := 9) ttT (by decide))) (hk_1 _ (AT.out (t := 300) ttR (by decide)))
  have hX12 : RX D (rq B) T k H_1 (B + 178) := hX12.q (fi_q (kM _ (by omega))) (kM _ (by rw [qn_178_4]; omega))
  refine lv_pop hx hb dL_law_635 rfl ?_
  refine lv_aload_n hx hb dL_law_636 rfl (lv_at hl 1 rfl) ?_
  refine lv_aload_n hx hb dL_law_637 rfl (lv_at hl 3 rfl) ?_
  refine lv_iload_n hx hb dL_law_638 rfl (lv_at hl 0 rfl) ?_
  refine lv_iconst (v := 1) hx hb dL_law_639 (by decide) ?_
  refine lv_iadd hx hb dL_law_640 ?_
  refine lw_sldg hx hb hX_1 hv_1 dL_law_641 ?_
  refine th_topi he ?_
  refine lv_aload_n hx hb dL_law_642 rfl (lv_at hl 3 rfl) ?_
  refine lv_iload_n hx hb dL_law_643 rfl (lv_at hl 0 rfl) ?_
  refine lv_iconst (v := 2) hx hb dL_law_644 (by decide) ?_
  refine lv_iadd hx hb dL_law_645 ?_
  refine lw_sldg hx hb hX_1 hv_2 dL_law_646 ?_
  refine th_Vi (A := fun q => B ≤ q) (As := [.int 1, .int (xs (i + 2).toNatClampNeg)]) (rest := []) E hml hl.1 (y_known_v2 l D cI cS (tq B 178 186) (rq B) hWM H_1 hTM (B + 178) (xs (i + 2).toNatClampNeg) (ttM B) (n + 1) (by omega) hn1 hMb) lk_L_96 yd_X12_known hTM (ttM B) rfl (by decide) ⟨rfl, fun _ _ => rfl, hS_1.2.2⟩ (fun q h => h.elim) ⟨Nat.le_of_ble_eq_true rfl, Nat.le_of_ble_eq_true rfl⟩ (Nat.le_of_ble_eq_true rfl) ⟨Nat.le_of_ble_eq_true rfl, Nat.le_of_ble_eq_true rfl⟩ rfl dL_law_647 (fun r_2 H_2 locs_2 p_2 hT_2 hk_2 hS_2 => ?_)
  have hX_2 : va_X b L xs s H_2 := hX_1.kept (hS_2.2.1 b (Nat.not_le.mpr hbB))
  have kX : ∀ q, q < B + 178 → H_2[q]? = H_1[q]? := fun q hq => hk_2 q (fun h => h.elim)
  have hTX := hTX.same (H1 := H_2) (fun q t h => kX q (by obtain ⟨j, rfl, -, z1, -⟩ := tq_some h; omega))
  have hX9_2 : TX D (rq B) _ _ H_2 (rq B (B + 0) 0) := hX9_1.q (kX _ (by rw [qx_1]; omega)) (kX _ (by rw [qx_16]; omega))
  have hu : H_1 = H_2 := p_2
  have hMc : IM D (rq B) (n + 1) H_2 (B + 178) := hu ▸ hMb
  have hX12_2 : RX D (rq B) T k H_2 (B + 178) := hu ▸ hX12
  have hLV2 : LV D cI cS B (n + 1) H_2 := ⟨hTX, hT_2, hMc, _, _, hX9_2, hX12_2⟩
  refine lv_pop hx hb dL_law_650 rfl ?_
  refine lv_goto (tgt := 766) hx hb dL_law_651 (by decide) ?_
  exact kk H_2 locs_2 hS_2.2.2 hX_2 hLV2
set_option maxHeartbeats 4000000 in
set_option maxRecDepth 100000 in
theorem v_known_bad (E : EE p s m args c cL_law RL D cI cS) (hml : c.maxLocals = 4) (hl : lv_has ls 4 [(3, .int i), (2, .ref (B + 178)), (1, .ref (B + 0)), (0, .ref b)]) (hWX : WF (tq B 0 178) (rq B)) (hWM : WF (tq B 178 186) (rq B)) (hLV : LV D cI cS B n H) (hn0 : 0 ≤ n) (hn1 : n + 1 ≤ 600) (hi0 : 0 ≤ i.toInt) (hi1 : i.toInt + 4 ≤ L) (hL : L ≤ 2048) (hX : va_X b L xs s H) (hbB : b < B) (hlo : ∀ x ∈ locs, B ≤ x.base) (he : (xs (i + 1).toNatClampNeg).toInt < 0 ∨ 1 < (xs (i + 1).toNatClampNeg).toInt) (kk : KL p l e s m args below meth c ls Q D cI cS n B b L xs) : WL p l e s m args below meth c H locs ls Q 621 := by
  obtain ⟨hTX, hTM, hM0, T, k, hX9, hX12⟩ := hLV
  have hx := E.1
  have hb := E.2.1
  have hv_1 : vp_in (i + 1) L := idx_in (k := 1) (by decide) (by decide) hi0 (by omega) hL
  have hv_2 : vp_in (i + 2) L := idx_in (k := 2) (by decide) (by decide) hi0 (by omega) hL
  have hv_3 : vp_in (i + 3) L := idx_in (k := 3) (by decide) (by decide) hi0 (by omega) hL
  refine lv_aload_n hx hb dL_law_621 rfl (lv_at hl 2 rfl) ?_
  refine lv_aload_n hx hb dL_law_622 rfl (lv_at hl 3 rfl) ?_
  refine lv_iload_n hx hb dL_law_623 rfl (lv_at hl 0 rfl) ?_
  refine lv_iconst (v := 1) hx hb dL_law_624 (by decide) ?_
  refine lv_iadd hx hb dL_law_625 ?_
  refine lw_sldg hx hb hX hv_1 dL_law_626 ?_
  refine lv_aload_n hx hb dL_law_627 rfl (lv_at hl 3 rfl) ?_
  refine lv_iload_n hx hb dL_law_628 rfl (lv_at hl 0 rfl) ?_
  refine lv_iconst (v := 2) hx hb dL_law_629 (by decide) ?_
  refine lv_iadd hx hb dL_law_630 ?_
  refine lw_sldg hx hb hX hv_2 dL_law_631 ?_
  refine th_Vi (A := fun q => B ≤ q) (As := [.int (xs (i + 1).toNatClampNeg), .int (xs (i + 2).toNatClampNeg)]) (rest := []) E hml hl.1 (z_X11_known l D cI cS (tq B 0 178) (rq B) hWX H hTX (B + 0) (xs (i + 1).toNatClampNeg) (xs (i + 2).toNatClampNeg) (ttX B)) lk_L_93 yd_X11_known hTX (ttX B) rfl (by decide) ⟨rfl, fun _ _ => rfl, hlo⟩ (fun q h => (at_in h).1) ⟨Nat.le_of_ble_eq_true rfl, Nat.le_of_ble_eq_true rfl⟩ (Nat.le_of_ble_eq_true rfl) ⟨Nat.le_of_ble_eq_true rfl, Nat.le_of_ble_eq_true rfl⟩ rfl dL_law_632 (fun r_1 H_1 locs_1 p_1 hT_1 hk_1 hS_1 => ?_)
  have hX_1 : va_X b L xs s H_1 := hX.kept (hS_1.2.1 b (Nat.not_le.mpr hbB))
  have kM : ∀ q, B + 178 ≤ q → H_1[q]? = H[q]? := fun q hq => hk_1 q (fun h => by have := (at_in h).2; omega)
  have hTX := hT_1
  have hTM := hTM.same (H1 := H_1) (fun q t h => kM q (by obtain ⟨j, rfl, z1, -, -⟩ := tq_some h; omega))
  have hMa := hM0.kept (H1 := H_1) kM
  have hMb := hMa.mono (N1 := n + 1) (by omega)
  have e5 : fi D 12 5 H_1 (B + 178) = fi D 12 5 H (B + 178) := fi_q (kM _ (by omega))
  have hX9_1 : TX D (rq B) T k H_1 (rq B (B + 0) 0) := hX9.q (hk_1 _ (AT.out (t := 9) ttT (by decide))) (hk_1 _ (AT.out (t := 300) ttR (by decide)))
  have hX12 : RX D (rq B) T k H_1 (B + 178) := hX12.q (fi_q (kM _ (by omega))) (kM _ (by rw [qn_178_4]; omega))
  refine lv_pop hx hb dL_law_635 rfl ?_
  refine lv_aload_n hx hb dL_law_636 rfl (lv_at hl 1 rfl) ?_
  refine lv_aload_n hx hb dL_law_637 rfl (lv_at hl 3 rfl) ?_
  refine lv_iload_n hx hb dL_law_638 rfl (lv_at hl 0 rfl) ?_
  refine lv_iconst (v := 1) hx hb dL_law_639 (by decide) ?_
  refine lv_iadd hx hb dL_law_640 ?_
  refine lw_sldg hx hb hX_1 hv_1 dL_law_641 ?_
  refine lv_aload_n hx hb dL_law_642 rfl (lv_at hl 3 rfl) ?_
  refine lv_iload_n hx hb dL_law_643 rfl (lv_at hl 0 rfl) ?_
  refine lv_iconst (v := 2) hx hb dL_law_644 (by decide) ?_
  refine lv_iadd hx hb dL_law_645 ?_
  refine lw_sldg hx hb hX_1 hv_2 dL_law_646 ?_
  refine th_Vi (A := fun q => B ≤ q) (As := [.int (xs (i + 1).toNatClampNeg), .int (xs (i + 2).toNatClampNeg)]) (rest := []) E hml hl.1 (y_known_v3 l D cI cS (tq B 178 186) (rq B) hWM H_1 hTM (B + 178) (xs (i + 1).toNatClampNeg) (xs (i + 2).toNatClampNeg) (ttM B) (n + 1) (by omega) hn1 hMb he) lk_L_96 yd_X12_known hTM (ttM B) rfl (by decide) ⟨rfl, fun _ _ => rfl, hS_1.2.2⟩ (fun q h => h.elim) ⟨Nat.le_of_ble_eq_true rfl, Nat.le_of_ble_eq_true rfl⟩ (Nat.le_of_ble_eq_true rfl) ⟨Nat.le_of_ble_eq_true rfl, Nat.le_of_ble_eq_true rfl⟩ rfl dL_law_647 (fun r_2 H_2 locs_2 p_2 hT_2 hk_2 hS_2 => ?_)
  have hX_2 : va_X b L xs s H_2 := hX_1.kept (hS_2.2.1 b (Nat.not_le.mpr hbB))
  have kX : ∀ q, q < B + 178 → H_2[q]? = H_1[q]? := fun q hq => hk_2 q (fun h => h.elim)
  have hTX := hTX.same (H1 := H_2) (fun q t h => kX q (by obtain ⟨j, rfl, -, z1, -⟩ := tq_some h; omega))
  have hX9_2 : TX D (rq B) _ _ H_2 (rq B (B + 0) 0) := hX9_1.q (kX _ (by rw [qx_1]; omega)) (kX _ (by rw [qx_16]; omega))
  have hu : H_1 = H_2 := p_2
  have hMc : IM D (rq B) (n + 1) H_2 (B + 178) := hu ▸ hMb
  have hX12_2 : RX D (rq B) T k H_2 (B + 178) := hu ▸ hX12
  have hLV2 : LV D cI cS B (n + 1) H_2 := ⟨hTX, hT_2, hMc, _, _, hX9_2, hX12_2⟩
  refine lv_pop hx hb dL_law_650 rfl ?_
  refine lv_goto (tgt := 766) hx hb dL_law_651 (by decide) ?_
  exact kk H_2 locs_2 hS_2.2.2 hX_2 hLV2
theorem v_known (E : EE p s m args c cL_law RL D cI cS) (hml : c.maxLocals = 4) (hl : lv_has ls 4 [(3, .int i), (2, .ref (B + 178)), (1, .ref (B + 0)), (0, .ref b)]) (hWX : WF (tq B 0 178) (rq B)) (hWM : WF (tq B 178 186) (rq B)) (hLV : LV D cI cS B n H) (hn0 : 0 ≤ n) (hn1 : n + 1 ≤ 600) (hi0 : 0 ≤ i.toInt) (hi1 : i.toInt + 4 ≤ L) (hL : L ≤ 2048) (hX : va_X b L xs s H) (hbB : b < B) (hlo : ∀ x ∈ locs, B ≤ x.base) (kk : KL p l e s m args below meth c ls Q D cI cS n B b L xs) : WL p l e s m args below meth c H locs ls Q 621 := by
  rcases (show (xs (i + 1).toNatClampNeg).toInt = 0 ∨ (xs (i + 1).toNatClampNeg).toInt = 1 ∨ ((xs (i + 1).toNatClampNeg).toInt < 0 ∨ 1 < (xs (i + 1).toNatClampNeg).toInt) by omega) with h | h | h
  · exact v_known_0 E hml hl hWX hWM hLV hn0 hn1 hi0 hi1 hL hX hbB hlo (i_eqc h (by decide)) kk
  · exact v_known_1 E hml hl hWX hWM hLV hn0 hn1 hi0 hi1 hL hX hbB hlo (i_eqc h (by decide)) kk
  · exact v_known_bad E hml hl hWX hWM hLV hn0 hn1 hi0 hi1 hL hX hbB hlo h kk
set_option maxHeartbeats 4000000 in
set_option maxRecDepth 100000 in
theorem v_letter (E : EE p s m args c cL_law RL D cI cS) (hml : c.maxLocals = 4) (hl : lv_has ls 4 [(3, .int i), (2, .ref (B + 178)), (1, .ref (B + 0)), (0, .ref b)]) (hWX : WF (tq B 0 178) (rq B)) (hWM : WF (tq B 178 186) (rq B)) (hLV : LV D cI cS B n H) (hn0 : 0 ≤ n) (hn1 : n + 1 ≤ 600) (hi0 : 0 ≤ i.toInt) (hi1 : i.toInt + 4 ≤ L) (hL : L ≤ 2048) (hX : va_X b L xs s H) (hbB : b < B) (hlo : ∀ x ∈ locs, B ≤ x.base) (kk : KL p l e s m args below meth c ls Q D cI cS n B b L xs) : WL p l e s m args below meth c H locs ls Q 654 := by
  obtain ⟨hTX, hTM, hM0, T, k, hX9, hX12⟩ := hLV
  have hx := E.1
  have hb := E.2.1
  have hv_1 : vp_in (i + 1) L := idx_in (k := 1) (by decide) (by decide) hi0 (by omega) hL
  have hv_2 : vp_in (i + 2) L := idx_in (k := 2) (by decide) (by decide) hi0 (by omega) hL
  have hv_3 : vp_in (i + 3) L := idx_in (k := 3) (by decide) (by decide) hi0 (by omega) hL
  refine lv_aload_n hx hb dL_law_654 rfl (lv_at hl 2 rfl) ?_
  refine lv_aload_n hx hb dL_law_655 rfl (lv_at hl 3 rfl) ?_
  refine lv_iload_n hx hb dL_law_656 rfl (lv_at hl 0 rfl) ?_
  refine lv_iconst (v := 1) hx hb dL_law_657 (by decide) ?_
  refine lv_iadd hx hb dL_law_658 ?_
  refine lw_sldg hx hb hX hv_1 dL_law_659 ?_
  refine lv_aload_n hx hb dL_law_660 rfl (lv_at hl 3 rfl) ?_
  refine lv_iload_n hx hb dL_law_661 rfl (lv_at hl 0 rfl) ?_
  refine lv_iconst (v := 2) hx hb dL_law_662 (by decide) ?_
  refine lv_iadd hx hb dL_law_663 ?_
  refine lw_sldg hx hb hX hv_2 dL_law_664 ?_
  refine th_Vi (A := fun q => B ≤ q) (As := [.int (xs (i + 1).toNatClampNeg), .int (xs (i + 2).toNatClampNeg)]) (rest := []) E hml hl.1 (z_X11_letter l D cI cS (tq B 0 178) (rq B) hWX H hTX (B + 0) (xs (i + 1).toNatClampNeg) (xs (i + 2).toNatClampNeg) (ttX B)) lk_L_97 yd_X11_letter hTX (ttX B) rfl (by decide) ⟨rfl, fun _ _ => rfl, hlo⟩ (fun q h => (at_in h).1) ⟨Nat.le_of_ble_eq_true rfl, Nat.le_of_ble_eq_true rfl⟩ (Nat.le_of_ble_eq_true rfl) ⟨Nat.le_of_ble_eq_true rfl, Nat.le_of_ble_eq_true rfl⟩ rfl dL_law_665 (fun r_1 H_1 locs_1 p_1 hT_1 hk_1 hS_1 => ?_)
  have hX_1 : va_X b L xs s H_1 := hX.kept (hS_1.2.1 b (Nat.not_le.mpr hbB))
  have kM : ∀ q, B + 178 ≤ q → H_1[q]? = H[q]? := fun q hq => hk_1 q (fun h => by have := (at_in h).2; omega)
  have hTX := hT_1
  have hTM := hTM.same (H1 := H_1) (fun q t h => kM q (by obtain ⟨j, rfl, z1, -, -⟩ := tq_some h; omega))
  have hMa := hM0.kept (H1 := H_1) kM
  have hMb := hMa.mono (N1 := n + 1) (by omega)
  have e5 : fi D 12 5 H_1 (B + 178) = fi D 12 5 H (B + 178) := fi_q (kM _ (by omega))
  have hX9_1 : TX D (rq B) T k H_1 (rq B (B + 0) 0) := hX9.q (hk_1 _ (AT.out (t := 9) ttT (by decide))) (hk_1 _ (AT.out (t := 300) ttR (by decide)))
  have hX12 : RX D (rq B) T k H_1 (B + 178) := hX12.q (fi_q (kM _ (by omega))) (kM _ (by rw [qn_178_4]; omega))
  refine lv_pop hx hb dL_law_668 rfl ?_
  refine lv_aload_n hx hb dL_law_669 rfl (lv_at hl 1 rfl) ?_
  refine lv_aload_n hx hb dL_law_670 rfl (lv_at hl 3 rfl) ?_
  refine lv_iload_n hx hb dL_law_671 rfl (lv_at hl 0 rfl) ?_
  refine lv_iconst (v := 1) hx hb dL_law_672 (by decide) ?_
  refine lv_iadd hx hb dL_law_673 ?_
  refine lw_sldg hx hb hX_1 hv_1 dL_law_674 ?_
  refine lv_aload_n hx hb dL_law_675 rfl (lv_at hl 3 rfl) ?_
  refine lv_iload_n hx hb dL_law_676 rfl (lv_at hl 0 rfl) ?_
  refine lv_iconst (v := 2) hx hb dL_law_677 (by decide) ?_
  refine lv_iadd hx hb dL_law_678 ?_
  refine lw_sldg hx hb hX_1 hv_2 dL_law_679 ?_
  refine th_Vi (A := fun q => B ≤ q) (As := [.int (xs (i + 1).toNatClampNeg), .int (xs (i + 2).toNatClampNeg)]) (rest := []) E hml hl.1 (y_letter l D cI cS (tq B 178 186) (rq B) hWM H_1 hTM (B + 178) (xs (i + 1).toNatClampNeg) (xs (i + 2).toNatClampNeg) (ttM B) (n + 1) (by omega) hn1 hMb) lk_L_100 yd_X12_letter hTM (ttM B) rfl (by decide) ⟨rfl, fun _ _ => rfl, hS_1.2.2⟩ (fun q h => h.elim) ⟨Nat.le_of_ble_eq_true rfl, Nat.le_of_ble_eq_true rfl⟩ (Nat.le_of_ble_eq_true rfl) ⟨Nat.le_of_ble_eq_true rfl, Nat.le_of_ble_eq_true rfl⟩ rfl dL_law_680 (fun r_2 H_2 locs_2 p_2 hT_2 hk_2 hS_2 => ?_)
  have hX_2 : va_X b L xs s H_2 := hX_1.kept (hS_2.2.1 b (Nat.not_le.mpr hbB))
  have kX : ∀ q, q < B + 178 → H_2[q]? = H_1[q]? := fun q hq => hk_2 q (fun h => h.elim)
  have hTX := hTX.same (H1 := H_2) (fun q t h => kX q (by obtain ⟨j, rfl, -, z1, -⟩ := tq_some h; omega))
  have hX9_2 : TX D (rq B) _ _ H_2 (rq B (B + 0) 0) := hX9_1.q (kX _ (by rw [qx_1]; omega)) (kX _ (by rw [qx_16]; omega))
  have hu : H_1 = H_2 := p_2
  have hMc : IM D (rq B) (n + 1) H_2 (B + 178) := hu ▸ hMb
  have hX12_2 : RX D (rq B) T k H_2 (B + 178) := hu ▸ hX12
  have hLV2 : LV D cI cS B (n + 1) H_2 := ⟨hTX, hT_2, hMc, _, _, hX9_2, hX12_2⟩
  refine lv_pop hx hb dL_law_683 rfl ?_
  refine lv_goto (tgt := 766) hx hb dL_law_684 (by decide) ?_
  exact kk H_2 locs_2 hS_2.2.2 hX_2 hLV2
set_option maxHeartbeats 4000000 in
set_option maxRecDepth 100000 in
theorem v_byteOf (E : EE p s m args c cL_law RL D cI cS) (hml : c.maxLocals = 4) (hl : lv_has ls 4 [(3, .int i), (2, .ref (B + 178)), (1, .ref (B + 0)), (0, .ref b)]) (hWX : WF (tq B 0 178) (rq B)) (hWM : WF (tq B 178 186) (rq B)) (hLV : LV D cI cS B n H) (hn0 : 0 ≤ n) (hn1 : n + 1 ≤ 600) (hi0 : 0 ≤ i.toInt) (hi1 : i.toInt + 4 ≤ L) (hL : L ≤ 2048) (hX : va_X b L xs s H) (hbB : b < B) (hlo : ∀ x ∈ locs, B ≤ x.base) (kk : KL p l e s m args below meth c ls Q D cI cS n B b L xs) : WL p l e s m args below meth c H locs ls Q 687 := by
  obtain ⟨hTX, hTM, hM0, T, k, hX9, hX12⟩ := hLV
  have hx := E.1
  have hb := E.2.1
  have hv_1 : vp_in (i + 1) L := idx_in (k := 1) (by decide) (by decide) hi0 (by omega) hL
  have hv_2 : vp_in (i + 2) L := idx_in (k := 2) (by decide) (by decide) hi0 (by omega) hL
  have hv_3 : vp_in (i + 3) L := idx_in (k := 3) (by decide) (by decide) hi0 (by omega) hL
  refine lv_aload_n hx hb dL_law_687 rfl (lv_at hl 2 rfl) ?_
  refine lv_aload_n hx hb dL_law_688 rfl (lv_at hl 3 rfl) ?_
  refine lv_iload_n hx hb dL_law_689 rfl (lv_at hl 0 rfl) ?_
  refine lv_iconst (v := 1) hx hb dL_law_690 (by decide) ?_
  refine lv_iadd hx hb dL_law_691 ?_
  refine lw_sldg hx hb hX hv_1 dL_law_692 ?_
  refine lv_aload_n hx hb dL_law_693 rfl (lv_at hl 3 rfl) ?_
  refine lv_iload_n hx hb dL_law_694 rfl (lv_at hl 0 rfl) ?_
  refine lv_iconst (v := 2) hx hb dL_law_695 (by decide) ?_
  refine lv_iadd hx hb dL_law_696 ?_
  refine lw_sldg hx hb hX hv_2 dL_law_697 ?_
  refine th_Vi (A := fun q => B ≤ q) (As := [.int (xs (i + 1).toNatClampNeg), .int (xs (i + 2).toNatClampNeg)]) (rest := []) E hml hl.1 (z_X11_byteOf l D cI cS (tq B 0 178) (rq B) hWX H hTX (B + 0) (xs (i + 1).toNatClampNeg) (xs (i + 2).toNatClampNeg) (ttX B)) lk_L_101 yd_X11_byteOf hTX (ttX B) rfl (by decide) ⟨rfl, fun _ _ => rfl, hlo⟩ (fun q h => (at_in h).1) ⟨Nat.le_of_ble_eq_true rfl, Nat.le_of_ble_eq_true rfl⟩ (Nat.le_of_ble_eq_true rfl) ⟨Nat.le_of_ble_eq_true rfl, Nat.le_of_ble_eq_true rfl⟩ rfl dL_law_698 (fun r_1 H_1 locs_1 p_1 hT_1 hk_1 hS_1 => ?_)
  have hX_1 : va_X b L xs s H_1 := hX.kept (hS_1.2.1 b (Nat.not_le.mpr hbB))
  have kM : ∀ q, B + 178 ≤ q → H_1[q]? = H[q]? := fun q hq => hk_1 q (fun h => by have := (at_in h).2; omega)
  have hTX := hT_1
  have hTM := hTM.same (H1 := H_1) (fun q t h => kM q (by obtain ⟨j, rfl, z1, -, -⟩ := tq_some h; omega))
  have hMa := hM0.kept (H1 := H_1) kM
  have hMb := hMa.mono (N1 := n + 1) (by omega)
  have e5 : fi D 12 5 H_1 (B + 178) = fi D 12 5 H (B + 178) := fi_q (kM _ (by omega))
  have hX9_1 : TX D (rq B) T k H_1 (rq B (B + 0) 0) := hX9.q (hk_1 _ (AT.out (t := 9) ttT (by decide))) (hk_1 _ (AT.out (t := 300) ttR (by decide)))
  have hX12 : RX D (rq B) T k H_1 (B + 178) := hX12.q (fi_q (kM _ (by omega))) (kM _ (by rw [qn_178_4]; omega))
  refine lv_pop hx hb dL_law_701 rfl ?_
  refine lv_aload_n hx hb dL_law_702 rfl (lv_at hl 1 rfl) ?_
  refine lv_aload_n hx hb dL_law_703 rfl (lv_at hl 3 rfl) ?_
  refine lv_iload_n hx hb dL_law_704 rfl (lv_at hl 0 rfl) ?_
  refine lv_iconst (v := 1) hx hb dL_law_705 (by decide) ?_
  refine lv_iadd hx hb dL_law_706 ?_
  refine lw_sldg hx hb hX_1 hv_1 dL_law_707 ?_
  refine lv_aload_n hx hb dL_law_708 rfl (lv_at hl 3 rfl) ?_
  refine lv_iload_n hx hb dL_law_709 rfl (lv_at hl 0 rfl) ?_
  refine lv_iconst (v := 2) hx hb dL_law_710 (by decide) ?_
  refine lv_iadd hx hb dL_law_711 ?_
  refine lw_sldg hx hb hX_1 hv_2 dL_law_712 ?_
  refine th_Vi (A := fun q => B ≤ q) (As := [.int (xs (i + 1).toNatClampNeg), .int (xs (i + 2).toNatClampNeg)]) (rest := []) E hml hl.1 (y_byteOf l D cI cS (tq B 178 186) (rq B) hWM H_1 hTM (B + 178) (xs (i + 1).toNatClampNeg) (xs (i + 2).toNatClampNeg) (ttM B) (n + 1) (by omega) hn1 hMb) lk_L_104 yd_X12_byteOf hTM (ttM B) rfl (by decide) ⟨rfl, fun _ _ => rfl, hS_1.2.2⟩ (fun q h => h.elim) ⟨Nat.le_of_ble_eq_true rfl, Nat.le_of_ble_eq_true rfl⟩ (Nat.le_of_ble_eq_true rfl) ⟨Nat.le_of_ble_eq_true rfl, Nat.le_of_ble_eq_true rfl⟩ rfl dL_law_713 (fun r_2 H_2 locs_2 p_2 hT_2 hk_2 hS_2 => ?_)
  have hX_2 : va_X b L xs s H_2 := hX_1.kept (hS_2.2.1 b (Nat.not_le.mpr hbB))
  have kX : ∀ q, q < B + 178 → H_2[q]? = H_1[q]? := fun q hq => hk_2 q (fun h => h.elim)
  have hTX := hTX.same (H1 := H_2) (fun q t h => kX q (by obtain ⟨j, rfl, -, z1, -⟩ := tq_some h; omega))
  have hX9_2 : TX D (rq B) _ _ H_2 (rq B (B + 0) 0) := hX9_1.q (kX _ (by rw [qx_1]; omega)) (kX _ (by rw [qx_16]; omega))
  have hu : H_1 = H_2 := p_2
  have hMc : IM D (rq B) (n + 1) H_2 (B + 178) := hu ▸ hMb
  have hX12_2 : RX D (rq B) T k H_2 (B + 178) := hu ▸ hX12
  have hLV2 : LV D cI cS B (n + 1) H_2 := ⟨hTX, hT_2, hMc, _, _, hX9_2, hX12_2⟩
  refine lv_pop hx hb dL_law_716 rfl ?_
  refine lv_goto (tgt := 766) hx hb dL_law_717 (by decide) ?_
  exact kk H_2 locs_2 hS_2.2.2 hX_2 hLV2
set_option maxHeartbeats 4000000 in
set_option maxRecDepth 100000 in
theorem v_cause (E : EE p s m args c cL_law RL D cI cS) (hml : c.maxLocals = 4) (hl : lv_has ls 4 [(3, .int i), (2, .ref (B + 178)), (1, .ref (B + 0)), (0, .ref b)]) (hWX : WF (tq B 0 178) (rq B)) (hWM : WF (tq B 178 186) (rq B)) (hLV : LV D cI cS B n H) (hn0 : 0 ≤ n) (hn1 : n + 1 ≤ 600) (hi0 : 0 ≤ i.toInt) (hi1 : i.toInt + 4 ≤ L) (hL : L ≤ 2048) (hX : va_X b L xs s H) (hbB : b < B) (hlo : ∀ x ∈ locs, B ≤ x.base) (kk : KL p l e s m args below meth c ls Q D cI cS n B b L xs) : WL p l e s m args below meth c H locs ls Q 720 := by
  obtain ⟨hTX, hTM, hM0, T, k, hX9, hX12⟩ := hLV
  have hx := E.1
  have hb := E.2.1
  have hv_1 : vp_in (i + 1) L := idx_in (k := 1) (by decide) (by decide) hi0 (by omega) hL
  have hv_2 : vp_in (i + 2) L := idx_in (k := 2) (by decide) (by decide) hi0 (by omega) hL
  have hv_3 : vp_in (i + 3) L := idx_in (k := 3) (by decide) (by decide) hi0 (by omega) hL
  refine lv_aload_n hx hb dL_law_720 rfl (lv_at hl 2 rfl) ?_
  refine lv_aload_n hx hb dL_law_721 rfl (lv_at hl 3 rfl) ?_
  refine lv_iload_n hx hb dL_law_722 rfl (lv_at hl 0 rfl) ?_
  refine lv_iconst (v := 1) hx hb dL_law_723 (by decide) ?_
  refine lv_iadd hx hb dL_law_724 ?_
  refine lw_sldg hx hb hX hv_1 dL_law_725 ?_
  refine th_Vi (A := fun q => B ≤ q) (As := [.int (xs (i + 1).toNatClampNeg)]) (rest := []) E hml hl.1 (z_X11_cause l D cI cS (tq B 0 178) (rq B) hWX H hTX (B + 0) (xs (i + 1).toNatClampNeg) (ttX B)) lk_L_105 yd_X11_cause hTX (ttX B) rfl (by decide) ⟨rfl, fun _ _ => rfl, hlo⟩ (fun q h => (at_in h).1) ⟨Nat.le_of_ble_eq_true rfl, Nat.le_of_ble_eq_true rfl⟩ (Nat.le_of_ble_eq_true rfl) ⟨Nat.le_of_ble_eq_true rfl, Nat.le_of_ble_eq_true rfl⟩ rfl dL_law_726 (fun r_1 H_1 locs_1 p_1 hT_1 hk_1 hS_1 => ?_)
  have hX_1 : va_X b L xs s H_1 := hX.kept (hS_1.2.1 b (Nat.not_le.mpr hbB))
  have kM : ∀ q, B + 178 ≤ q → H_1[q]? = H[q]? := fun q hq => hk_1 q (fun h => by have := (at_in h).2; omega)
  have hTX := hT_1
  have hTM := hTM.same (H1 := H_1) (fun q t h => kM q (by obtain ⟨j, rfl, z1, -, -⟩ := tq_some h; omega))
  have hMa := hM0.kept (H1 := H_1) kM
  have hMb := hMa.mono (N1 := n + 1) (by omega)
  have e5 : fi D 12 5 H_1 (B + 178) = fi D 12 5 H (B + 178) := fi_q (kM _ (by omega))
  have hX9_1 : TX D (rq B) T k H_1 (rq B (B + 0) 0) := hX9.q (hk_1 _ (AT.out (t := 9) ttT (by decide))) (hk_1 _ (AT.out (t := 300) ttR (by decide)))
  have hX12 : RX D (rq B) T k H_1 (B + 178) := hX12.q (fi_q (kM _ (by omega))) (kM _ (by rw [qn_178_4]; omega))
  refine lv_pop hx hb dL_law_729 rfl ?_
  refine lv_aload_n hx hb dL_law_730 rfl (lv_at hl 1 rfl) ?_
  refine lv_aload_n hx hb dL_law_731 rfl (lv_at hl 3 rfl) ?_
  refine lv_iload_n hx hb dL_law_732 rfl (lv_at hl 0 rfl) ?_
  refine lv_iconst (v := 1) hx hb dL_law_733 (by decide) ?_
  refine lv_iadd hx hb dL_law_734 ?_
  refine lw_sldg hx hb hX_1 hv_1 dL_law_735 ?_
  refine th_Vi (A := fun q => B ≤ q) (As := [.int (xs (i + 1).toNatClampNeg)]) (rest := []) E hml hl.1 (y_cause l D cI cS (tq B 178 186) (rq B) hWM H_1 hTM (B + 178) (xs (i + 1).toNatClampNeg) (ttM B) (n + 1) (by omega) hn1 hMb) lk_L_108 yd_X12_cause hTM (ttM B) rfl (by decide) ⟨rfl, fun _ _ => rfl, hS_1.2.2⟩ (fun q h => h.elim) ⟨Nat.le_of_ble_eq_true rfl, Nat.le_of_ble_eq_true rfl⟩ (Nat.le_of_ble_eq_true rfl) ⟨Nat.le_of_ble_eq_true rfl, Nat.le_of_ble_eq_true rfl⟩ rfl dL_law_736 (fun r_2 H_2 locs_2 p_2 hT_2 hk_2 hS_2 => ?_)
  have hX_2 : va_X b L xs s H_2 := hX_1.kept (hS_2.2.1 b (Nat.not_le.mpr hbB))
  have kX : ∀ q, q < B + 178 → H_2[q]? = H_1[q]? := fun q hq => hk_2 q (fun h => h.elim)
  have hTX := hTX.same (H1 := H_2) (fun q t h => kX q (by obtain ⟨j, rfl, -, z1, -⟩ := tq_some h; omega))
  have hX9_2 : TX D (rq B) _ _ H_2 (rq B (B + 0) 0) := hX9_1.q (kX _ (by rw [qx_1]; omega)) (kX _ (by rw [qx_16]; omega))
  have hu : H_1 = H_2 := p_2
  have hMc : IM D (rq B) (n + 1) H_2 (B + 178) := hu ▸ hMb
  have hX12_2 : RX D (rq B) T k H_2 (B + 178) := hu ▸ hX12
  have hLV2 : LV D cI cS B (n + 1) H_2 := ⟨hTX, hT_2, hMc, _, _, hX9_2, hX12_2⟩
  refine lv_pop hx hb dL_law_739 rfl ?_
  refine lv_goto (tgt := 766) hx hb dL_law_740 (by decide) ?_
  exact kk H_2 locs_2 hS_2.2.2 hX_2 hLV2
set_option maxHeartbeats 4000000 in
set_option maxRecDepth 100000 in
theorem v_count (E : EE p s m args c cL_law RL D cI cS) (hml : c.maxLocals = 4) (hl : lv_has ls 4 [(3, .int i), (2, .ref (B + 178)), (1, .ref (B + 0)), (0, .ref b)]) (hWX : WF (tq B 0 178) (rq B)) (hWM : WF (tq B 178 186) (rq B)) (hLV : LV D cI cS B n H) (hn0 : 0 ≤ n) (hn1 : n + 1 ≤ 600) (hi0 : 0 ≤ i.toInt) (hi1 : i.toInt + 4 ≤ L) (hL : L ≤ 2048) (hX : va_X b L xs s H) (hbB : b < B) (hlo : ∀ x ∈ locs, B ≤ x.base) (kk : KL p l e s m args below meth c ls Q D cI cS n B b L xs) : WL p l e s m args below meth c H locs ls Q 743 := by
  obtain ⟨hTX, hTM, hM0, T, k, hX9, hX12⟩ := hLV
  have hx := E.1
  have hb := E.2.1
  have hv_1 : vp_in (i + 1) L := idx_in (k := 1) (by decide) (by decide) hi0 (by omega) hL
  have hv_2 : vp_in (i + 2) L := idx_in (k := 2) (by decide) (by decide) hi0 (by omega) hL
  have hv_3 : vp_in (i + 3) L := idx_in (k := 3) (by decide) (by decide) hi0 (by omega) hL
  refine lv_aload_n hx hb dL_law_743 rfl (lv_at hl 2 rfl) ?_
  refine lv_aload_n hx hb dL_law_744 rfl (lv_at hl 3 rfl) ?_
  refine lv_iload_n hx hb dL_law_745 rfl (lv_at hl 0 rfl) ?_
  refine lv_iconst (v := 1) hx hb dL_law_746 (by decide) ?_
  refine lv_iadd hx hb dL_law_747 ?_
  refine lw_sldg hx hb hX hv_1 dL_law_748 ?_
  refine th_Vi (A := fun q => B ≤ q) (As := [.int (xs (i + 1).toNatClampNeg)]) (rest := []) E hml hl.1 (z_X11_count l D cI cS (tq B 0 178) (rq B) hWX H hTX (B + 0) (xs (i + 1).toNatClampNeg) (ttX B)) lk_L_109 yd_X11_count hTX (ttX B) rfl (by decide) ⟨rfl, fun _ _ => rfl, hlo⟩ (fun q h => (at_in h).1) ⟨Nat.le_of_ble_eq_true rfl, Nat.le_of_ble_eq_true rfl⟩ (Nat.le_of_ble_eq_true rfl) ⟨Nat.le_of_ble_eq_true rfl, Nat.le_of_ble_eq_true rfl⟩ rfl dL_law_749 (fun r_1 H_1 locs_1 p_1 hT_1 hk_1 hS_1 => ?_)
  have hX_1 : va_X b L xs s H_1 := hX.kept (hS_1.2.1 b (Nat.not_le.mpr hbB))
  have kM : ∀ q, B + 178 ≤ q → H_1[q]? = H[q]? := fun q hq => hk_1 q (fun h => by have := (at_in h).2; omega)
  have hTX := hT_1
  have hTM := hTM.same (H1 := H_1) (fun q t h => kM q (by obtain ⟨j, rfl, z1, -, -⟩ := tq_some h; omega))
  have hMa := hM0.kept (H1 := H_1) kM
  have hMb := hMa.mono (N1 := n + 1) (by omega)
  have e5 : fi D 12 5 H_1 (B + 178) = fi D 12 5 H (B + 178) := fi_q (kM _ (by omega))
  have hX9_1 : TX D (rq B) T k H_1 (rq B (B + 0) 0) := hX9.q (hk_1 _ (AT.out (t := 9) ttT (by decide))) (hk_1 _ (AT.out (t := 300) ttR (by decide)))
  have hX12 : RX D (rq B) T k H_1 (B + 178) := hX12.q (fi_q (kM _ (by omega))) (kM _ (by rw [qn_178_4]; omega))
  refine lv_pop hx hb dL_law_752 rfl ?_
  refine lv_aload_n hx hb dL_law_753 rfl (lv_at hl 1 rfl) ?_
  refine lv_aload_n hx hb dL_law_754 rfl (lv_at hl 3 rfl) ?_
  refine lv_iload_n hx hb dL_law_755 rfl (lv_at hl 0 rfl) ?_
  refine lv_iconst (v := 1) hx hb dL_law_756 (by decide) ?_
  refine lv_iadd hx hb dL_law_757 ?_
  refine lw_sldg hx hb hX_1 hv_1 dL_law_758 ?_
  refine th_Vi (A := fun q => B ≤ q) (As := [.int (xs (i + 1).toNatClampNeg)]) (rest := []) E hml hl.1 (y_count l D cI cS (tq B 178 186) (rq B) hWM H_1 hTM (B + 178) (xs (i + 1).toNatClampNeg) (ttM B) (n + 1) (by omega) hn1 hMb) lk_L_112 yd_X12_count hTM (ttM B) rfl (by decide) ⟨rfl, fun _ _ => rfl, hS_1.2.2⟩ (fun q h => h.elim) ⟨Nat.le_of_ble_eq_true rfl, Nat.le_of_ble_eq_true rfl⟩ (Nat.le_of_ble_eq_true rfl) ⟨Nat.le_of_ble_eq_true rfl, Nat.le_of_ble_eq_true rfl⟩ rfl dL_law_759 (fun r_2 H_2 locs_2 p_2 hT_2 hk_2 hS_2 => ?_)
  have hX_2 : va_X b L xs s H_2 := hX_1.kept (hS_2.2.1 b (Nat.not_le.mpr hbB))
  have kX : ∀ q, q < B + 178 → H_2[q]? = H_1[q]? := fun q hq => hk_2 q (fun h => h.elim)
  have hTX := hTX.same (H1 := H_2) (fun q t h => kX q (by obtain ⟨j, rfl, -, z1, -⟩ := tq_some h; omega))
  have hX9_2 : TX D (rq B) _ _ H_2 (rq B (B + 0) 0) := hX9_1.q (kX _ (by rw [qx_1]; omega)) (kX _ (by rw [qx_16]; omega))
  have hu : H_1 = H_2 := p_2
  have hMc : IM D (rq B) (n + 1) H_2 (B + 178) := hu ▸ hMb
  have hX12_2 : RX D (rq B) T k H_2 (B + 178) := hu ▸ hX12
  have hLV2 : LV D cI cS B (n + 1) H_2 := ⟨hTX, hT_2, hMc, _, _, hX9_2, hX12_2⟩
  refine lv_pop hx hb dL_law_762 rfl ?_
  refine lv_goto (tgt := 766) hx hb dL_law_763 (by decide) ?_
  exact kk H_2 locs_2 hS_2.2.2 hX_2 hLV2
end LWC
