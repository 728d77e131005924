/-! CONTRACTS over a typed heap, their bodies, their ends, their calls -/
def Bt (D : va_G) (cI cS : ClassId) (τ : Nat → Option Nat) (ρ : Nat → Nat → Nat) (H : Heap) : Heap → State → Prop := fun u t => t.heap = u ∧ TH D cI cS τ ρ u ∧ u.size = H.size
def WS (y : MethodName) (b : ByteArray) (n : Nat) (rt : Option FieldType) : List Cond := .code y b n rt :: TT
def rmO (fr lo : Nat) : Room := { frames := fr, cells := 0, slots := 0, locals := lo }
def MI (l : Launch) (D : va_G) (cI cS : ClassId) (τ : Nat → Option Nat) (ρ : Nat → Nat → Nat) (y : MethodName) (b : ByteArray) (n : Nat) (rt : Option FieldType) (fr lo : Nat) (H : Heap) (av : List Value) (post : Int32 → Heap → Prop) (A : Nat → Prop) : Prop :=
  Met l y (WS y b n rt) (rmO fr lo) (va_Pc av (fun U => U.heap = H ∧ KK D cI cS U)) (va_Qi post (Bt D cI cS τ ρ H) A) 0 0 A
def MV (l : Launch) (D : va_G) (cI cS : ClassId) (τ : Nat → Option Nat) (ρ : Nat → Nat → Nat) (y : MethodName) (b : ByteArray) (n : Nat) (rt : Option FieldType) (fr lo : Nat) (H : Heap) (av : List Value) (post : Heap → Prop) (A : Nat → Prop) : Prop :=
  Met l y (WS y b n rt) (rmO fr lo) (va_Pc av (fun U => U.heap = H ∧ KK D cI cS U)) (va_Qv post (Bt D cI cS τ ρ H) A) 0 0 A
def MR (l : Launch) (D : va_G) (cI cS : ClassId) (τ : Nat → Option Nat) (ρ : Nat → Nat → Nat) (y : MethodName) (b : ByteArray) (n : Nat) (rt : Option FieldType) (fr lo : Nat) (H : Heap) (av : List Value) (post : Nat → Heap → Prop) (A : Nat → Prop) : Prop :=
  Met l y (WS y b n rt) (rmO fr lo) (va_Pc av (fun U => U.heap = H ∧ KK D cI cS U)) (va_Qr (fun _ : Heap => True) (fun u a t => Bt D cI cS τ ρ H u t ∧ post a u) A) 0 0 A
section THM
variable {l : Launch} {D : va_G} {cI cS : ClassId} {τ : Nat → Option Nat} {ρ : Nat → Nat → Nat} {y : MethodName} {b : ByteArray} {n : Nat} {rt : Option FieldType} {fr lo : Nat} {H : Heap} {av : List Value} {A : Nat → Prop}
theorem MM.of {Qc : Array Value → State → Outcome → State → Prop} (hy : plainName y.cls = true) (hn : (lg_sl av).length ≤ n) (body : ∀ (p : Program) (e : Env) (s : State) (m : MethodId) (args : Array Value) (below : List Frame) (meth : Method) (c : Code), EE p s m args c b y.cls D cI cS → c.maxLocals = n → meth.sig.returnType = rt → meth.locks = false → s.heap = H → ∀ ls : Array Slot, lv_has ls n (lv_args 0 av) → W p l e (rmO fr lo) s m args below meth c H [] 0 0 (MQ below Qc args s 0 0 A) (F0 m 0 ls [])) :
    Met l y (WS y b n rt) (rmO fr lo) (va_Pc av (fun U => U.heap = H ∧ KK D cI cS U)) Qc 0 0 A := by
  refine Met.ofW (cc := b) (maxL := n) (ret := rt) hy rfl ?_
  intro p e s m args below meth c s₁ B hml hv
  obtain ⟨rfl, hH, hK⟩ := hv
  have hown := findClass_of_methodNamed B.named
  have hts := atoms_spec (ws := WS y b n rt) B.pre
  have hl := lv_entry av (n := n) hn
  rw [lg_entry_eq, hH]
  exact body p e s m _ below meth c ⟨B.exec, B.bytes, hown, fun w h => hts w (List.mem_cons_of_mem _ h), hK⟩ hml B.returns B.notSynchronized hH _ hl
theorem MI.of {post : Int32 → Heap → Prop} (hy : plainName y.cls = true) (hn : (lg_sl av).length ≤ n) (body : ∀ (p : Program) (e : Env) (s : State) (m : MethodId) (args : Array Value) (below : List Frame) (meth : Method) (c : Code), EE p s m args c b y.cls D cI cS → c.maxLocals = n → meth.sig.returnType = rt → meth.locks = false → s.heap = H → ∀ ls : Array Slot, lv_has ls n (lv_args 0 av) → W p l e (rmO fr lo) s m args below meth c H [] 0 0 (MQ below (va_Qi post (Bt D cI cS τ ρ H) A) args s 0 0 A) (F0 m 0 ls [])) : MI l D cI cS τ ρ y b n rt fr lo H av post A := MM.of hy hn body
theorem MV.of {post : Heap → Prop} (hy : plainName y.cls = true) (hn : (lg_sl av).length ≤ n) (body : ∀ (p : Program) (e : Env) (s : State) (m : MethodId) (args : Array Value) (below : List Frame) (meth : Method) (c : Code), EE p s m args c b y.cls D cI cS → c.maxLocals = n → meth.sig.returnType = rt → meth.locks = false → s.heap = H → ∀ ls : Array Slot, lv_has ls n (lv_args 0 av) → W p l e (rmO fr lo) s m args below meth c H [] 0 0 (MQ below (va_Qv post (Bt D cI cS τ ρ H) A) args s 0 0 A) (F0 m 0 ls [])) : MV l D cI cS τ ρ y b n rt fr lo H av post A := MM.of hy hn body
theorem MR.of {post : Nat → Heap → Prop} (hy : plainName y.cls = true) (hn : (lg_sl av).length ≤ n) (body : ∀ (p : Program) (e : Env) (s : State) (m : MethodId) (args : Array Value) (below : List Frame) (meth : Method) (c : Code), EE p s m args c b y.cls D cI cS → c.maxLocals = n → meth.sig.returnType = rt → meth.locks = false → s.heap = H → ∀ ls : Array Slot, lv_has ls n (lv_args 0 av) → W p l e (rmO fr lo) s m args below meth c H [] 0 0 (MQ below (va_Qr (fun _ : Heap => True) (fun u a t => Bt D cI cS τ ρ H u t ∧ post a u) A) args s 0 0 A) (F0 m 0 ls [])) : MR l D cI cS τ ρ y b n rt fr lo H av post A := MM.of hy hn body
end THM
section THC
variable {p : Program} {l : Launch} {e : Env} {R : Room} {s : State} {m : MethodId} {args : Array Value} {below : List Frame} {meth : Method} {c : Code} {H : Heap} {locs : List Loc} {cells slots : Nat} {Q : State → Prop}
variable {cc : ByteArray} {pc : Nat} {ls : Array Slot} {rest : List Value} {D : va_G} {cI cS : ClassId} {τ : Nat → Option Nat} {ρ : Nat → Nat → Nat} {A : Nat → Prop} {a : Nat} {own : String} {H0 Hc : Heap}
theorem SS.F (hs : s.heap = H) (hS : SS A H Hc locs) {t : State} (ht : t.heap = Hc) : va_F A s t := ⟨by rw [ht, hs]; exact Nat.le_of_eq hS.1.symm, fun q _ h => by rw [ht, hs]; exact hS.2.1 q h⟩
theorem th_iret {post : Int32 → Heap → Prop} {v : Int32} (E : EE p s m args c cc own D cI cS) (hr : meth.sig.returnType = some .int) (hlk : meth.locks = false) (hs : s.heap = H) (hT : TH D cI cS τ ρ Hc) (hS : SS A H Hc locs) (hp : post v Hc) (hdg : decode cc pc = .ok (.ireturn, 1)) :
    W p l e R s m args below meth c Hc locs 0 0 (MQ below (va_Qi post (Bt D cI cS τ ρ H) A) args s 0 0 A) (F0 m pc ls [.int v]) :=
  W.iret E.1 E.2.1 hr (fun t ht hW => ⟨⟨v, Hc, rfl, hp, ht, hT, hS.1⟩, hS.F hs ht⟩) hS.2.2 hdg hlk
theorem nar_b {v : Int32} (h : v = 0 ∨ v = 1) : narrow .boolean (.int v) = .int v := by
  rcases h with rfl | rfl <;> rfl
theorem th_zret {post : Int32 → Heap → Prop} {v : Int32} (E : EE p s m args c cc own D cI cS) (hr : meth.sig.returnType = some .boolean) (hlk : meth.locks = false) (hs : s.heap = H) (hv : v = 0 ∨ v = 1) (hT : TH D cI cS τ ρ Hc) (hS : SS A H Hc locs) (hp : post v Hc) (hdg : decode cc pc = .ok (.ireturn, 1)) :
    W p l e R s m args below meth c Hc locs 0 0 (MQ below (va_Qi post (Bt D cI cS τ ρ H) A) args s 0 0 A) (F0 m pc ls [.int v]) :=
  W.zret E.1 E.2.1 hr (nar_b hv) (fun t ht hW => ⟨⟨v, Hc, rfl, hp, ht, hT, hS.1⟩, hS.F hs ht⟩) hS.2.2 hdg hlk
theorem th_vret {post : Heap → Prop} (E : EE p s m args c cc own D cI cS) (hr : meth.sig.returnType = none) (hlk : meth.locks = false) (hs : s.heap = H) (hT : TH D cI cS τ ρ Hc) (hS : SS A H Hc locs) (hp : post Hc) (hdg : decode cc pc = .ok (.return_, 1)) :
    W p l e R s m args below meth c Hc locs 0 0 (MQ below (va_Qv post (Bt D cI cS τ ρ H) A) args s 0 0 A) (F0 m pc ls []) :=
  W.vret E.1 E.2.1 hr (fun t ht hW => ⟨⟨Hc, rfl, hp, ht, hT, hS.1⟩, hS.F hs ht⟩) hS.2.2 hdg hlk
theorem th_aret {post : Nat → Heap → Prop} {v : Nat} {C : String} (E : EE p s m args c cc own D cI cS) (hr : meth.sig.returnType = some (.object C)) (hlk : meth.locks = false) (hs : s.heap = H) (hT : TH D cI cS τ ρ Hc) (hS : SS A H Hc locs) (hp : post v Hc) (hdg : decode cc pc = .ok (.areturn, 1)) :
    W p l e R s m args below meth c Hc locs 0 0 (MQ below (va_Qr (fun _ : Heap => True) (fun u a t => Bt D cI cS τ ρ H u t ∧ post a u) A) args s 0 0 A) (F0 m pc ls [.ref v]) :=
  W.aret E.1 E.2.1 hr (Or.inl ⟨C, rfl⟩) (Or.inr ⟨v, rfl⟩) (fun t ht hW => ⟨⟨Hc, v, rfl, trivial, ⟨ht, hT, hS.1⟩, hp⟩, hS.F hs ht⟩) hS.2.2 hdg hlk
theorem th_recv (E : EE p s m args c cc own D cI cS) (hT : TH D cI cS τ ρ H) {t N : Nat} {T : u_T} {C : String} (ha : τ a = some t) (ht : t < 13) (hc : vwCl[t]? = some (C, T, N)) : ∃ cell : Cell, H[a]? = some cell ∧ cell.vm.isStatics = false ∧ s.vm.findClass C = some cell.cls := by
  obtain ⟨⟨cell, g1, g2, g3, -⟩, -⟩ := hT.ob ha ht
  exact ⟨cell, g1, by rw [g3]; rfl, by rw [g2]; exact (E.2.2.2.2.1 t _ hc).2.1⟩
theorem th_blind {av : List Value} {H : Heap} : FrameBlind (va_Pc av (fun U => U.heap = H ∧ KK D cI cS U)) := fun a U g mk q => by
  obtain ⟨q0, q1, qK⟩ := q
  exact ⟨q0, q1, va_K.moved (u := U) (U := U.calling g mk a) (Vm.Alike.refl U.vm) qK⟩
theorem th_back {A1 : Nat → Prop} {H1 : Heap} {locs1 : List Loc} {z : State} {u : Heap} (hB : Bt D cI cS τ ρ H u z) (ht : z.heap = H1) (hk : ∀ q : Nat, q < H.size → ¬ A1 q → H1[q]? = H[q]?) (hAA : ∀ q, A1 q → A q) (hS : SS A H0 H locs) (hS1 : va_S A H0 H1 locs1) :
    u = H1 ∧ TH D cI cS τ ρ H1 ∧ (∀ q : Nat, ¬ A1 q → H1[q]? = H[q]?) ∧ SS A H0 H1 locs1 := by
  obtain ⟨h1, h2, h3⟩ := hB
  have e : u = H1 := h1.symm.trans ht
  subst e
  have hk' : ∀ q : Nat, ¬ A1 q → u[q]? = H[q]? := fun q hn => by
    rcases Nat.lt_or_ge q H.size with z | z
    · exact hk q z hn
    · rw [Array.getElem?_eq_none (by omega), Array.getElem?_eq_none z]
  exact ⟨rfl, h2, hk', h3.trans hS.1, fun q hn => (hk' q (fun z => hn (hAA q z))).trans (hS.2.1 q hn), hS1.2.2⟩
theorem th_Vi {y : MethodName} {b : ByteArray} {n : Nat} {rt : Option FieldType} {fr lo idx nL t N : Nat} {C : String} {T : u_T} {As st0 : List Value} {post : Int32 → Heap → Prop} {A1 : Nat → Prop} (E : EE p s m args c cc own D cI cS) (hml : c.maxLocals = nL) (hl : ls.size = nL) (hM : MI l D cI cS τ ρ y b n rt fr lo H (.ref a :: As) post A1) (hg : GoodIn TT (wsV own idx C y (WS y b n rt)))
    (hyd : y.cls = C ∧ y.cls ≠ "java/lang/invoke/MethodHandle" ∧ y.cls ≠ "java/lang/invoke/VarHandle" ∧ (parseMethodDescriptor y.desc).map (fun d => d.parameters.length) = some As.length) (hT : TH D cI cS τ ρ H) (ha : τ a = some t) (hc : vwCl[t]? = some (C, T, N)) (ht : t < 13) (hS : SS A H0 H locs) (hAA : ∀ q, A1 q → A q) (hR : fr + 1 ≤ R.frames ∧ 8 + (n + 11) + lo ≤ R.locals) (hw : (rest.map fun v => v.category).sum ≤ 8) (hcs : cells ≤ R.cells ∧ slots ≤ R.slots) (hst : st0 = As.reverse ++ .ref a :: rest) (hdg : decode cc pc = .ok (.invokevirtual idx, 3))
    (kk : ∀ (r : Int32) (H1 : Heap) (locs1 : List Loc), post r H1 → TH D cI cS τ ρ H1 → (∀ q : Nat, ¬ A1 q → H1[q]? = H[q]?) → SS A H0 H1 locs1 → W p l e R s m args below meth c H1 locs1 cells slots Q (F0 m (pc + 3) ls (.int r :: rest))) : W p l e R s m args below meth c H locs cells slots Q (F0 m pc ls st0) := by
  subst hst
  refine va_calli (va_runV (As := As) (rest := rest) ⟨E.1, E.2.1, hml, E.2.2.1, E.2.2.2.1⟩ hM (cwV As.length E.2.2.2.1 hg rfl rfl rfl hyd hR) ⟨th_blind, th_recv E hT ha ht hc, fun U hU hW => ⟨rfl, hU, va_K.moved hW.alike E.2.2.2.2⟩⟩ rfl rfl hl rfl (lv_room hw) hdg hcs) hS.va (fun q _ h => hAA q h) hAA (fun r u z H1 locs1 hz hvm hp hB hsz hk hS1 => ?_)
  obtain ⟨rfl, hT1, hk1, hS2⟩ := th_back hB hz hk hAA hS hS1
  exact kk r u locs1 hp hT1 hk1 hS2
theorem th_Vv {y : MethodName} {b : ByteArray} {n : Nat} {rt : Option FieldType} {fr lo idx nL t N : Nat} {C : String} {T : u_T} {As st0 : List Value} {post : Heap → Prop} {A1 : Nat → Prop} (E : EE p s m args c cc own D cI cS) (hml : c.maxLocals = nL) (hl : ls.size = nL) (hM : MV l D cI cS τ ρ y b n rt fr lo H (.ref a :: As) post A1) (hg : GoodIn TT (wsV own idx C y (WS y b n rt)))
    (hyd : y.cls = C ∧ y.cls ≠ "java/lang/invoke/MethodHandle" ∧ y.cls ≠ "java/lang/invoke/VarHandle" ∧ (parseMethodDescriptor y.desc).map (fun d => d.parameters.length) = some As.length) (hT : TH D cI cS τ ρ H) (ha : τ a = some t) (hc : vwCl[t]? = some (C, T, N)) (ht : t < 13) (hS : SS A H0 H locs) (hAA : ∀ q, A1 q → A q) (hR : fr + 1 ≤ R.frames ∧ 8 + (n + 11) + lo ≤ R.locals) (hw : (rest.map fun v => v.category).sum ≤ 8) (hcs : cells ≤ R.cells ∧ slots ≤ R.slots) (hst : st0 = As.reverse ++ .ref a :: rest) (hdg : decode cc pc = .ok (.invokevirtual idx, 3))
    (kk : ∀ (H1 : Heap) (locs1 : List Loc), post H1 → TH D cI cS τ ρ H1 → (∀ q : Nat, ¬ A1 q → H1[q]? = H[q]?) → SS A H0 H1 locs1 → W p l e R s m args below meth c H1 locs1 cells slots Q (F0 m (pc + 3) ls rest)) : W p l e R s m args below meth c H locs cells slots Q (F0 m pc ls st0) := by
  subst hst
  refine va_callv (va_runV (As := As) (rest := rest) ⟨E.1, E.2.1, hml, E.2.2.1, E.2.2.2.1⟩ hM (cwV As.length E.2.2.2.1 hg rfl rfl rfl hyd hR) ⟨th_blind, th_recv E hT ha ht hc, fun U hU hW => ⟨rfl, hU, va_K.moved hW.alike E.2.2.2.2⟩⟩ rfl rfl hl rfl (lv_room hw) hdg hcs) hS.va (fun q _ h => hAA q h) hAA (fun u z H1 locs1 hz hvm hp hB hsz hk hS1 => ?_)
  obtain ⟨rfl, hT1, hk1, hS2⟩ := th_back hB hz hk hAA hS hS1
  exact kk u locs1 hp hT1 hk1 hS2
theorem th_Vr {y : MethodName} {b : ByteArray} {n : Nat} {rt : Option FieldType} {fr lo idx nL t N : Nat} {C : String} {T : u_T} {As st0 : List Value} {post : Nat → Heap → Prop} {A1 : Nat → Prop} (E : EE p s m args c cc own D cI cS) (hml : c.maxLocals = nL) (hl : ls.size = nL) (hM : MR l D cI cS τ ρ y b n rt fr lo H (.ref a :: As) post A1) (hg : GoodIn TT (wsV own idx C y (WS y b n rt)))
    (hyd : y.cls = C ∧ y.cls ≠ "java/lang/invoke/MethodHandle" ∧ y.cls ≠ "java/lang/invoke/VarHandle" ∧ (parseMethodDescriptor y.desc).map (fun d => d.parameters.length) = some As.length) (hT : TH D cI cS τ ρ H) (ha : τ a = some t) (hc : vwCl[t]? = some (C, T, N)) (ht : t < 13) (hS : SS A H0 H locs) (hAA : ∀ q, A1 q → A q) (hR : fr + 1 ≤ R.frames ∧ 8 + (n + 11) + lo ≤ R.locals) (hw : (rest.map fun v => v.category).sum ≤ 8) (hcs : cells ≤ R.cells ∧ slots ≤ R.slots) (hst : st0 = As.reverse ++ .ref a :: rest) (hdg : decode cc pc = .ok (.invokevirtual idx, 3))
    (kk : ∀ (r : Nat) (H1 : Heap) (locs1 : List Loc), post r H1 → TH D cI cS τ ρ H1 → (∀ q : Nat, ¬ A1 q → H1[q]? = H[q]?) → SS A H0 H1 locs1 → W p l e R s m args below meth c H1 locs1 cells slots Q (F0 m (pc + 3) ls (.ref r :: rest))) : W p l e R s m args below meth c H locs cells slots Q (F0 m pc ls st0) := by
  subst hst
  refine va_callr (va_runV (As := As) (rest := rest) ⟨E.1, E.2.1, hml, E.2.2.1, E.2.2.2.1⟩ hM (cwV As.length E.2.2.2.1 hg rfl rfl rfl hyd hR) ⟨th_blind, th_recv E hT ha ht hc, fun U hU hW => ⟨rfl, hU, va_K.moved hW.alike E.2.2.2.2⟩⟩ rfl rfl hl rfl (lv_room hw) hdg hcs) hS.va (fun q _ h => hAA q h) hAA (fun u ra z H1 locs1 hz hvm hp hB hsz hk hS1 => ?_)
  obtain ⟨rfl, hT1, hk1, hS2⟩ := th_back hB.1 hz hk hAA hS hS1
  exact kk ra u locs1 hB.2 hT1 hk1 hS2
theorem th_Si {y : MethodName} {b : ByteArray} {n : Nat} {rt : Option FieldType} {fr lo idx nL : Nat} {As st0 : List Value} {post : Int32 → Heap → Prop} {A1 : Nat → Prop} (E : EE p s m args c cc own D cI cS) (hml : c.maxLocals = nL) (hl : ls.size = nL) (hM : MI l D cI cS τ ρ y b n rt fr lo H As post A1) (hg : GoodIn TT (wsS own idx y (WS y b n rt)))
    (hyd : y.cls = own ∧ y.cls ≠ "java/lang/invoke/MethodHandle" ∧ y.cls ≠ "java/lang/invoke/VarHandle" ∧ (parseMethodDescriptor y.desc).map (fun d => d.parameters.length) = some As.length) (hS : SS A H0 H locs) (hAA : ∀ q, A1 q → A q) (hR : fr + 1 ≤ R.frames ∧ 8 + (n + 11) + lo ≤ R.locals) (hw : (rest.map fun v => v.category).sum ≤ 8) (hcs : cells ≤ R.cells ∧ slots ≤ R.slots) (hst : st0 = As.reverse ++ rest) (hdg : decode cc pc = .ok (.invokestatic idx, 3))
    (kk : ∀ (r : Int32) (H1 : Heap) (locs1 : List Loc), post r H1 → TH D cI cS τ ρ H1 → (∀ q : Nat, ¬ A1 q → H1[q]? = H[q]?) → SS A H0 H1 locs1 → W p l e R s m args below meth c H1 locs1 cells slots Q (F0 m (pc + 3) ls (.int r :: rest))) : W p l e R s m args below meth c H locs cells slots Q (F0 m pc ls st0) := by
  subst hst
  refine va_calli (va_runS (As := As) (rest := rest) ⟨E.1, E.2.1, hml, E.2.2.1, E.2.2.2.1⟩ hM (cwS As.length E.2.2.2.1 hg rfl rfl rfl hyd hR) ⟨th_blind, fun U hU hW => ⟨rfl, hU, va_K.moved hW.alike E.2.2.2.2⟩⟩ rfl rfl hl rfl (lv_room hw) hdg hcs) hS.va (fun q _ h => hAA q h) hAA (fun r u z H1 locs1 hz hvm hp hB hsz hk hS1 => ?_)
  obtain ⟨rfl, hT1, hk1, hS2⟩ := th_back hB hz hk hAA hS hS1
  exact kk r u locs1 hp hT1 hk1 hS2
end THC
section THCP
variable {p : Program} {l : Launch} {e : Env} {R : Room} {s : State} {m : MethodId} {args : Array Value} {below : List Frame} {meth : Method} {c : Code} {H : Heap} {locs : List Loc} {cells slots : Nat} {Q : State → Prop}
variable {cc : ByteArray} {pc : Nat} {ls : Array Slot} {rest : List Value} {D : va_G} {cI cS : ClassId} {τ : Nat → Option Nat} {ρ : Nat → Nat → Nat} {A : Nat → Prop} {a : Nat} {own : String} {H0 : Heap}
/-- System.arraycopy between two rows of numbers of one length: where it wrote, and that all else stays -/
theorem th_copy {t nL idx a0 : Nat} {sp dp n : Int32} (E : EE p s m args c cc own D cI cS) (hml : c.maxLocals = nL) (hlz : ls.size = nL) (hT : TH D cI cS τ ρ H) (hS : SS A H0 H locs) (ha0 : τ a0 = some t) (ha : τ a = some t) (haA : A a) (w1 : Cond.methodLink own idx arraycopyName ∈ TT) (w2 : Cond.native arraycopyName ∈ TT) (w3 : Cond.static arraycopyName ∈ TT) (w4 : Cond.initialized "java/lang/System" ∈ TT)
    (ht : 100 ≤ t) (h1 : ¬ sp < 0) (h2 : ¬ dp < 0) (h3 : ¬ n < 0) (h4 : sp.toNatClampNeg + n.toNatClampNeg ≤ t - 100) (h5 : dp.toNatClampNeg + n.toNatClampNeg ≤ t - 100) (hframes : 1 ≤ R.frames) (hlocals : (rest.map fun v => v.category).sum + (nativeFrameWords "java/lang/System" "arraycopy" 5 + 11) ≤ R.locals) (hdg : decode cc pc = .ok (.invokestatic idx, 3))
    (kk : ∀ (H1 : Heap) (locs1 : List Loc), TH D cI cS τ ρ H1 → (∀ q : Nat, ¬ q = a → H1[q]? = H[q]?) → SS A H0 H1 locs1 → W p l e R s m args below meth c H1 locs1 cells slots Q (F0 m (pc + 3) ls rest)) : W p l e R s m args below meth c H locs cells slots Q (F0 m pc ls (.int n :: .int dp :: .ref a :: .int sp :: .ref a0 :: rest)) := by
  have nn : ∀ z : Int32, ¬ z < 0 → z.toInt = (z.toNatClampNeg : Int) := by
    intro z hz
    have hz0 : (0 : Int) ≤ z.toInt := by
      have := Int32.not_lt.mp hz
      simpa using Int32.le_iff_toInt_le.mp this
    show z.toInt = ((z.toInt.toNat : Nat) : Int)
    omega
  obtain ⟨hx, hb, hown, hts, hK⟩ := E
  obtain ⟨f, hc0, -⟩ := hT.arr ha0 ht
  obtain ⟨g, hc1, -⟩ := hT.arr ha ht
  intro T hTT X
  obtain ⟨-, k0, hk0, cm0, hkk0⟩ := (hK.2 0 _ rfl).1 (t - 100) (fun j => .int (f j))
  obtain ⟨-, k1, hk1, cm1, hkk1⟩ := (hK.2 0 _ rfl).1 (t - 100) (fun j => .int (g j))
  obtain ⟨vm', X', step⟩ := X.arraycopy hx hown (hts _ w1) (hts _ w2) (hts _ w3) (hts _ w4) (src := a0) (dst := a) (cs := vp_cell cI (t - 100, .inl f)) (cd := vp_cell cI (t - 100, .inl g)) (srcPos := sp) (destPos := dp) (n := n) (by rw [hTT]; exact hc0) (by rw [hTT]; exact hc1)
    (fun _ h => by cases h) (fun _ h => by cases h) (fun h => by cases h) (fun h => by cases h) hk0 hk1 hkk0 hkk1 (by simp [refKind]) h1 h2 h3
    (by rw [nn sp h1, nn n h3]; show ¬ _ > ((arrV cI (t - 100) (fun j => .int (f j))).slots.size : Int); rw [arrV_size]; omega)
    (by rw [nn dp h2, nn n h3]; show ¬ _ > ((arrV cI (t - 100) (fun j => .int (g j))).slots.size : Int); rw [arrV_size]; omega)
    (fun vm₁ _ i hi => by
      have e : (vp_cell cI (t - 100, .inl f)).slots.getD (sp.toNatClampNeg + i) .null = .int (f (sp.toNatClampNeg + i)) := by
        show (arrV cI (t - 100) (fun j => .int (f j))).slots.getD _ _ = _
        rw [Array.getD_eq_getD_getElem?, arrV_read _ _ (by omega)]
        rfl
      refine ⟨?_, ?_⟩
      · rw [e]
        rfl
      · rw [e]
        exact trivial)
    (g := F0 m pc ls (.int n :: .int dp :: .ref a :: .int sp :: .ref a0 :: rest)) rfl (by rw [hml, hlz]) (rest := rest) rfl (by rw [hb]; exact hdg) hframes (by show 2 * 0 + _ + _ ≤ _; omega)
  have e1 : copied (vp_cell cI (t - 100, .inl f)) (vp_cell cI (t - 100, .inl g)) sp dp n = vp_cell cI (t - 100, .inl (va_cpy f g sp.toNatClampNeg dp.toNatClampNeg n.toNatClampNeg)) := va_copied (fun z => .int z) cI cI f g h4
  rw [e1] at X' step
  have hl : a < H.size := (Array.getElem?_eq_some_iff.mp hc1).1
  have hheap : ((T.setVm vm').setCell a (vp_cell cI (t - 100, .inl (va_cpy f g sp.toNatClampNeg dp.toNatClampNeg n.toNatClampNeg)))).heap = H.setIfInBounds a (vp_cell cI (t - 100, .inl (va_cpy f g sp.toNatClampNeg dp.toNatClampNeg n.toNatClampNeg))) := by rw [← hTT]; rfl
  have oq : ∀ q : Nat, q ≠ a → (H.setIfInBounds a (vp_cell cI (t - 100, .inl (va_cpy f g sp.toNatClampNeg dp.toNatClampNeg n.toNatClampNeg))))[q]? = H[q]? := fun q hq => by simp [Array.getElem?_setIfInBounds, Ne.symm hq]
  obtain ⟨t2, a1, b1⟩ := kk _ _ (hT.upd ha (Or.inr (Or.inr ⟨ht, va_cpy f g sp.toNatClampNeg dp.toNatClampNeg n.toNatClampNeg, by simp [Array.getElem?_setIfInBounds, hl]⟩)) oq) oq ⟨by simp; exact hS.1, fun q hn => (oq q (fun e => hn (by rw [e]; exact haA))).trans (hS.2.1 q hn), fun q hq => by
      rcases List.mem_append.mp hq with h | h
      · exact hS.2.2 q h
      · obtain ⟨z, -, hz⟩ := List.mem_map.mp h
        rw [← hz]
        exact haA⟩ _ hheap X'
  exact ⟨t2, step t2 a1, b1⟩
end THCP
