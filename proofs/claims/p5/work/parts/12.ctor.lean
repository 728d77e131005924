/-! CONSTRUCTORS: the layer -/
/-- the kinds of the objects in the order of their making -/
def TBl : List Nat := [11, 9, 300, 1, 4, 1, 10, 50, 8, 108, 104, 8, 108, 104, 8, 108, 104, 8, 108, 104, 8, 108, 104, 8, 108, 104, 8, 108, 104, 8, 108, 104, 8, 108, 104, 8, 108, 104, 8, 108, 104, 8, 108, 104, 8, 108, 104, 8, 108, 104, 8, 108, 104, 8, 108, 104, 8, 108, 104, 8, 108, 104, 8, 108, 104, 8, 108, 104, 8, 108, 104, 8, 108, 104, 0, 2, 5, 164, 3, 164, 7, 106, 2, 5, 164, 3, 164, 7, 106, 6, 6, 4, 1, 10, 50, 8, 108, 104, 8, 108, 104, 8, 108, 104, 8, 108, 104, 8, 108, 104, 8, 108, 104, 8, 108, 104, 8, 108, 104, 8, 108, 104, 8, 108, 104, 8, 108, 104, 8, 108, 104, 8, 108, 104, 8, 108, 104, 8, 108, 104, 8, 108, 104, 8, 108, 104, 8, 108, 104, 8, 108, 104, 8, 108, 104, 8, 108, 104, 8, 108, 104, 0, 2, 5, 164, 3, 164, 7, 106, 2, 5, 164, 3, 164, 7, 106, 6, 6, 12, 1085, 1085, 120, 120, 300, 102, 102]
/-- their final references, by place -/
def RBl : List (List Nat) := [[1, 3, 4, 91], [2], [], [], [5, 6, 74, 75, 82, 89, 90], [], [7], [], [0, 0, 0, 0, 0, 0, 0, 9, 0, 10], [], [], [0, 0, 0, 0, 0, 0, 0, 12, 0, 13], [], [], [0, 0, 0, 0, 0, 0, 0, 15, 0, 16], [], [], [0, 0, 0, 0, 0, 0, 0, 18, 0, 19], [], [], [0, 0, 0, 0, 0, 0, 0, 21, 0, 22], [], [], [0, 0, 0, 0, 0, 0, 0, 24, 0, 25], [], [], [0, 0, 0, 0, 0, 0, 0, 27, 0, 28], [], [], [0, 0, 0, 0, 0, 0, 0, 30, 0, 31], [], [], [0, 0, 0, 0, 0, 0, 0, 33, 0, 34], [], [], [0, 0, 0, 0, 0, 0, 0, 36, 0, 37], [], [], [0, 0, 0, 0, 0, 0, 0, 39, 0, 40], [], [], [0, 0, 0, 0, 0, 0, 0, 42, 0, 43], [], [], [0, 0, 0, 0, 0, 0, 0, 45, 0, 46], [], [], [0, 0, 0, 0, 0, 0, 0, 48, 0, 49], [], [], [0, 0, 0, 0, 0, 0, 0, 51, 0, 52], [], [], [0, 0, 0, 0, 0, 0, 0, 54, 0, 55], [], [], [0, 0, 0, 0, 0, 0, 0, 57, 0, 58], [], [], [0, 0, 0, 0, 0, 0, 0, 60, 0, 61], [], [], [0, 0, 0, 0, 0, 0, 0, 63, 0, 64], [], [], [0, 0, 0, 0, 0, 0, 0, 66, 0, 67], [], [], [0, 0, 0, 0, 0, 0, 0, 69, 0, 70], [], [], [0, 0, 0, 0, 0, 0, 0, 72, 0, 73], [], [], [], [0, 5, 6, 74, 76, 78, 80], [0, 0, 0, 0, 0, 0, 0, 77], [], [0, 0, 0, 0, 0, 0, 79], [], [0, 0, 0, 0, 0, 0, 81], [], [0, 5, 6, 74, 83, 85, 87], [0, 0, 0, 0, 0, 0, 0, 84], [], [0, 0, 0, 0, 0, 0, 86], [], [0, 0, 0, 0, 0, 0, 88], [], [75], [82], [92, 93, 161, 162, 169, 176, 177], [], [94], [], [0, 0, 0, 0, 0, 0, 0, 96, 0, 97], [], [], [0, 0, 0, 0, 0, 0, 0, 99, 0, 100], [], [], [0, 0, 0, 0, 0, 0, 0, 102, 0, 103], [], [], [0, 0, 0, 0, 0, 0, 0, 105, 0, 106], [], [], [0, 0, 0, 0, 0, 0, 0, 108, 0, 109], [], [], [0, 0, 0, 0, 0, 0, 0, 111, 0, 112], [], [], [0, 0, 0, 0, 0, 0, 0, 114, 0, 115], [], [], [0, 0, 0, 0, 0, 0, 0, 117, 0, 118], [], [], [0, 0, 0, 0, 0, 0, 0, 120, 0, 121], [], [], [0, 0, 0, 0, 0, 0, 0, 123, 0, 124], [], [], [0, 0, 0, 0, 0, 0, 0, 126, 0, 127], [], [], [0, 0, 0, 0, 0, 0, 0, 129, 0, 130], [], [], [0, 0, 0, 0, 0, 0, 0, 132, 0, 133], [], [], [0, 0, 0, 0, 0, 0, 0, 135, 0, 136], [], [], [0, 0, 0, 0, 0, 0, 0, 138, 0, 139], [], [], [0, 0, 0, 0, 0, 0, 0, 141, 0, 142], [], [], [0, 0, 0, 0, 0, 0, 0, 144, 0, 145], [], [], [0, 0, 0, 0, 0, 0, 0, 147, 0, 148], [], [], [0, 0, 0, 0, 0, 0, 0, 150, 0, 151], [], [], [0, 0, 0, 0, 0, 0, 0, 153, 0, 154], [], [], [0, 0, 0, 0, 0, 0, 0, 156, 0, 157], [], [], [0, 0, 0, 0, 0, 0, 0, 159, 0, 160], [], [], [], [0, 92, 93, 161, 163, 165, 167], [0, 0, 0, 0, 0, 0, 0, 164], [], [0, 0, 0, 0, 0, 0, 166], [], [0, 0, 0, 0, 0, 0, 168], [], [0, 92, 93, 161, 170, 172, 174], [0, 0, 0, 0, 0, 0, 0, 171], [], [0, 0, 0, 0, 0, 0, 173], [], [0, 0, 0, 0, 0, 0, 175], [], [162], [169], [179, 180, 181, 182, 183, 0, 0, 0, 0, 184, 0, 0, 0, 0, 0, 185], [], [], [], [], [], [], []]
def TB (j : Nat) : Option Nat := TBl[j]?
def RB (j k : Nat) : Nat := (RBl.getD j []).getD k 0
def tq (B lo hi q : Nat) : Option Nat := if B + lo ≤ q ∧ q < B + hi then TB (q - B) else none
def rq (B q k : Nat) : Nat := B + RB (q - B) k
theorem tq_at {B lo hi j : Nat} (h1 : lo ≤ j) (h2 : j < hi) : tq B lo hi (B + j) = TB j := by
  unfold tq
  rw [if_pos ⟨by omega, by omega⟩, show B + j - B = j by omega]
theorem tq_some {B lo hi q t : Nat} (h : tq B lo hi q = some t) : ∃ j, q = B + j ∧ lo ≤ j ∧ j < hi ∧ TB j = some t := by
  unfold tq at h
  split at h
  · rename_i g
    exact ⟨q - B, by omega, by omega, by omega, h⟩
  · cases h
theorem rq_at {B j k : Nat} : rq B (B + j) k = B + RB j k := by
  unfold rq
  rw [show B + j - B = j by omega]
theorem sh_q {D : va_G} {cI cS : ClassId} {τ : Nat → Option Nat} {ρ : Nat → Nat → Nat} {H H1 : Heap} {a t : Nat} (h : sh D cI cS τ ρ H a t) (e : H1[a]? = H[a]?) : sh D cI cS τ ρ H1 a t := by
  rcases h with ⟨h0, V, h1, h2⟩ | ⟨h0, f, h1, h2⟩ | ⟨h0, f, h1⟩
  · exact Or.inl ⟨h0, V, h1.kept e, h2⟩
  · exact Or.inr (Or.inl ⟨h0, f, e.trans h1, h2⟩)
  · exact Or.inr (Or.inr ⟨h0, f, e.trans h1⟩)
theorem sh_mono {D : va_G} {cI cS : ClassId} {τ τ1 : Nat → Option Nat} {ρ : Nat → Nat → Nat} {H : Heap} {a t : Nat} (hm : ∀ q u, τ q = some u → τ1 q = some u) (h : sh D cI cS τ ρ H a t) : sh D cI cS τ1 ρ H a t := by
  rcases h with ⟨h0, V, h1, h2⟩ | ⟨h0, f, h1, h2⟩ | ⟨h0, f, h1⟩
  · refine Or.inl ⟨h0, V, h1, fun k hk => ?_⟩
    rcases h2 k hk with h | h | h | h | ⟨h, b, h3, h4⟩
    · exact Or.inl h
    · exact Or.inr (Or.inl h)
    · exact Or.inr (Or.inr (Or.inl h))
    · exact Or.inr (Or.inr (Or.inr (Or.inl h)))
    · exact Or.inr (Or.inr (Or.inr (Or.inr ⟨h, b, h3, hm _ _ h4⟩)))
  · exact Or.inr (Or.inl ⟨h0, f, h1, fun j hj => hm _ _ (h2 j hj)⟩)
  · exact Or.inr (Or.inr ⟨h0, f, h1⟩)
theorem tq_mono {B lo hi lo1 hi1 : Nat} (h0 : lo1 ≤ lo) (h : hi ≤ hi1) : ∀ q u, tq B lo hi q = some u → tq B lo1 hi1 q = some u := by
  intro q u hq
  obtain ⟨j, rfl, h1, h2, h3⟩ := tq_some hq
  rw [tq_at (by omega) (by omega)]
  exact h3
theorem sh_arr {D : va_G} {cI cS : ClassId} {τ τ1 : Nat → Option Nat} {ρ : Nat → Nat → Nat} {H : Heap} {a t : Nat} (ht : 100 ≤ t) (h : sh D cI cS τ ρ H a t) : sh D cI cS τ1 ρ H a t := by
  rcases h with ⟨h0, -⟩ | ⟨h0, -⟩ | h
  · omega
  · omega
  · exact Or.inr (Or.inr h)
/-- the cells of the places lo ≤ j < n are of their kinds -/
def CR (D : va_G) (cI cS : ClassId) (B lo n : Nat) (H : Heap) : Prop := ∀ j w, lo ≤ j → j < n → TB j = some w → sh D cI cS (tq B 0 178) (rq B) H (B + j) w
theorem CR.q {D : va_G} {cI cS : ClassId} {B lo n : Nat} {H H1 : Heap} (h : CR D cI cS B lo n H) (e : ∀ j, lo ≤ j → j < n → H1[B + j]? = H[B + j]?) : CR D cI cS B lo n H1 := fun j w h1 h2 h3 => sh_q (h j w h1 h2 h3) (e j h1 h2)
theorem CR.app {D : va_G} {cI cS : ClassId} {B lo n n1 : Nat} {H : Heap} (h : CR D cI cS B lo n H) (g : CR D cI cS B n n1 H) : CR D cI cS B lo n1 H := fun j w h1 h2 h3 => by
  by_cases z : j < n
  · exact h j w h1 z h3
  · exact g j w (by omega) h2 h3
theorem CR.one {D : va_G} {cI cS : ClassId} {B n : Nat} {H : Heap} (h : ∀ w, TB n = some w → sh D cI cS (tq B 0 178) (rq B) H (B + n) w) : CR D cI cS B n (n + 1) H := fun j w h1 h2 h3 => by
  have e : j = n := by omega
  subst e
  exact h w h3
theorem CR.nil {D : va_G} {cI cS : ClassId} {B n : Nat} {H : Heap} : CR D cI cS B n n H := fun j w h1 h2 h3 => by omega
/-- the private constructors' words -/
def NW (U : State) : Prop := va_Nw (.methodLinkNest RX11 9 yX9_init RX11) U ∧ va_Nw (.methodLinkNest RX11 25 yX4_init RX11) U ∧ va_Nw (.methodLinkNest RX2 11 yX5_init RX11) U ∧ va_Nw (.methodLinkNest RX2 20 yX3_init RX11) U ∧ va_Nw (.methodLinkNest RX2 27 yX7_init RX11) U ∧ va_Nw (.methodLinkNest RX4 27 yX0_init RX11) U ∧ va_Nw (.methodLinkNest RX10 17 yX8_init RX11) U ∧ va_AO RX8 U
theorem NW.warm {s U : State} (hW : s.WarmedH U.vm) (h : NW s) : NW U := ⟨va_Nw.warmM hW h.1, va_Nw.warmM hW h.2.1, va_Nw.warmM hW h.2.2.1, va_Nw.warmM hW h.2.2.2.1, va_Nw.warmM hW h.2.2.2.2.1, va_Nw.warmM hW h.2.2.2.2.2.1, va_Nw.warmM hW h.2.2.2.2.2.2.1, va_AO.moved hW.alike h.2.2.2.2.2.2.2⟩
theorem NW.same {u U : State} (e : u.vm = U.vm) (h : NW u) : NW U := ⟨va_Nw.same rfl e h.1, va_Nw.same rfl e h.2.1, va_Nw.same rfl e h.2.2.1, va_Nw.same rfl e h.2.2.2.1, va_Nw.same rfl e h.2.2.2.2.1, va_Nw.same rfl e h.2.2.2.2.2.1, va_Nw.same rfl e h.2.2.2.2.2.2.1, va_AO.moved (by rw [e]; exact Vm.Alike.refl _) h.2.2.2.2.2.2.2⟩
def rmC (fr mc ms lo : Nat) : Room := { frames := fr, cells := mc, slots := ms, locals := lo }
/-- a constructor on the object at place i: it fills the places i to n -/
def MC (l : Launch) (D : va_G) (cI cS : ClassId) (B i : Nat) (y : MethodName) (b : ByteArray) (nl fr lo mc ms : Nat) (H : Heap) (av : List Value) (post : Heap → Prop) : Prop :=
  Met l y (WS y b nl none) (rmC fr mc ms lo) (va_Pc av (fun U => U.heap = H ∧ KK D cI cS U ∧ NW U)) (va_Qv post (fun u t => t.heap = u) (fun q => B + i ≤ q)) mc ms (fun q => B + i ≤ q)
def PF (D : va_G) (cI cS : ClassId) (B i n : Nat) : Heap → Prop := fun u => u.size = B + n ∧ CR D cI cS B i n u
theorem q_WS {n : Nat} {y : MethodName} {b : ByteArray} {rt : Option FieldType} (h : Cond.code y b n rt ∈ TT) : GoodIn TT (WS y b n rt) := by
  intro w hw
  simp only [WS, List.mem_cons] at hw
  rcases hw with rfl | hw
  · exact q_good h
  · exact q_good hw
theorem MC.of {l : Launch} {D : va_G} {cI cS : ClassId} {B i nl fr lo mc ms : Nat} {y : MethodName} {b : ByteArray} {H : Heap} {av : List Value} {post : Heap → Prop} (hy : plainName y.cls = true) (hyn : y.name = "<init>") (hn : (lg_sl av).length ≤ nl) (body : ∀ (p : Program) (e : Env) (s : State) (m : MethodId) (args : Array Value) (below : List Frame) (meth : Method) (c : Code), EE p s m args c b y.cls D cI cS → NW s → meth.name = "<init>" → c.maxLocals = nl → meth.sig.returnType = none → meth.locks = false → s.heap = H → ∀ ls : Array Slot, lv_has ls nl (lv_args 0 av) → W p l e (rmC fr mc ms lo) s m args below meth c H [] 0 0 (MQ below (va_Qv post (fun u t => t.heap = u) (fun q => B + i ≤ q)) args s mc ms (fun q => B + i ≤ q)) (F0 m 0 ls [])) :
    MC l D cI cS B i y b nl fr lo mc ms H av post := by
  refine Met.ofW (cc := b) (maxL := nl) (ret := none) hy rfl ?_
  intro p e s m args below meth c s₁ Bd hml hv
  obtain ⟨rfl, hH, hK, hN⟩ := hv
  have hown := findClass_of_methodNamed Bd.named
  have hts := atoms_spec (ws := WS y b nl none) Bd.pre
  have hl := lv_entry av (n := nl) hn
  have hnm : meth.name = "<init>" := ((name_of_methodNamed Bd.named Bd.method).1).trans hyn
  rw [lg_entry_eq, hH]
  exact body p e s m _ below meth c ⟨Bd.exec, Bd.bytes, hown, fun w h => hts w (List.mem_cons_of_mem _ h), hK⟩ hN hnm hml Bd.returns Bd.notSynchronized hH _ hl
/-- an object in the making at place i; the cells of lo ≤ j < n stand -/
def CS (D : va_G) (cI cS : ClassId) (t B i lo n z : Nat) (V : Nat → Value) (H0 H : Heap) (locs : List Loc) : Prop :=
  t_OB (B + i) (D.1 t) (nF t) (D.2 t) H V ∧ H.size = B + z ∧ CR D cI cS B lo n H ∧ (∀ q, q < B + i → H[q]? = H0[q]?) ∧ (∀ x ∈ locs, B + i ≤ x.base) ∧ (i < lo ∧ lo ≤ n ∧ n ≤ z)
theorem CS.ob {D : va_G} {cI cS : ClassId} {t B i lo n z : Nat} {V : Nat → Value} {H0 H : Heap} {locs : List Loc} (S : CS D cI cS t B i lo n z V H0 H locs) : t_OB (B + i) (D.1 t) (nF t) (D.2 t) H V := S.1
theorem CS.sz {D : va_G} {cI cS : ClassId} {t B i lo n z : Nat} {V : Nat → Value} {H0 H : Heap} {locs : List Loc} (S : CS D cI cS t B i lo n z V H0 H locs) : H.size = B + z := S.2.1
theorem CS.rg {D : va_G} {cI cS : ClassId} {t B i lo n z : Nat} {V : Nat → Value} {H0 H : Heap} {locs : List Loc} (S : CS D cI cS t B i lo n z V H0 H locs) : CR D cI cS B lo n H := S.2.2.1
theorem CS.kp {D : va_G} {cI cS : ClassId} {t B i lo n z : Nat} {V : Nat → Value} {H0 H : Heap} {locs : List Loc} (S : CS D cI cS t B i lo n z V H0 H locs) : ∀ q, q < B + i → H[q]? = H0[q]? := S.2.2.2.1
theorem CS.lc {D : va_G} {cI cS : ClassId} {t B i lo n z : Nat} {V : Nat → Value} {H0 H : Heap} {locs : List Loc} (S : CS D cI cS t B i lo n z V H0 H locs) : ∀ x ∈ locs, B + i ≤ x.base := S.2.2.2.2.1
theorem CS.le {D : va_G} {cI cS : ClassId} {t B i lo n z : Nat} {V : Nat → Value} {H0 H : Heap} {locs : List Loc} (S : CS D cI cS t B i lo n z V H0 H locs) : i < lo ∧ lo ≤ n ∧ n ≤ z := S.2.2.2.2.2
theorem CS.start {D : va_G} {cI cS : ClassId} {t B i : Nat} {V : Nat → Value} {H : Heap} (ob : t_OB (B + i) (D.1 t) (nF t) (D.2 t) H V) (sz : H.size = B + (i + 1)) : CS D cI cS t B i (i + 1) (i + 1) (i + 1) V H H [] :=
  ⟨ob, sz, CR.nil, fun _ _ => rfl, fun _ h => (by cases h), ⟨by omega, by omega, by omega⟩⟩
theorem arrV_cg {c : ClassId} {N : Nat} {f g : Nat → Value} (h : ∀ j, j < N → f j = g j) : arrV c N f = arrV c N g := by
  have e : (fun j : Fin N => f j.val) = fun j : Fin N => g j.val := funext fun j => h j.val j.isLt
  unfold arrV
  rw [e]
def sG (B i k j : Nat) : Option Nat := if j < k then some (B + (i + 5 + 3 * j)) else none
def sC (cS : ClassId) (B i k : Nat) : Cell := vp_cell cS (21, .inr (.inr (.inr (.inr (sG B i k)))))
theorem CS.skip {D : va_G} {cI cS : ClassId} {t B i lo z : Nat} {V : Nat → Value} {H0 H : Heap} {locs : List Loc} (S : CS D cI cS t B i lo lo z V H0 H locs) {lo1 : Nat} (h0 : lo ≤ lo1) (h1 : lo1 ≤ z) : CS D cI cS t B i lo1 lo1 z V H0 H locs :=
  ⟨S.ob, S.sz, CR.nil, S.kp, S.lc, ⟨by have := S.le; omega, Nat.le_refl _, h1⟩⟩
theorem CR.of {D : va_G} {cI cS : ClassId} {B lo n j t : Nat} {H : Heap} (h : CR D cI cS B lo n H) (h1 : lo ≤ j) (h2 : j < n) (h3 : TB j = some t) (ht : t < 13) : ∃ V, t_OB (B + j) (D.1 t) (nF t) (D.2 t) H V := by
  rcases h j t h1 h2 h3 with ⟨-, V, h, -⟩ | ⟨h, -⟩ | ⟨h, -⟩
  · exact ⟨V, h⟩
  · omega
  · omega
section CTR
variable {p : Program} {l : Launch} {e : Env} {R : Room} {s : State} {m : MethodId} {args : Array Value} {below : List Frame} {meth : Method} {c : Code} {H : Heap} {locs : List Loc} {cells slots : Nat} {Q : State → Prop}
variable {cc : ByteArray} {pc : Nat} {ls : Array Slot} {rest : List Value} {D : va_G} {cI cS : ClassId} {own : String} {H0 : Heap} {t B i lo n z : Nat} {V : Nat → Value}
theorem cr_get {k index N : Nat} {T : u_T} {C : String} {v : Value} (E : EE p s m args c cc own D cI cS) (S : CS D cI cS t B i lo n z V H0 H locs) (hv : V k = v) (hin : ∀ w ∈ u_ws C T N, w ∈ TT) (hc : vwCl[t]? = some (C, T, N)) (hN : nF t = N) (hk : k < N) (hw : Cond.fieldLink own index (T k).1 (T k).2.1 (T k).2.2.1 ∈ TT) (hdg : decode cc pc = .ok (.getfield index, 3))
    (kk : W p l e R s m args below meth c H locs cells slots Q (F0 m (pc + 3) ls (v :: rest))) : W p l e R s m args below meth c H locs cells slots Q (F0 m pc ls (.ref (B + i) :: rest)) := by
  obtain ⟨hx, hb, hown, hts, hK⟩ := E
  obtain ⟨cell, q1, q2, q3, q4⟩ := S.ob
  obtain ⟨hS, hfc, kC, hkC, hkind⟩ := hK.1 t _ hc
  obtain ⟨cf, kf, f1, f, hi, hsl⟩ := hS k hk
  refine W.getf hx hb hown (hts _ hw) hi (u_facts hfc hkC (u_lays hts hin hk) hi).1 q1 (by rw [q3]; exact fun h => by cases h) (v := v) ?_ rfl rfl hdg kk
  rw [hsl, q4 k (by rw [hN]; exact hk), hv]
theorem CS.put {H1 : Heap} {V1 : Nat → Value} {k : Nat} (S : CS D cI cS t B i lo n z V H0 H locs) (ob : t_OB (B + i) (D.1 t) (nF t) (D.2 t) H1 V1) (zz : H1.size = H.size) (oq : ∀ q : Nat, q ≠ B + i → H1[q]? = H[q]?) : CS D cI cS t B i lo n z V1 H0 H1 (locs ++ [⟨B + i, k⟩]) :=
  ⟨ob, zz.trans S.sz, S.rg.q (fun j h1 h2 => oq _ (by have := S.le; omega)), fun q hq => (oq q (by omega)).trans (S.kp q hq), fun x hx => by
    rcases List.mem_append.mp hx with h | h
    · exact S.lc x h
    · rw [List.mem_singleton.mp h]; exact Nat.le_refl _, S.le⟩
theorem cr_put {k index N : Nat} {T : u_T} {C : String} {ty : FieldType} {v : Value} (E : EE p s m args c cc own D cI cS) (S : CS D cI cS t B i lo n z V H0 H locs) (hin : ∀ w ∈ u_ws C T N, w ∈ TT) (hc : vwCl[t]? = some (C, T, N)) (hN : nF t = N) (hk : k < N) (hap : ∀ x y, x < N → y < N → x ≠ y → (D.2 t) x ≠ (D.2 t) y) (hw : Cond.fieldLink own index (T k).1 (T k).2.1 (T k).2.2.1 ∈ TT) (hfin : (T k).2.2.2 = false) (hd : parseFieldDescriptor (T k).2.2.1 = some ty) (hn : narrow ty v = v) (hfit : fits ty v = true) (hdg : decode cc pc = .ok (.putfield index, 3))
    (kk : ∀ (H1 : Heap) (locs1 : List Loc), CS D cI cS t B i lo n z (updV V k v) H0 H1 locs1 → (∀ q : Nat, q ≠ B + i → H1[q]? = H[q]?) → W p l e R s m args below meth c H1 locs1 cells slots Q (F0 m (pc + 3) ls rest)) : W p l e R s m args below meth c H locs cells slots Q (F0 m pc ls (v :: .ref (B + i) :: rest)) := by
  obtain ⟨hx, hb, hown, hts, hK⟩ := E
  obtain ⟨cell, q1, q2, q3, q4⟩ := S.ob
  obtain ⟨hSl, hfc, kC, hkC, hkind⟩ := hK.1 t _ hc
  obtain ⟨cf, kf, f1, f, hi, hsl⟩ := hSl k hk
  subst hN
  have hlay := hts _ (hin _ (u_in_lay hk))
  unfold u_lay at hlay
  rw [if_neg (by rw [hfin]; decide)] at hlay
  have hst := (u_facts hfc hkC (u_lays hts hin hk) hi).1
  have h6 := u_store hfc hkC hkind hlay hi hd hn hfit
  refine W.putK hx hb (f := f) ⟨hown, hts _ hw, ⟨_, _, _, hi⟩, hst⟩ (by rw [q2]; exact h6) q1 q3 (by rw [hsl]; exact k2_hasslot (q4 k hk)) rfl rfl hdg fun H' e1 e2 e3 => ?_
  rw [hsl] at e1 ⊢
  exact kk H' _ (S.put ⟨_, e1, q2, q3, t_set q4 hap hk v⟩ e2 e3) e3
theorem cr_putF {k index N : Nat} {T : u_T} {C : String} {ty : FieldType} {v : Value} (E : EE p s m args c cc own D cI cS) (S : CS D cI cS t B i lo n z V H0 H locs) (hin : ∀ w ∈ u_ws C T N, w ∈ TT) (hc : vwCl[t]? = some (C, T, N)) (hN : nF t = N) (hk : k < N) (hap : ∀ x y, x < N → y < N → x ≠ y → (D.2 t) x ≠ (D.2 t) y) (hw : Cond.fieldLink own index (T k).1 (T k).2.1 (T k).2.2.1 ∈ TT) (hfin : (T k).2.2.2 = true) (hin2 : meth.name = "<init>") (hdecl : (T k).1 = own) (hd : parseFieldDescriptor (T k).2.2.1 = some ty) (hn : narrow ty v = v) (hfit : fits ty v = true) (hdg : decode cc pc = .ok (.putfield index, 3))
    (kk : ∀ (H1 : Heap) (locs1 : List Loc), CS D cI cS t B i lo n z (updV V k v) H0 H1 locs1 → (∀ q : Nat, q ≠ B + i → H1[q]? = H[q]?) → W p l e R s m args below meth c H1 locs1 cells slots Q (F0 m (pc + 3) ls rest)) : W p l e R s m args below meth c H locs cells slots Q (F0 m pc ls (v :: .ref (B + i) :: rest)) := by
  obtain ⟨hx, hb, hown, hts, hK⟩ := E
  obtain ⟨cell, q1, q2, q3, q4⟩ := S.ob
  obtain ⟨hSl, hfc, kC, hkC, hkind⟩ := hK.1 t _ hc
  obtain ⟨cf, kf, f1, f, hi, hsl⟩ := hSl k hk
  subst hN
  have hlay := hts _ (hin _ (u_in_lay hk))
  unfold u_lay at hlay
  rw [if_pos hfin] at hlay
  have hst := (u_facts hfc hkC (u_lays hts hin hk) hi).1
  have hcf : m.cls = cf := by
    obtain ⟨_, _, c', _, _, _, -, -, hf', -, -, -, hown2, -⟩ := Cond.laysFinal_spec hlay
    have e1 : c' = cf := by have := hi.symm.trans hf'; simp at this; exact this.1.symm
    rw [hdecl] at hown2
    rw [← e1]; exact Option.some.inj (hown.symm.trans hown2)
  have h6 := u_fits hfc hkC hkind (Or.inr hlay) hi hd hn hfit
  refine W.putFinK hx hb hown (hts _ hw) hi hst hcf hin2 (by rw [q2]; exact h6) q1 q3 (by rw [hsl]; exact k2_hasslot (q4 k hk)) rfl rfl hdg fun H' e1 e2 e3 => ?_
  rw [hsl] at e1 ⊢
  exact kk H' _ (S.put ⟨_, e1, q2, q3, t_set q4 hap hk v⟩ e2 e3) e3
theorem CS.grow {H1 : Heap} {z1 : Nat} (S : CS D cI cS t B i lo n z V H0 H locs) (zz : H1.size = B + z1) (hz : z ≤ z1) (oq : ∀ q : Nat, q < B + z → H1[q]? = H[q]?) : CS D cI cS t B i lo n z1 V H0 H1 locs :=
  ⟨S.ob.kept (oq _ (by have := S.le; omega)), zz, S.rg.q (fun j h1 h2 => oq _ (by have := S.le; omega)), fun q hq => (oq q (by have := S.le; omega)).trans (S.kp q hq), S.lc, ⟨S.le.1, S.le.2.1, by have := S.le; omega⟩⟩
theorem CS.more {n1 : Nat} (S : CS D cI cS t B i lo n z V H0 H locs) (h : CR D cI cS B n n1 H) (h1 : n ≤ n1) (h2 : n1 ≤ z) : CS D cI cS t B i lo n1 z V H0 H locs :=
  ⟨S.ob, S.sz, S.rg.app h, S.kp, S.lc, ⟨S.le.1, by have := S.le; omega, h2⟩⟩
theorem cr_newa {N : Nat} {v : Int32} (E : EE p s m args c cc own D cI cS) (S : CS D cI cS t B i lo n n V H0 H locs) (hn : ¬ v < 0) (hN : v.toNatClampNeg = N) (hT : TB n = some (100 + N)) (hlim : N ≤ 1000) (hw : Cond.arrayClass .int ∈ TT) (hcells : cells + 1 ≤ R.cells) (hslots : slots + N ≤ R.slots) (hdg : decode cc pc = .ok (.newarray .int, 2))
    (kk : ∀ (H1 : Heap), CS D cI cS t B i lo (n + 1) (n + 1) V H0 H1 locs → (∀ q : Nat, q < B + n → H1[q]? = H[q]?) → H1[B + n]? = some (vp_cell cI (N, .inl (fun _ => 0))) → W p l e R s m args below meth c H1 locs (cells + 1) (slots + N) Q (F0 m (pc + 2) ls (.ref (B + n) :: rest))) : W p l e R s m args below meth c H locs cells slots Q (F0 m pc ls (.int v :: rest)) := by
  obtain ⟨hx, hb, hown, hts, hK⟩ := E
  refine va_newaK hx hb (atype := .int) (hts _ hw) rfl hdg rfl hn hN (by have e : componentBytes (newarray.typeOf .int) = 4 := rfl; rw [e]; omega) hcells hslots S.sz fun H1 cA e1 z1 o1 hAr hNm => ?_
  have h2 := (hK.2 0 _ rfl).2
  have h3 : cA = cI := Option.some.inj (hNm.symm.trans h2)
  subst h3
  have e2 : H1[B + n]? = some (vp_cell cA (N, .inl (fun _ => 0))) := by rw [e1, vp_cell_i]; rfl
  refine kk H1 ((S.grow (z1 := n + 1) z1 (by omega) o1).more (CR.one fun w hw => ?_) (by omega) (by omega)) o1 e2
  rw [hT] at hw
  cases hw
  exact Or.inr (Or.inr ⟨by omega, fun _ => 0, by rw [e2, show 100 + N - 100 = N by omega]⟩)
theorem cr_new {u index N : Nat} {T : u_T} {C : String} (ty : Nat → FieldType) (E : EE p s m args c cc own D cI cS) (S : CS D cI cS t B i lo n n V H0 H locs) (hin : ∀ w ∈ u_ws C T N, w ∈ TT) (hc : vwCl[u]? = some (C, T, N)) (hN : nF u = N) (hty : ∀ k, k < N → parseFieldDescriptor (T k).2.2.1 = some (ty k)) (w1 : Cond.classLink own index C ∈ TT) (w2 : Cond.instantiable C N ∈ TT) (w3 : Cond.initialized C ∈ TT) (hcells : cells + 1 ≤ R.cells) (hslots : slots + N ≤ R.slots) (hdg : decode cc pc = .ok (.new index, 3))
    (kk : ∀ (H1 : Heap), H1.size = B + (n + 1) → (∀ q : Nat, q < B + n → H1[q]? = H[q]?) → t_OB (B + n) (D.1 u) (nF u) (D.2 u) H1 (fun k => defaultValue (ty k)) → CS D cI cS t B i lo n (n + 1) V H0 H1 locs → W p l e R s m args below meth c H1 locs (cells + 1) (slots + N) Q (F0 m (pc + 3) ls (.ref (B + n) :: rest))) : W p l e R s m args below meth c H locs cells slots Q (F0 m pc ls rest) := by
  obtain ⟨hx, hb, hown, hts, hK⟩ := E
  have hKn := hK.1 u _ hc
  subst hN
  refine W.newcK hx hb hown (hts _ w1) (hts _ w2) (hts _ w3) rfl hdg hcells hslots hKn.2.1 S.sz fun H1 kC hkC e1 z1 o1 => ?_
  exact kk H1 z1 o1 (u_born ty hts hin hKn hkC e1 hty) (S.grow (z1 := n + 1) z1 (by omega) o1)
theorem cr_blind {av : List Value} {H : Heap} : FrameBlind (va_Pc av (fun U => U.heap = H ∧ KK D cI cS U ∧ NW U)) := fun a U g mk q => by
  obtain ⟨q0, q1, qK, qN⟩ := q
  exact ⟨q0, q1, va_K.moved (u := U) (U := U.calling g mk a) (Vm.Alike.refl U.vm) qK, NW.same (u := U) (U := U.calling g mk a) rfl qN⟩
theorem cr_back {n2 mc ms : Nat} {st0 As : List Value} {post : Heap → Prop} (hPF : ∀ u, post u → PF D cI cS B n n2 u) (S : CS D cI cS t B i lo n (n + 1) V H0 H locs)
    (hr : va_Run p l e R s m args below meth c H locs cells slots mc ms (F0 m pc ls st0) rest (va_Qv post (fun u t => t.heap = u) (fun q => B + n ≤ q) (Value.ref (B + n) :: As).toArray) (fun q => B + n ≤ q))
    (kk : ∀ (H1 : Heap) (locs1 : List Loc), CS D cI cS t B i lo n2 n2 V H0 H1 locs1 → (∀ q : Nat, q < B + n → H1[q]? = H[q]?) → post H1 → W p l e R s m args below meth c H1 locs1 (cells + mc) (slots + ms) Q (F0 m (pc + 3) ls rest)) : W p l e R s m args below meth c H locs cells slots Q (F0 m pc ls st0) := by
  refine va_callv (A0 := fun q => B + i ≤ q) (H0 := H) hr ⟨Nat.le_refl _, fun _ _ _ => rfl, S.lc⟩ (fun q _ h => by have := S.le; omega) (fun q h => by have := S.le; omega) (fun u z H1 locs1 hz hvm hp hB hsz hk hS1 => ?_)
  have e : u = H1 := hB.symm.trans hz
  subst e
  obtain ⟨p1, p2⟩ := hPF u hp
  have oq : ∀ q : Nat, q < B + n → u[q]? = H[q]? := fun q hq => hk q (by rw [S.sz]; omega) (by omega)
  have hle : n + 1 ≤ n2 := by rw [p1, S.sz] at hsz; omega
  refine kk u locs1 ⟨S.ob.kept (oq _ (by have := S.le; omega)), p1, (S.rg.q (fun j h1 h2 => oq _ (by omega))).app p2, fun q hq => (oq q (by have := S.le; omega)).trans (S.kp q hq), hS1.2.2, ⟨S.le.1, by have := S.le; omega, Nat.le_refl _⟩⟩ oq hp
theorem cr_call {nL nl fr lo2 mc ms idx n2 : Nat} {y : MethodName} {b : ByteArray} {As st0 : List Value} {post : Heap → Prop} (hPF : ∀ u, post u → PF D cI cS B n n2 u) (E : EE p s m args c cc own D cI cS) (hNW : NW s) (hml : c.maxLocals = nL) (hl : ls.size = nL) (S : CS D cI cS t B i lo n (n + 1) V H0 H locs) (hM : MC l D cI cS B n y b nl fr lo2 mc ms H (.ref (B + n) :: As) post)
    (w1 : Cond.code y b nl none ∈ TT) (w2 : Cond.initialized y.cls ∈ TT) (w3 : Cond.methodLink own idx y ∈ TT) (w4 : Cond.instanceMethod y ∈ TT) (hyn : y.name = "<init>") (hyd : y.cls ≠ "java/lang/invoke/MethodHandle" ∧ y.cls ≠ "java/lang/invoke/VarHandle" ∧ (parseMethodDescriptor y.desc).map (fun d => d.parameters.length) = some As.length) (hR : fr + 1 ≤ R.frames ∧ 8 + (nl + 11) + lo2 ≤ R.locals) (hw : (rest.map fun v => v.category).sum ≤ 8) (hcs : cells + mc ≤ R.cells ∧ slots + ms ≤ R.slots) (hst : st0 = As.reverse ++ .ref (B + n) :: rest) (hdg : decode cc pc = .ok (.invokespecial idx, 3))
    (kk : ∀ (H1 : Heap) (locs1 : List Loc), CS D cI cS t B i lo n2 n2 V H0 H1 locs1 → (∀ q : Nat, q < B + n → H1[q]? = H[q]?) → post H1 → W p l e R s m args below meth c H1 locs1 (cells + mc) (slots + ms) Q (F0 m (pc + 3) ls rest)) : W p l e R s m args below meth c H locs cells slots Q (F0 m pc ls st0) := by
  subst hst
  exact cr_back hPF S (va_runI (As := As) (rest := rest) ⟨E.1, E.2.1, hml, E.2.2.1, E.2.2.2.1⟩ hM (cwI As.length E.2.2.2.1 (q_WS w1) rfl rfl rfl (E.2.2.2.1 _ w2) (E.2.2.2.1 _ w3) (E.2.2.2.1 _ w4) hyn hyd hR) ⟨cr_blind, fun U hU hW => ⟨rfl, hU, va_K.moved hW.alike E.2.2.2.2, NW.warm hW hNW⟩⟩ rfl rfl hl rfl (lv_room hw) hdg hcs) kk
theorem cr_callN {nL nl fr lo2 mc ms idx n2 : Nat} {y : MethodName} {b : ByteArray} {As st0 : List Value} {post : Heap → Prop} (hPF : ∀ u, post u → PF D cI cS B n n2 u) (E : EE p s m args c cc own D cI cS) (hNW : NW s) (hml : c.maxLocals = nL) (hl : ls.size = nL) (S : CS D cI cS t B i lo n (n + 1) V H0 H locs) (hM : MC l D cI cS B n y b nl fr lo2 mc ms H (.ref (B + n) :: As) post)
    (w1 : Cond.code y b nl none ∈ TT) (w2 : Cond.initialized y.cls ∈ TT) (w3 : va_Nw (.methodLinkNest own idx y RX11) s) (w4 : Cond.instanceMethod y ∈ TT) (hyn : y.name = "<init>") (hyd : y.cls ≠ "java/lang/invoke/MethodHandle" ∧ y.cls ≠ "java/lang/invoke/VarHandle" ∧ (parseMethodDescriptor y.desc).map (fun d => d.parameters.length) = some As.length) (hR : fr + 1 ≤ R.frames ∧ 8 + (nl + 11) + lo2 ≤ R.locals) (hw : (rest.map fun v => v.category).sum ≤ 8) (hcs : cells + mc ≤ R.cells ∧ slots + ms ≤ R.slots) (hst : st0 = As.reverse ++ .ref (B + n) :: rest) (hdg : decode cc pc = .ok (.invokespecial idx, 3))
    (kk : ∀ (H1 : Heap) (locs1 : List Loc), CS D cI cS t B i lo n2 n2 V H0 H1 locs1 → (∀ q : Nat, q < B + n → H1[q]? = H[q]?) → post H1 → W p l e R s m args below meth c H1 locs1 (cells + mc) (slots + ms) Q (F0 m (pc + 3) ls rest)) : W p l e R s m args below meth c H locs cells slots Q (F0 m pc ls st0) := by
  subst hst
  exact cr_back hPF S (va_runIN (As := As) (rest := rest) ⟨E.1, E.2.1, hml, E.2.2.1, E.2.2.2.1⟩ hM ⟨va_cnB As.length E.2.2.2.1 (q_WS w1) rfl rfl rfl w3 (E.2.2.2.1 _ w2) hyd hR, hyn, E.2.2.2.1 _ w4⟩ ⟨cr_blind, fun U hU hW => ⟨rfl, hU, va_K.moved hW.alike E.2.2.2.2, NW.warm hW hNW⟩⟩ rfl rfl hl rfl (lv_room hw) hdg hcs) kk
theorem cr_ret {mc ms : Nat} {post : Heap → Prop} (hp : PF D cI cS B i n H → post H) (E : EE p s m args c cc own D cI cS) (hr : meth.sig.returnType = none) (hlk : meth.locks = false) (hs : s.heap = H0) (h0 : H0.size = B + (i + 1)) (S : CS D cI cS t B i (i + 1) n n V H0 H locs) (hT : ∀ w, TB i = some w → w = t) (ht : t < 13) (hok : ∀ k, k < nF t → okV (tq B 0 178) (B + RB i k) (fT t k) (V k)) (hdg : decode cc pc = .ok (.return_, 1)) :
    W p l e R s m args below meth c H locs mc ms (MQ below (va_Qv post (fun u t => t.heap = u) (fun q => B + i ≤ q)) args s mc ms (fun q => B + i ≤ q)) (F0 m pc ls []) :=
  W.vret E.1 E.2.1 hr (fun t2 ht2 hW => ⟨⟨H, rfl, hp ⟨S.sz, (CR.one fun w hw => by
      rw [hT w hw]
      exact Or.inl ⟨ht, V, S.ob, fun k hk => by rw [rq_at]; exact hok k hk⟩).app S.rg⟩, ht2⟩, by rw [ht2, hs, h0, S.sz]; have := S.le; omega, fun q h1 h2 => by rw [ht2, hs]; exact S.kp q (by omega)⟩) S.lc hdg hlk
theorem cr_newq {index : Nat} (E : EE p s m args c cc own D cI cS) (hA : va_AO RX8 s) (S : CS D cI cS t B i lo n n V H0 H locs) (w1 : Cond.classLink own index RX8 ∈ TT) (hcells : cells + 1 ≤ R.cells) (hslots : slots + 21 ≤ R.slots) (hdg : decode cc pc = .ok (.anewarray index, 3))
    (kk : ∀ (H1 : Heap), CS D cI cS t B i lo n (n + 1) V H0 H1 locs → (∀ q : Nat, q < B + n → H1[q]? = H[q]?) → H1[B + n]? = some (sC cS B i 0) → W p l e R s m args below meth c H1 locs (cells + 1) (slots + 21) Q (F0 m (pc + 3) ls (.ref (B + n) :: rest))) : W p l e R s m args below meth c H locs cells slots Q (F0 m pc ls (.int 21 :: rest)) := by
  obtain ⟨hx, hb, hown, hts, hK⟩ := E
  refine W.anew hx hb hown (hts _ w1) (va_AO.use hA) rfl hdg rfl (by decide) (by decide) hcells hslots fun cA kA comp f1 f2 f3 f4 => ?_
  obtain ⟨kB, comp2, g1, g2, g3, g4⟩ := (hK.2 1 _ rfl).2
  have h3 : cA = cS := Option.some.inj (f1.symm.trans g4)
  subst h3
  generalize hH1 : H.push ({ cls := cA, slots := Array.replicate (Int32.toNatClampNeg 21) .null, vm := .none } : Cell) = H1
  have z1 : H1.size = H.size + 1 := by rw [← hH1, Array.size_push]
  have e1 : H1[H.size]? = some (arrV cA 21 (fun _ => .null)) := by rw [← hH1, Array.getElem?_push_size, ← arrV_new]; rfl
  have o1 : ∀ q : Nat, q < H.size → H1[q]? = H[q]? := fun q hq => by rw [← hH1, Array.getElem?_push, if_neg (Nat.ne_of_lt hq)]
  rw [S.sz] at z1 e1 o1
  show W p l e R s m args below meth c H1 locs (cells + 1) (slots + 21) Q (F0 m (pc + 3) ls (.ref H.size :: rest))
  rw [S.sz]
  refine kk H1 (S.grow (z1 := n + 1) z1 (by omega) o1) o1 (e1.trans ?_)
  rw [sC, vp_cell_q]
  refine congrArg some (arrV_cg fun j _ => ?_)
  simp [sG, va_rf]
theorem cr_qlen {a k j : Nat} {i0 : Nat} (E : EE p s m args c cc own D cI cS) (h : H[a]? = some (sC cS j i0 k)) (hdg : decode cc pc = .ok (.arraylength, 1))
    (kk : W p l e R s m args below meth c H locs cells slots Q (F0 m (pc + 1) ls (.int 21 :: rest))) : W p l e R s m args below meth c H locs cells slots Q (F0 m pc ls (.ref a :: rest)) := by
  obtain ⟨hx, hb, hown, hts, hK⟩ := E
  have hP : va_P D vwCl [(a, .inl (cS, 21, .inr (.inr (.inr (.inr (sG j i0 k))))))] H := fun k q hq => by
    have hz : k < 1 := (List.getElem?_eq_some_iff.mp hq).1
    rw [show k = 0 by omega] at hq
    cases hq
    exact h
  exact va_alen hx hb hK hP 0 1 rfl rfl rfl hdg kk
theorem cr_aast {k : Nat} {x : Int32} (E : EE p s m args c cc own D cI cS) (S : CS D cI cS t B i (i + 2) n z V H0 H locs) (h : H[B + (i + 1)]? = some (sC cS B i k)) (hx0 : x.toNatClampNeg = k) (h0 : ¬ x < 0) (hk : k < 21) (h8 : TB (i + 5 + 3 * k) = some 8) (hn : i + 5 + 3 * k < n) (hdg : decode cc pc = .ok (.aastore, 1))
    (kk : ∀ (H1 : Heap) (locs1 : List Loc), CS D cI cS t B i (i + 2) n z V H0 H1 locs1 → H1[B + (i + 1)]? = some (sC cS B i (k + 1)) → W p l e R s m args below meth c H1 locs1 cells slots Q (F0 m (pc + 1) ls rest)) : W p l e R s m args below meth c H locs cells slots Q (F0 m pc ls (.ref (B + (i + 5 + 3 * k)) :: .int x :: .ref (B + (i + 1)) :: rest)) := by
  obtain ⟨hx, hb, hown, hts, hK⟩ := E
  obtain ⟨V8, cellV, g1, g2, g3, -⟩ := S.rg.of (by omega) hn h8 (by decide)
  have hcls := (hK.1 8 (RX8, TX8, 10) rfl).2
  obtain ⟨kA, comp, k1, k2, k3, -⟩ := (hK.2 1 _ rfl).2
  have hcomp : comp = D.1 8 := Option.some.inj (k3.symm.trans hcls.1)
  subst hcomp
  obtain ⟨kC, hkC, -⟩ := hcls.2
  refine W.aast hx hb h (fun q h => by cases h) (fun h => by cases h) k1 k2 rfl hkC ⟨h0, by show _ < (arrV _ _ _).slots.size; rw [arrV_size, hx0]; exact hk⟩ g1 (fun q h => by rw [g3] at h; cases h) (by rw [g2]; exact hkC) (by rw [g2]; exact va_assign hcls) rfl rfl hdg fun H1 e z oq => ?_
  have oq : ∀ q : Nat, q ≠ B + (i + 1) → H1[q]? = H[q]? := oq
  have hle := S.le
  refine kk H1 _ ⟨S.ob.kept (oq _ (by omega)), z.trans S.sz, S.rg.q (fun j h1 h2 => oq _ (by omega)), fun q hq => (oq q (by omega)).trans (S.kp q hq), fun x hx => ?_, S.le⟩ (e.trans ?_)
  · rcases List.mem_append.mp hx with h | h
    · exact S.lc x h
    · rw [List.mem_singleton.mp h]
      show B + i ≤ B + (i + 1)
      omega
  · rw [sC, sC, vp_cell_q, vp_cell_q, arrV_store, hx0]
    refine congrArg some (arrV_cg fun j _ => ?_)
    by_cases hq : j = k
    · subst hq
      simp [updV, sG, va_rf]
    · have hq2 : (j < k + 1) = (j < k) := propext ⟨fun _ => by omega, fun _ => by omega⟩
      simp [updV, sG, hq, hq2]
theorem cr_retq {mc ms : Nat} {post : Heap → Prop} (hp : PF D cI cS B i n H → post H) (E : EE p s m args c cc own D cI cS) (hr : meth.sig.returnType = none) (hlk : meth.locks = false) (hs : s.heap = H0) (h0 : H0.size = B + (i + 1)) (S : CS D cI cS t B i (i + 2) n n V H0 H locs) (h : H[B + (i + 1)]? = some (sC cS B i 21)) (hT : ∀ w, TB i = some w → w = t) (hT1 : ∀ w, TB (i + 1) = some w → w = 50) (h8 : ∀ j, j < 21 → TB (i + 5 + 3 * j) = some 8) (hi : i + 68 ≤ 178) (ht : t < 13) (hok : ∀ k, k < nF t → okV (tq B 0 178) (B + RB i k) (fT t k) (V k)) (hdg : decode cc pc = .ok (.return_, 1)) :
    W p l e R s m args below meth c H locs mc ms (MQ below (va_Qv post (fun u t => t.heap = u) (fun q => B + i ≤ q)) args s mc ms (fun q => B + i ≤ q)) (F0 m pc ls []) :=
  W.vret E.1 E.2.1 hr (fun t2 ht2 hW => ⟨⟨H, rfl, hp ⟨S.sz, (CR.one fun w hw => by
      rw [hT w hw]
      exact Or.inl ⟨ht, V, S.ob, fun k hk => by rw [rq_at]; exact hok k hk⟩).app ((CR.one fun w hw => by
      rw [hT1 w hw]
      refine Or.inr (Or.inl ⟨rfl, fun j => B + (i + 5 + 3 * j), h.trans ?_, fun j hj => ?_⟩)
      · rw [sC, vp_cell_q, vp_cell_q]
        refine congrArg some (arrV_cg fun j hj => ?_)
        simp [sG, va_rf, hj]
      · rw [tq_at (by omega) (by omega)]
        exact h8 j hj).app S.rg)⟩, ht2⟩, by rw [ht2, hs, h0, S.sz]; have := S.le; omega, fun q h1 h2 => by rw [ht2, hs]; exact S.kp q (by omega)⟩) S.lc hdg hlk
theorem cr_iast {j N k : Nat} {f : Nat → Int32} {x y : Int32} (E : EE p s m args c cc own D cI cS) (S : CS D cI cS t B i lo n z V H0 H locs) (h : H[B + j]? = some (vp_cell cI (N, .inl f))) (hT : TB j = some (100 + N)) (h1 : lo ≤ j) (h2 : j < n) (hN : k < N) (hk : y.toNatClampNeg = k) (h0 : ¬ y < 0) (hdg : decode cc pc = .ok (.iastore, 1))
    (kk : ∀ (H1 : Heap) (locs1 : List Loc), CS D cI cS t B i lo n z V H0 H1 locs1 → H1[B + j]? = some (vp_cell cI (N, .inl (upd f k x))) → (∀ q : Nat, q ≠ B + j → H1[q]? = H[q]?) → W p l e R s m args below meth c H1 locs1 cells slots Q (F0 m (pc + 1) ls rest)) : W p l e R s m args below meth c H locs cells slots Q (F0 m pc ls (.int x :: .int y :: .ref (B + j) :: rest)) := by
  obtain ⟨hx, hb, hown, hts, hK⟩ := E
  subst hk
  refine W.iast hx hb h ((hK.2 0 _ rfl).1 N (fun j => .int (f j))) (fun q => by cases q) (by show ¬ (y < 0 ∨ (arrV _ _ _).slots.size ≤ _); rw [arrV_size]; exact fun q => q.elim h0 (fun q => by omega)) rfl rfl hdg fun H1 e z oq => ?_
  have e' : H1[B + j]? = some (vp_cell cI (N, .inl (upd f y.toNatClampNeg x))) := by
    rw [e, vp_cell_i, vp_cell_i, arrV_store]
    congr 2
    funext q
    by_cases hq : q = y.toNatClampNeg
    · subst hq
      simp [updV, upd]
    · simp [updV, upd, hq]
  have oq : ∀ q : Nat, q ≠ B + j → H1[q]? = H[q]? := oq
  have hle := S.le
  refine kk H1 _ ⟨S.ob.kept (oq _ (by omega)), z.trans S.sz, fun j1 w a1 a2 a3 => ?_, fun q hq => (oq q (by omega)).trans (S.kp q hq), fun x hx => ?_, S.le⟩ e' oq
  · by_cases q : j1 = j
    · subst q
      cases (hT.symm.trans a3)
      exact Or.inr (Or.inr ⟨by omega, _, by rw [e', show 100 + N - 100 = N by omega]⟩)
    · exact sh_q (S.rg j1 w a1 a2 a3) (oq _ (by omega))
  · rcases List.mem_append.mp hx with h | h
    · exact S.lc x h
    · rw [List.mem_singleton.mp h]
      show B + i ≤ B + j
      omega
end CTR
set_option maxHeartbeats 4000000 in
set_option maxRecDepth 100000 in
/-- StreamEnds$Config.copyFrom -/
theorem c_X1_copyFrom_v3 (l : Launch) (D : va_G) (cI cS : ClassId) (τ : Nat → Option Nat) (ρ : Nat → Nat → Nat) (hW : WF τ ρ) (H : Heap) (hT : TH D cI cS τ ρ H) (a0 : Nat) (a1 : Nat) (ha0 : τ a0 = some 1) (ha1 : τ a1 = some 1) (hf_1 : fi D 1 0 H a1 = 4) (hn_2 : a1 ≠ a0) (hf_3 : fi D 1 1 H a1 = 12) (hf_4 : fi D 1 2 H a1 = 250) (hf_5 : fi D 1 3 H a1 = 100) (hf_6 : fi D 1 4 H a1 = 5) : MV l D cI cS τ ρ yX1_copyFrom cX1_copyFrom 2 none 0 0 H [.ref a0, .ref a1] (fun (u : Heap) => fi D 1 0 u a0 = 4 ∧ fi D 1 1 u a0 = 12 ∧ fi D 1 2 u a0 = 250 ∧ fi D 1 3 u a0 = 100 ∧ fi D 1 4 u a0 = 5) (fun q => q = a0) := by
  refine MV.of (by decide) (Nat.le_of_ble_eq_true rfl) ?_
  intro p e s m args below meth c E hml hr hlk hs ls hl
  have hx := E.1
  have hb := E.2.1
  have hown := E.2.2.1
  have hts := E.2.2.2.1
  have hS : SS (fun q => q = a0) H H [] := SS.rf
  have hl : lv_has ls 2 [(0, .ref a0), (1, .ref a1)] := hl
  refine lv_aload_n hx hb dX1_copyFrom_0 rfl (lv_at hl 0 rfl) ?_
  refine lv_aload_n hx hb dX1_copyFrom_1 rfl (lv_at hl 1 rfl) ?_
  refine gf_X1_14 E hT ha1 dX1_copyFrom_2 ?_
  refine th_topi (y := 4) hf_1 ?_
  refine pf_X1_14 E hT hS ha0 rfl dX1_copyFrom_5 (fun H_1 locs_1 hT_1 hU_1 hS_1 => ?_)
  refine lv_aload_n hx hb dX1_copyFrom_8 rfl (lv_at hl 0 rfl) ?_
  refine lv_aload_n hx hb dX1_copyFrom_9 rfl (lv_at hl 1 rfl) ?_
  refine gf_X1_18 E hT_1 ha1 dX1_copyFrom_10 ?_
  refine th_topi (y := 12) (Eq.trans (fi_q (hU_1.2.2 _ hn_2)) hf_3) ?_
  refine pf_X1_18 E hT_1 hS_1 ha0 rfl dX1_copyFrom_13 (fun H_2 locs_2 hT_2 hU_2 hS_2 => ?_)
  refine lv_aload_n hx hb dX1_copyFrom_16 rfl (lv_at hl 0 rfl) ?_
  refine lv_aload_n hx hb dX1_copyFrom_17 rfl (lv_at hl 1 rfl) ?_
  refine gf_X1_21 E hT_2 ha1 dX1_copyFrom_18 ?_
  refine th_topi (y := 250) (Eq.trans (fi_q (hU_2.2.2 _ hn_2)) (Eq.trans (fi_q (hU_1.2.2 _ hn_2)) hf_4)) ?_
  refine pf_X1_21 E hT_2 hS_2 ha0 rfl dX1_copyFrom_21 (fun H_3 locs_3 hT_3 hU_3 hS_3 => ?_)
  refine lv_aload_n hx hb dX1_copyFrom_24 rfl (lv_at hl 0 rfl) ?_
  refine lv_aload_n hx hb dX1_copyFrom_25 rfl (lv_at hl 1 rfl) ?_
  refine gf_X1_24 E hT_3 ha1 dX1_copyFrom_26 ?_
  refine th_topi (y := 100) (Eq.trans (fi_q (hU_3.2.2 _ hn_2)) (Eq.trans (fi_q (hU_2.2.2 _ hn_2)) (Eq.trans (fi_q (hU_1.2.2 _ hn_2)) hf_5))) ?_
  refine pf_X1_24 E hT_3 hS_3 ha0 rfl dX1_copyFrom_29 (fun H_4 locs_4 hT_4 hU_4 hS_4 => ?_)
  refine lv_aload_n hx hb dX1_copyFrom_32 rfl (lv_at hl 0 rfl) ?_
  refine lv_aload_n hx hb dX1_copyFrom_33 rfl (lv_at hl 1 rfl) ?_
  refine gf_X1_27 E hT_4 ha1 dX1_copyFrom_34 ?_
  refine th_topi (y := 5) (Eq.trans (fi_q (hU_4.2.2 _ hn_2)) (Eq.trans (fi_q (hU_3.2.2 _ hn_2)) (Eq.trans (fi_q (hU_2.2.2 _ hn_2)) (Eq.trans (fi_q (hU_1.2.2 _ hn_2)) hf_6)))) ?_
  refine pf_X1_27 E hT_4 hS_4 ha0 rfl dX1_copyFrom_37 (fun H_5 locs_5 hT_5 hU_5 hS_5 => ?_)
  exact th_vret E hr hlk hs hT_5 hS_5 ⟨(Eq.trans (PU.io hU_5 (j := 0) (by decide) (by decide)) (Eq.trans (PU.io hU_4 (j := 0) (by decide) (by decide)) (Eq.trans (PU.io hU_3 (j := 0) (by decide) (by decide)) (Eq.trans (PU.io hU_2 (j := 0) (by decide) (by decide)) (PU.i hU_1))))), (Eq.trans (PU.io hU_5 (j := 1) (by decide) (by decide)) (Eq.trans (PU.io hU_4 (j := 1) (by decide) (by decide)) (Eq.trans (PU.io hU_3 (j := 1) (by decide) (by decide)) (PU.i hU_2)))), (Eq.trans (PU.io hU_5 (j := 2) (by decide) (by decide)) (Eq.trans (PU.io hU_4 (j := 2) (by decide) (by decide)) (PU.i hU_3))), (Eq.trans (PU.io hU_5 (j := 3) (by decide) (by decide)) (PU.i hU_4)), (PU.i hU_5)⟩ dX1_copyFrom_40
set_option maxHeartbeats 4000000 in
set_option maxRecDepth 100000 in
/-- StreamEnds$Wire.clear -/
theorem c_X10_clear_v2 (l : Launch) (D : va_G) (cI cS : ClassId) (τ : Nat → Option Nat) (ρ : Nat → Nat → Nat) (hW : WF τ ρ) (H : Heap) (hT : TH D cI cS τ ρ H) (a0 : Nat) (ha0 : τ a0 = some 10) : MV l D cI cS τ ρ yX10_clear cX10_clear 1 none 0 0 H [.ref a0] (fun (u : Heap) => fi D 10 2 u a0 = 0 ∧ fi D 10 3 u a0 = 0 ∧ fi D 10 4 u a0 = 0 ∧ fi D 10 5 u a0 = 0) (fun q => q = a0) := by
  refine MV.of (by decide) (Nat.le_of_ble_eq_true rfl) ?_
  intro p e s m args below meth c E hml hr hlk hs ls hl
  have hx := E.1
  have hb := E.2.1
  have hown := E.2.2.1
  have hts := E.2.2.2.1
  have hS : SS (fun q => q = a0) H H [] := SS.rf
  have hl : lv_has ls 1 [(0, .ref a0)] := hl
  refine lv_aload_n hx hb dX10_clear_0 rfl (lv_at hl 0 rfl) ?_
  refine lv_iconst (v := 0) hx hb dX10_clear_1 (by decide) ?_
  refine pf_X10_22 E hT hS ha0 rfl dX10_clear_2 (fun H_1 locs_1 hT_1 hU_1 hS_1 => ?_)
  refine lv_aload_n hx hb dX10_clear_5 rfl (lv_at hl 0 rfl) ?_
  refine lv_iconst (v := 0) hx hb dX10_clear_6 (by decide) ?_
  refine pf_X10_26 E hT_1 hS_1 ha0 rfl dX10_clear_7 (fun H_2 locs_2 hT_2 hU_2 hS_2 => ?_)
  refine lv_aload_n hx hb dX10_clear_10 rfl (lv_at hl 0 rfl) ?_
  refine lv_iconst (v := 0) hx hb dX10_clear_11 (by decide) ?_
  refine pf_X10_29 E hT_2 hS_2 ha0 rfl dX10_clear_12 (fun H_3 locs_3 hT_3 hU_3 hS_3 => ?_)
  refine lv_aload_n hx hb dX10_clear_15 rfl (lv_at hl 0 rfl) ?_
  refine lv_iconst (v := 0) hx hb dX10_clear_16 (by decide) ?_
  refine pf_X10_32 E hT_3 hS_3 ha0 rfl dX10_clear_17 (fun H_4 locs_4 hT_4 hU_4 hS_4 => ?_)
  exact th_vret E hr hlk hs hT_4 hS_4 ⟨(Eq.trans (PU.io hU_4 (j := 2) (by decide) (by decide)) (Eq.trans (PU.io hU_3 (j := 2) (by decide) (by decide)) (Eq.trans (PU.io hU_2 (j := 2) (by decide) (by decide)) (PU.i hU_1)))), (Eq.trans (PU.io hU_4 (j := 3) (by decide) (by decide)) (Eq.trans (PU.io hU_3 (j := 3) (by decide) (by decide)) (PU.i hU_2))), (Eq.trans (PU.io hU_4 (j := 4) (by decide) (by decide)) (PU.i hU_3)), (PU.i hU_4)⟩ dX10_clear_20
set_option maxHeartbeats 4000000 in
set_option maxRecDepth 100000 in
/-- StreamEnds$Endpoint.close -/
theorem c_X2_close_v2 (l : Launch) (D : va_G) (cI cS : ClassId) (τ : Nat → Option Nat) (ρ : Nat → Nat → Nat) (hW : WF τ ρ) (H : Heap) (hT : TH D cI cS τ ρ H) (a0 : Nat) (ha0 : τ a0 = some 2) : MV l D cI cS τ ρ yX2_close cX2_close 1 none 0 0 H [.ref a0] (fun (u : Heap) => fi D 2 7 u a0 = 0 ∧ fi D 2 8 u a0 = 0 ∧ fi D 2 9 u a0 = 0) (fun q => q = a0) := by
  refine MV.of (by decide) (Nat.le_of_ble_eq_true rfl) ?_
  intro p e s m args below meth c E hml hr hlk hs ls hl
  have hx := E.1
  have hb := E.2.1
  have hown := E.2.2.1
  have hts := E.2.2.2.1
  have hS : SS (fun q => q = a0) H H [] := SS.rf
  have hl : lv_has ls 1 [(0, .ref a0)] := hl
  refine lv_aload_n hx hb dX2_close_0 rfl (lv_at hl 0 rfl) ?_
  refine lv_iconst (v := 0) hx hb dX2_close_1 (by decide) ?_
  refine pf_X2_63 E hT hS ha0 rfl dX2_close_2 (fun H_1 locs_1 hT_1 hU_1 hS_1 => ?_)
  refine lv_aload_n hx hb dX2_close_5 rfl (lv_at hl 0 rfl) ?_
  refine lv_iconst (v := 0) hx hb dX2_close_6 (by decide) ?_
  refine pf_X2_66 E hT_1 hS_1 ha0 rfl dX2_close_7 (fun H_2 locs_2 hT_2 hU_2 hS_2 => ?_)
  refine lv_aload_n hx hb dX2_close_10 rfl (lv_at hl 0 rfl) ?_
  refine lv_iconst (v := 0) hx hb dX2_close_11 (by decide) ?_
  refine pf_X2_69 E hT_2 hS_2 ha0 rfl dX2_close_12 (fun H_3 locs_3 hT_3 hU_3 hS_3 => ?_)
  exact th_vret E hr hlk hs hT_3 hS_3 ⟨(Eq.trans (PU.io hU_3 (j := 7) (by decide) (by decide)) (Eq.trans (PU.io hU_2 (j := 7) (by decide) (by decide)) (PU.i hU_1))), (Eq.trans (PU.io hU_3 (j := 8) (by decide) (by decide)) (PU.i hU_2)), (PU.i hU_3)⟩ dX2_close_15
set_option maxHeartbeats 4000000 in
set_option maxRecDepth 100000 in
/-- StreamEnds$Outgoing.start -/
theorem c_X5_start_v2 (l : Launch) (D : va_G) (cI cS : ClassId) (τ : Nat → Option Nat) (ρ : Nat → Nat → Nat) (hW : WF τ ρ) (H : Heap) (hT : TH D cI cS τ ρ H) (a0 : Nat) (ha0 : τ a0 = some 5) : MV l D cI cS τ ρ yX5_start cX5_start 1 none 0 0 H [.ref a0] (fun (u : Heap) => fi D 5 0 u a0 = 0 ∧ fi D 5 1 u a0 = 0 ∧ fi D 5 2 u a0 = 1 ∧ fi D 5 3 u a0 = 0 ∧ fi D 5 4 u a0 = 0 ∧ fi D 5 5 u a0 = 0 ∧ fl D 5 6 u a0 = 0) (fun q => q = a0) := by
  refine MV.of (by decide) (Nat.le_of_ble_eq_true rfl) ?_
  intro p e s m args below meth c E hml hr hlk hs ls hl
  have hx := E.1
  have hb := E.2.1
  have hown := E.2.2.1
  have hts := E.2.2.2.1
  have hS : SS (fun q => q = a0) H H [] := SS.rf
  have hl : lv_has ls 1 [(0, .ref a0)] := hl
  refine lv_aload_n hx hb dX5_start_0 rfl (lv_at hl 0 rfl) ?_
  refine lv_iconst (v := 0) hx hb dX5_start_1 (by decide) ?_
  refine pf_X5_15 E hT hS ha0 rfl dX5_start_2 (fun H_1 locs_1 hT_1 hU_1 hS_1 => ?_)
  refine lv_aload_n hx hb dX5_start_5 rfl (lv_at hl 0 rfl) ?_
  refine lv_iconst (v := 0) hx hb dX5_start_6 (by decide) ?_
  refine pf_X5_19 E hT_1 hS_1 ha0 rfl dX5_start_7 (fun H_2 locs_2 hT_2 hU_2 hS_2 => ?_)
  refine lv_aload_n hx hb dX5_start_10 rfl (lv_at hl 0 rfl) ?_
  refine lv_iconst (v := 1) hx hb dX5_start_11 (by decide) ?_
  refine pf_X5_22 E hT_2 hS_2 ha0 rfl dX5_start_12 (fun H_3 locs_3 hT_3 hU_3 hS_3 => ?_)
  refine lv_aload_n hx hb dX5_start_15 rfl (lv_at hl 0 rfl) ?_
  refine lv_iconst (v := 0) hx hb dX5_start_16 (by decide) ?_
  refine pf_X5_25 E hT_3 hS_3 ha0 rfl dX5_start_17 (fun H_4 locs_4 hT_4 hU_4 hS_4 => ?_)
  refine lv_aload_n hx hb dX5_start_20 rfl (lv_at hl 0 rfl) ?_
  refine lv_iconst (v := 0) hx hb dX5_start_21 (by decide) ?_
  refine pf_X5_28 E hT_4 hS_4 ha0 rfl dX5_start_22 (fun H_5 locs_5 hT_5 hU_5 hS_5 => ?_)
  refine lv_aload_n hx hb dX5_start_25 rfl (lv_at hl 0 rfl) ?_
  refine lv_iconst (v := 0) hx hb dX5_start_26 (by decide) ?_
  refine pf_X5_31 E hT_5 hS_5 ha0 rfl (Or.inl rfl) dX5_start_27 (fun H_6 locs_6 hT_6 hU_6 hS_6 => ?_)
  refine lv_aload_n hx hb dX5_start_30 rfl (lv_at hl 0 rfl) ?_
  refine lv_lconst (v := 0) hx hb dX5_start_31 (by decide) ?_
  refine pf_X5_35 E hT_6 hS_6 ha0 rfl dX5_start_32 (fun H_7 locs_7 hT_7 hU_7 hS_7 => ?_)
  exact th_vret E hr hlk hs hT_7 hS_7 ⟨(Eq.trans (PU.io hU_7 (j := 0) (by decide) (by decide)) (Eq.trans (PU.io hU_6 (j := 0) (by decide) (by decide)) (Eq.trans (PU.io hU_5 (j := 0) (by decide) (by decide)) (Eq.trans (PU.io hU_4 (j := 0) (by decide) (by decide)) (Eq.trans (PU.io hU_3 (j := 0) (by decide) (by decide)) (Eq.trans (PU.io hU_2 (j := 0) (by decide) (by decide)) (PU.i hU_1))))))), (Eq.trans (PU.io hU_7 (j := 1) (by decide) (by decide)) (Eq.trans (PU.io hU_6 (j := 1) (by decide) (by decide)) (Eq.trans (PU.io hU_5 (j := 1) (by decide) (by decide)) (Eq.trans (PU.io hU_4 (j := 1) (by decide) (by decide)) (Eq.trans (PU.io hU_3 (j := 1) (by decide) (by decide)) (PU.i hU_2)))))), (Eq.trans (PU.io hU_7 (j := 2) (by decide) (by decide)) (Eq.trans (PU.io hU_6 (j := 2) (by decide) (by decide)) (Eq.trans (PU.io hU_5 (j := 2) (by decide) (by decide)) (Eq.trans (PU.io hU_4 (j := 2) (by decide) (by decide)) (PU.i hU_3))))), (Eq.trans (PU.io hU_7 (j := 3) (by decide) (by decide)) (Eq.trans (PU.io hU_6 (j := 3) (by decide) (by decide)) (Eq.trans (PU.io hU_5 (j := 3) (by decide) (by decide)) (PU.i hU_4)))), (Eq.trans (PU.io hU_7 (j := 4) (by decide) (by decide)) (Eq.trans (PU.io hU_6 (j := 4) (by decide) (by decide)) (PU.i hU_5))), (Eq.trans (PU.io hU_7 (j := 5) (by decide) (by decide)) (PU.i hU_6)), (PU.l hU_7)⟩ dX5_start_35
set_option maxHeartbeats 4000000 in
set_option maxRecDepth 100000 in
/-- StreamEnds$Incoming.start -/
theorem c_X3_start_v2 (l : Launch) (D : va_G) (cI cS : ClassId) (τ : Nat → Option Nat) (ρ : Nat → Nat → Nat) (hW : WF τ ρ) (H : Heap) (hT : TH D cI cS τ ρ H) (a0 : Nat) (ha0 : τ a0 = some 3) : MV l D cI cS τ ρ yX3_start cX3_start 2 none 0 0 H [.ref a0, .int 12] (fun (u : Heap) => fi D 3 0 u a0 = 0 ∧ fi D 3 1 u a0 = 1 ∧ fi D 3 2 u a0 = 13 ∧ fi D 3 3 u a0 = (-4) ∧ fi D 3 4 u a0 = 0 ∧ fl D 3 5 u a0 = 0) (fun q => q = a0) := by
  refine MV.of (by decide) (Nat.le_of_ble_eq_true rfl) ?_
  intro p e s m args below meth c E hml hr hlk hs ls hl
  have hx := E.1
  have hb := E.2.1
  have hown := E.2.2.1
  have hts := E.2.2.2.1
  have hS : SS (fun q => q = a0) H H [] := SS.rf
  have hl : lv_has ls 2 [(0, .ref a0), (1, .int 12)] := hl
  refine lv_aload_n hx hb dX3_start_0 rfl (lv_at hl 0 rfl) ?_
  refine lv_iconst (v := 0) hx hb dX3_start_1 (by decide) ?_
  refine pf_X3_15 E hT hS ha0 rfl dX3_start_2 (fun H_1 locs_1 hT_1 hU_1 hS_1 => ?_)
  refine lv_aload_n hx hb dX3_start_5 rfl (lv_at hl 0 rfl) ?_
  refine lv_iconst (v := 1) hx hb dX3_start_6 (by decide) ?_
  refine pf_X3_19 E hT_1 hS_1 ha0 rfl dX3_start_7 (fun H_2 locs_2 hT_2 hU_2 hS_2 => ?_)
  refine lv_aload_n hx hb dX3_start_10 rfl (lv_at hl 0 rfl) ?_
  refine lv_iload_n hx hb dX3_start_11 rfl (lv_at hl 1 rfl) ?_
  refine lv_iconst (v := 1) hx hb dX3_start_12 (by decide) ?_
  refine lv_iadd hx hb dX3_start_13 ?_
  refine th_topi (y := 13) (by decide) ?_
  refine pf_X3_22 E hT_2 hS_2 ha0 rfl dX3_start_14 (fun H_3 locs_3 hT_3 hU_3 hS_3 => ?_)
  refine lv_aload_n hx hb dX3_start_17 rfl (lv_at hl 0 rfl) ?_
  refine lv_bipush (v := (-4)) hx hb dX3_start_18 (by decide) ?_
  refine pf_X3_25 E hT_3 hS_3 ha0 rfl dX3_start_20 (fun H_4 locs_4 hT_4 hU_4 hS_4 => ?_)
  refine lv_aload_n hx hb dX3_start_23 rfl (lv_at hl 0 rfl) ?_
  refine lv_iconst (v := 0) hx hb dX3_start_24 (by decide) ?_
  refine pf_X3_28 E hT_4 hS_4 ha0 rfl dX3_start_25 (fun H_5 locs_5 hT_5 hU_5 hS_5 => ?_)
  refine lv_aload_n hx hb dX3_start_28 rfl (lv_at hl 0 rfl) ?_
  refine lv_lconst (v := 0) hx hb dX3_start_29 (by decide) ?_
  refine pf_X3_31 E hT_5 hS_5 ha0 rfl dX3_start_30 (fun H_6 locs_6 hT_6 hU_6 hS_6 => ?_)
  exact th_vret E hr hlk hs hT_6 hS_6 ⟨(Eq.trans (PU.io hU_6 (j := 0) (by decide) (by decide)) (Eq.trans (PU.io hU_5 (j := 0) (by decide) (by decide)) (Eq.trans (PU.io hU_4 (j := 0) (by decide) (by decide)) (Eq.trans (PU.io hU_3 (j := 0) (by decide) (by decide)) (Eq.trans (PU.io hU_2 (j := 0) (by decide) (by decide)) (PU.i hU_1)))))), (Eq.trans (PU.io hU_6 (j := 1) (by decide) (by decide)) (Eq.trans (PU.io hU_5 (j := 1) (by decide) (by decide)) (Eq.trans (PU.io hU_4 (j := 1) (by decide) (by decide)) (Eq.trans (PU.io hU_3 (j := 1) (by decide) (by decide)) (PU.i hU_2))))), (Eq.trans (PU.io hU_6 (j := 2) (by decide) (by decide)) (Eq.trans (PU.io hU_5 (j := 2) (by decide) (by decide)) (Eq.trans (PU.io hU_4 (j := 2) (by decide) (by decide)) (PU.i hU_3)))), (Eq.trans (PU.io hU_6 (j := 3) (by decide) (by decide)) (Eq.trans (PU.io hU_5 (j := 3) (by decide) (by decide)) (PU.i hU_4))), (Eq.trans (PU.io hU_6 (j := 4) (by decide) (by decide)) (PU.i hU_5)), (PU.l hU_6)⟩ dX3_start_33
set_option maxHeartbeats 4000000 in
set_option maxRecDepth 100000 in
/-- StreamEnds$RoundTrips.start -/
theorem c_X7_start_v2 (l : Launch) (D : va_G) (cI cS : ClassId) (τ : Nat → Option Nat) (ρ : Nat → Nat → Nat) (hW : WF τ ρ) (H : Heap) (hT : TH D cI cS τ ρ H) (a0 : Nat) (ha0 : τ a0 = some 7) : MV l D cI cS τ ρ yX7_start cX7_start 1 none 0 0 H [.ref a0] (fun (u : Heap) => fi D 7 0 u a0 = 6 ∧ fi D 7 1 u a0 = 0 ∧ fi D 7 2 u a0 = 0 ∧ fi D 7 3 u a0 = (-4) ∧ fi D 7 4 u a0 = 0 ∧ fi D 7 5 u a0 = 0) (fun q => q = a0) := by
  refine MV.of (by decide) (Nat.le_of_ble_eq_true rfl) ?_
  intro p e s m args below meth c E hml hr hlk hs ls hl
  have hx := E.1
  have hb := E.2.1
  have hown := E.2.2.1
  have hts := E.2.2.2.1
  have hS : SS (fun q => q = a0) H H [] := SS.rf
  have hl : lv_has ls 1 [(0, .ref a0)] := hl
  refine lv_aload_n hx hb dX7_start_0 rfl (lv_at hl 0 rfl) ?_
  refine lv_bipush (v := 6) hx hb dX7_start_1 (by decide) ?_
  refine pf_X7_15 E hT hS ha0 rfl dX7_start_3 (fun H_1 locs_1 hT_1 hU_1 hS_1 => ?_)
  refine lv_aload_n hx hb dX7_start_6 rfl (lv_at hl 0 rfl) ?_
  refine lv_iconst (v := 0) hx hb dX7_start_7 (by decide) ?_
  refine pf_X7_19 E hT_1 hS_1 ha0 rfl dX7_start_8 (fun H_2 locs_2 hT_2 hU_2 hS_2 => ?_)
  refine lv_aload_n hx hb dX7_start_11 rfl (lv_at hl 0 rfl) ?_
  refine lv_iconst (v := 0) hx hb dX7_start_12 (by decide) ?_
  refine pf_X7_22 E hT_2 hS_2 ha0 rfl dX7_start_13 (fun H_3 locs_3 hT_3 hU_3 hS_3 => ?_)
  refine lv_aload_n hx hb dX7_start_16 rfl (lv_at hl 0 rfl) ?_
  refine lv_bipush (v := (-4)) hx hb dX7_start_17 (by decide) ?_
  refine pf_X7_25 E hT_3 hS_3 ha0 rfl dX7_start_19 (fun H_4 locs_4 hT_4 hU_4 hS_4 => ?_)
  refine lv_aload_n hx hb dX7_start_22 rfl (lv_at hl 0 rfl) ?_
  refine lv_iconst (v := 0) hx hb dX7_start_23 (by decide) ?_
  refine pf_X7_28 E hT_4 hS_4 ha0 rfl dX7_start_24 (fun H_5 locs_5 hT_5 hU_5 hS_5 => ?_)
  refine lv_aload_n hx hb dX7_start_27 rfl (lv_at hl 0 rfl) ?_
  refine lv_iconst (v := 0) hx hb dX7_start_28 (by decide) ?_
  refine pf_X7_31 E hT_5 hS_5 ha0 rfl dX7_start_29 (fun H_6 locs_6 hT_6 hU_6 hS_6 => ?_)
  exact th_vret E hr hlk hs hT_6 hS_6 ⟨(Eq.trans (PU.io hU_6 (j := 0) (by decide) (by decide)) (Eq.trans (PU.io hU_5 (j := 0) (by decide) (by decide)) (Eq.trans (PU.io hU_4 (j := 0) (by decide) (by decide)) (Eq.trans (PU.io hU_3 (j := 0) (by decide) (by decide)) (Eq.trans (PU.io hU_2 (j := 0) (by decide) (by decide)) (PU.i hU_1)))))), (Eq.trans (PU.io hU_6 (j := 1) (by decide) (by decide)) (Eq.trans (PU.io hU_5 (j := 1) (by decide) (by decide)) (Eq.trans (PU.io hU_4 (j := 1) (by decide) (by decide)) (Eq.trans (PU.io hU_3 (j := 1) (by decide) (by decide)) (PU.i hU_2))))), (Eq.trans (PU.io hU_6 (j := 2) (by decide) (by decide)) (Eq.trans (PU.io hU_5 (j := 2) (by decide) (by decide)) (Eq.trans (PU.io hU_4 (j := 2) (by decide) (by decide)) (PU.i hU_3)))), (Eq.trans (PU.io hU_6 (j := 3) (by decide) (by decide)) (Eq.trans (PU.io hU_5 (j := 3) (by decide) (by decide)) (PU.i hU_4))), (Eq.trans (PU.io hU_6 (j := 4) (by decide) (by decide)) (PU.i hU_5)), (PU.i hU_6)⟩ dX7_start_32
set_option maxHeartbeats 4000000 in
set_option maxRecDepth 100000 in
/-- StreamEnds$Endpoint.start -/
theorem c_X2_start_v2 (l : Launch) (D : va_G) (cI cS : ClassId) (τ : Nat → Option Nat) (ρ : Nat → Nat → Nat) (hW : WF τ ρ) (H : Heap) (hT : TH D cI cS τ ρ H) (a0 : Nat) (ha0 : τ a0 = some 2) (hf_1 : fi D 1 1 H (ρ a0 1) = 12) : MV l D cI cS τ ρ yX2_start cX2_start 1 none 1 21 H [.ref a0] (fun (u : Heap) => fi D 2 9 u a0 = 0 ∧ fi D 2 8 u a0 = 0 ∧ fi D 2 7 u a0 = 0 ∧ fl D 5 6 u (ρ a0 4) = 0 ∧ fi D 5 5 u (ρ a0 4) = 0 ∧ fi D 5 4 u (ρ a0 4) = 0 ∧ fi D 5 3 u (ρ a0 4) = 0 ∧ fi D 5 2 u (ρ a0 4) = 1 ∧ fi D 5 1 u (ρ a0 4) = 0 ∧ fi D 5 0 u (ρ a0 4) = 0 ∧ fl D 3 5 u (ρ a0 5) = 0 ∧ fi D 3 4 u (ρ a0 5) = 0 ∧ fi D 3 3 u (ρ a0 5) = (-4) ∧ fi D 3 2 u (ρ a0 5) = 13 ∧ fi D 3 1 u (ρ a0 5) = 1 ∧ fi D 3 0 u (ρ a0 5) = 0 ∧ fi D 7 5 u (ρ a0 6) = 0 ∧ fi D 7 4 u (ρ a0 6) = 0 ∧ fi D 7 3 u (ρ a0 6) = (-4) ∧ fi D 7 2 u (ρ a0 6) = 0 ∧ fi D 7 1 u (ρ a0 6) = 0 ∧ fi D 7 0 u (ρ a0 6) = 6) (fun q => q = a0 ∨ q = ρ a0 4 ∨ q = ρ a0 5 ∨ q = ρ a0 6) := by
  refine MV.of (by decide) (Nat.le_of_ble_eq_true rfl) ?_
  intro p e s m args below meth c E hml hr hlk hs ls hl
  have hx := E.1
  have hb := E.2.1
  have hown := E.2.2.1
  have hts := E.2.2.2.1
  have hS : SS (fun q => q = a0 ∨ q = ρ a0 4 ∨ q = ρ a0 5 ∨ q = ρ a0 6) H H [] := SS.rf
  have hl : lv_has ls 1 [(0, .ref a0)] := hl
  refine lv_aload_n hx hb dX2_start_0 rfl (lv_at hl 0 rfl) ?_
  refine th_Vv (As := []) (rest := []) E hml hl.1 (c_X2_close_v2 l D cI cS τ ρ hW H hT a0 ha0) lk_X2_48 yd_X2_close hT ha0 rfl (by decide) hS (fun q h => (Or.inl h)) ⟨by decide, by decide⟩ (Nat.le_of_ble_eq_true rfl) ⟨by decide, by decide⟩ rfl dX2_start_1 (fun H_1 locs_1 p_1 hT_1 hk_1 hS_1 => ?_)
  have p_1 : fi D 2 7 H_1 a0 = 0 ∧ fi D 2 8 H_1 a0 = 0 ∧ fi D 2 9 H_1 a0 = 0 := p_1
  obtain ⟨p_1_0, p_1_1, p_1_2⟩ := p_1
  refine lv_aload_n hx hb dX2_start_4 rfl (lv_at hl 0 rfl) ?_
  refine gf_X2_12 E hT_1 hW ha0 dX2_start_5 (fun h_2 => ?_)
  refine th_Vv (As := []) (rest := []) E hml hl.1 (c_X5_start_v2 l D cI cS τ ρ hW H_1 hT_1 (ρ a0 4) h_2) lk_X2_51 yd_X5_start hT_1 h_2 rfl (by decide) hS_1 (fun q h => (Or.inr (Or.inl h))) ⟨by decide, by decide⟩ (Nat.le_of_ble_eq_true rfl) ⟨by decide, by decide⟩ rfl dX2_start_8 (fun H_3 locs_3 p_3 hT_3 hk_3 hS_3 => ?_)
  have p_3 : fi D 5 0 H_3 (ρ a0 4) = 0 ∧ fi D 5 1 H_3 (ρ a0 4) = 0 ∧ fi D 5 2 H_3 (ρ a0 4) = 1 ∧ fi D 5 3 H_3 (ρ a0 4) = 0 ∧ fi D 5 4 H_3 (ρ a0 4) = 0 ∧ fi D 5 5 H_3 (ρ a0 4) = 0 ∧ fl D 5 6 H_3 (ρ a0 4) = 0 := p_3
  obtain ⟨p_3_0, p_3_1, p_3_2, p_3_3, p_3_4, p_3_5, p_3_6⟩ := p_3
  refine lv_aload_n hx hb dX2_start_11 rfl (lv_at hl 0 rfl) ?_
  refine gf_X2_21 E hT_3 hW ha0 dX2_start_12 (fun h_4 => ?_)
  refine lv_aload_n hx hb dX2_start_15 rfl (lv_at hl 0 rfl) ?_
  refine gf_X2_36 E hT_3 hW ha0 dX2_start_16 (fun h_5 => ?_)
  refine gf_X2_54 E hT_3 h_5 dX2_start_19 ?_
  refine th_topi (y := 12) (Eq.trans (fi_q (hk_3 _ (th_ne h_5 h_2 (by decide)))) (Eq.trans (fi_q (hk_1 _ (th_ne h_5 ha0 (by decide)))) hf_1)) ?_
  refine th_Vv (As := [.int 12]) (rest := []) E hml hl.1 (c_X3_start_v2 l D cI cS τ ρ hW H_3 hT_3 (ρ a0 5) h_4) lk_X2_59 yd_X3_start hT_3 h_4 rfl (by decide) hS_3 (fun q h => (Or.inr (Or.inr (Or.inl h)))) ⟨by decide, by decide⟩ (Nat.le_of_ble_eq_true rfl) ⟨by decide, by decide⟩ rfl dX2_start_22 (fun H_6 locs_6 p_6 hT_6 hk_6 hS_6 => ?_)
  have p_6 : fi D 3 0 H_6 (ρ a0 5) = 0 ∧ fi D 3 1 H_6 (ρ a0 5) = 1 ∧ fi D 3 2 H_6 (ρ a0 5) = 13 ∧ fi D 3 3 H_6 (ρ a0 5) = (-4) ∧ fi D 3 4 H_6 (ρ a0 5) = 0 ∧ fl D 3 5 H_6 (ρ a0 5) = 0 := p_6
  obtain ⟨p_6_0, p_6_1, p_6_2, p_6_3, p_6_4, p_6_5⟩ := p_6
  refine lv_aload_n hx hb dX2_start_25 rfl (lv_at hl 0 rfl) ?_
  refine gf_X2_28 E hT_6 hW ha0 dX2_start_26 (fun h_7 => ?_)
  refine th_Vv (As := []) (rest := []) E hml hl.1 (c_X7_start_v2 l D cI cS τ ρ hW H_6 hT_6 (ρ a0 6) h_7) lk_X2_62 yd_X7_start hT_6 h_7 rfl (by decide) hS_6 (fun q h => (Or.inr (Or.inr (Or.inr h)))) ⟨by decide, by decide⟩ (Nat.le_of_ble_eq_true rfl) ⟨by decide, by decide⟩ rfl dX2_start_29 (fun H_8 locs_8 p_8 hT_8 hk_8 hS_8 => ?_)
  have p_8 : fi D 7 0 H_8 (ρ a0 6) = 6 ∧ fi D 7 1 H_8 (ρ a0 6) = 0 ∧ fi D 7 2 H_8 (ρ a0 6) = 0 ∧ fi D 7 3 H_8 (ρ a0 6) = (-4) ∧ fi D 7 4 H_8 (ρ a0 6) = 0 ∧ fi D 7 5 H_8 (ρ a0 6) = 0 := p_8
  obtain ⟨p_8_0, p_8_1, p_8_2, p_8_3, p_8_4, p_8_5⟩ := p_8
  exact th_vret E hr hlk hs hT_8 hS_8 ⟨(Eq.trans (fi_q (hk_8 _ (th_ne ha0 h_7 (by decide)))) (Eq.trans (fi_q (hk_6 _ (th_ne ha0 h_4 (by decide)))) (Eq.trans (fi_q (hk_3 _ (th_ne ha0 h_2 (by decide)))) p_1_2))), (Eq.trans (fi_q (hk_8 _ (th_ne ha0 h_7 (by decide)))) (Eq.trans (fi_q (hk_6 _ (th_ne ha0 h_4 (by decide)))) (Eq.trans (fi_q (hk_3 _ (th_ne ha0 h_2 (by decide)))) p_1_1))), (Eq.trans (fi_q (hk_8 _ (th_ne ha0 h_7 (by decide)))) (Eq.trans (fi_q (hk_6 _ (th_ne ha0 h_4 (by decide)))) (Eq.trans (fi_q (hk_3 _ (th_ne ha0 h_2 (by decide)))) p_1_0))), (Eq.trans (fl_q (hk_8 _ (th_ne h_2 h_7 (by decide)))) (Eq.trans (fl_q (hk_6 _ (th_ne h_2 h_4 (by decide)))) p_3_6)), (Eq.trans (fi_q (hk_8 _ (th_ne h_2 h_7 (by decide)))) (Eq.trans (fi_q (hk_6 _ (th_ne h_2 h_4 (by decide)))) p_3_5)), (Eq.trans (fi_q (hk_8 _ (th_ne h_2 h_7 (by decide)))) (Eq.trans (fi_q (hk_6 _ (th_ne h_2 h_4 (by decide)))) p_3_4)), (Eq.trans (fi_q (hk_8 _ (th_ne h_2 h_7 (by decide)))) (Eq.trans (fi_q (hk_6 _ (th_ne h_2 h_4 (by decide)))) p_3_3)), (Eq.trans (fi_q (hk_8 _ (th_ne h_2 h_7 (by decide)))) (Eq.trans (fi_q (hk_6 _ (th_ne h_2 h_4 (by decide)))) p_3_2)), (Eq.trans (fi_q (hk_8 _ (th_ne h_2 h_7 (by decide)))) (Eq.trans (fi_q (hk_6 _ (th_ne h_2 h_4 (by decide)))) p_3_1)), (Eq.trans (fi_q (hk_8 _ (th_ne h_2 h_7 (by decide)))) (Eq.trans (fi_q (hk_6 _ (th_ne h_2 h_4 (by decide)))) p_3_0)), (Eq.trans (fl_q (hk_8 _ (th_ne h_4 h_7 (by decide)))) p_6_5), (Eq.trans (fi_q (hk_8 _ (th_ne h_4 h_7 (by decide)))) p_6_4), (Eq.trans (fi_q (hk_8 _ (th_ne h_4 h_7 (by decide)))) p_6_3), (Eq.trans (fi_q (hk_8 _ (th_ne h_4 h_7 (by decide)))) p_6_2), (Eq.trans (fi_q (hk_8 _ (th_ne h_4 h_7 (by decide)))) p_6_1), (Eq.trans (fi_q (hk_8 _ (th_ne h_4 h_7 (by decide)))) p_6_0), p_8_5, p_8_4, p_8_3, p_8_2, p_8_1, p_8_0⟩ dX2_start_32
set_option maxHeartbeats 4000000 in
set_option maxRecDepth 100000 in
/-- StreamEnds$Network.setUp -/
theorem c_X4_setUp_v2 (l : Launch) (D : va_G) (cI cS : ClassId) (τ : Nat → Option Nat) (ρ : Nat → Nat → Nat) (hW : WF τ ρ) (H : Heap) (hT : TH D cI cS τ ρ H) (a0 : Nat) (a1 : Nat) (ha0 : τ a0 = some 4) (ha1 : τ a1 = some 1) (hf_1 : fi D 1 0 H a1 = 4) (hn_2 : a1 ≠ ρ a0 0) (hf_3 : fi D 1 1 H a1 = 12) (hf_4 : fi D 1 2 H a1 = 250) (hf_5 : fi D 1 3 H a1 = 100) (hf_6 : fi D 1 4 H a1 = 5) (he_7 : ρ (ρ a0 3) 1 = ρ a0 0) (he_8 : ρ (ρ a0 4) 1 = ρ a0 0) (hn_9 : ρ (ρ a0 3) 6 ≠ ρ (ρ a0 4) 6) (hn_10 : ρ (ρ a0 3) 5 ≠ ρ (ρ a0 4) 5) (hn_11 : ρ (ρ a0 3) 4 ≠ ρ (ρ a0 4) 4) (hn_12 : ρ a0 3 ≠ ρ a0 4) : MV l D cI cS τ ρ yX4_setUp cX4_setUp 2 none 2 41 H [.ref a0, .ref a1] (fun (u : Heap) => fi D 1 4 u (ρ a0 0) = 5 ∧ fi D 1 3 u (ρ a0 0) = 100 ∧ fi D 1 2 u (ρ a0 0) = 250 ∧ fi D 1 1 u (ρ a0 0) = 12 ∧ fi D 1 0 u (ρ a0 0) = 4 ∧ fi D 10 5 u (ρ a0 1) = 0 ∧ fi D 10 4 u (ρ a0 1) = 0 ∧ fi D 10 3 u (ρ a0 1) = 0 ∧ fi D 10 2 u (ρ a0 1) = 0 ∧ fi D 0 0 u (ρ a0 2) = 0 ∧ fi D 7 0 u (ρ (ρ a0 3) 6) = 6 ∧ fi D 7 1 u (ρ (ρ a0 3) 6) = 0 ∧ fi D 7 2 u (ρ (ρ a0 3) 6) = 0 ∧ fi D 7 3 u (ρ (ρ a0 3) 6) = (-4) ∧ fi D 7 4 u (ρ (ρ a0 3) 6) = 0 ∧ fi D 7 5 u (ρ (ρ a0 3) 6) = 0 ∧ fi D 3 0 u (ρ (ρ a0 3) 5) = 0 ∧ fi D 3 1 u (ρ (ρ a0 3) 5) = 1 ∧ fi D 3 2 u (ρ (ρ a0 3) 5) = 13 ∧ fi D 3 3 u (ρ (ρ a0 3) 5) = (-4) ∧ fi D 3 4 u (ρ (ρ a0 3) 5) = 0 ∧ fl D 3 5 u (ρ (ρ a0 3) 5) = 0 ∧ fi D 5 0 u (ρ (ρ a0 3) 4) = 0 ∧ fi D 5 1 u (ρ (ρ a0 3) 4) = 0 ∧ fi D 5 2 u (ρ (ρ a0 3) 4) = 1 ∧ fi D 5 3 u (ρ (ρ a0 3) 4) = 0 ∧ fi D 5 4 u (ρ (ρ a0 3) 4) = 0 ∧ fi D 5 5 u (ρ (ρ a0 3) 4) = 0 ∧ fl D 5 6 u (ρ (ρ a0 3) 4) = 0 ∧ fi D 2 7 u (ρ a0 3) = 0 ∧ fi D 2 8 u (ρ a0 3) = 0 ∧ fi D 2 9 u (ρ a0 3) = 0 ∧ fi D 7 0 u (ρ (ρ a0 4) 6) = 6 ∧ fi D 7 1 u (ρ (ρ a0 4) 6) = 0 ∧ fi D 7 2 u (ρ (ρ a0 4) 6) = 0 ∧ fi D 7 3 u (ρ (ρ a0 4) 6) = (-4) ∧ fi D 7 4 u (ρ (ρ a0 4) 6) = 0 ∧ fi D 7 5 u (ρ (ρ a0 4) 6) = 0 ∧ fi D 3 0 u (ρ (ρ a0 4) 5) = 0 ∧ fi D 3 1 u (ρ (ρ a0 4) 5) = 1 ∧ fi D 3 2 u (ρ (ρ a0 4) 5) = 13 ∧ fi D 3 3 u (ρ (ρ a0 4) 5) = (-4) ∧ fi D 3 4 u (ρ (ρ a0 4) 5) = 0 ∧ fl D 3 5 u (ρ (ρ a0 4) 5) = 0 ∧ fi D 5 0 u (ρ (ρ a0 4) 4) = 0 ∧ fi D 5 1 u (ρ (ρ a0 4) 4) = 0 ∧ fi D 5 2 u (ρ (ρ a0 4) 4) = 1 ∧ fi D 5 3 u (ρ (ρ a0 4) 4) = 0 ∧ fi D 5 4 u (ρ (ρ a0 4) 4) = 0 ∧ fi D 5 5 u (ρ (ρ a0 4) 4) = 0 ∧ fl D 5 6 u (ρ (ρ a0 4) 4) = 0 ∧ fi D 2 7 u (ρ a0 4) = 0 ∧ fi D 2 8 u (ρ a0 4) = 0 ∧ fi D 2 9 u (ρ a0 4) = 0 ∧ fi D 4 7 u a0 = (-4) ∧ fi D 4 8 u a0 = (-4) ∧ fi D 4 9 u a0 = 0) (fun q => q = ρ a0 0 ∨ q = ρ a0 1 ∨ q = ρ a0 2 ∨ q = ρ a0 3 ∨ q = ρ (ρ a0 3) 4 ∨ q = ρ (ρ a0 3) 5 ∨ q = ρ (ρ a0 3) 6 ∨ q = ρ a0 4 ∨ q = ρ (ρ a0 4) 4 ∨ q = ρ (ρ a0 4) 5 ∨ q = ρ (ρ a0 4) 6 ∨ q = a0) := by
  refine MV.of (by decide) (Nat.le_of_ble_eq_true rfl) ?_
  intro p e s m args below meth c E hml hr hlk hs ls hl
  have hx := E.1
  have hb := E.2.1
  have hown := E.2.2.1
  have hts := E.2.2.2.1
  have hS : SS (fun q => q = ρ a0 0 ∨ q = ρ a0 1 ∨ q = ρ a0 2 ∨ q = ρ a0 3 ∨ q = ρ (ρ a0 3) 4 ∨ q = ρ (ρ a0 3) 5 ∨ q = ρ (ρ a0 3) 6 ∨ q = ρ a0 4 ∨ q = ρ (ρ a0 4) 4 ∨ q = ρ (ρ a0 4) 5 ∨ q = ρ (ρ a0 4) 6 ∨ q = a0) H H [] := SS.rf
  have hl : lv_has ls 2 [(0, .ref a0), (1, .ref a1)] := hl
  refine lv_aload_n hx hb dX4_setUp_0 rfl (lv_at hl 0 rfl) ?_
  refine gf_X4_12 E hT hW ha0 dX4_setUp_1 (fun h_1 => ?_)
  refine lv_aload_n hx hb dX4_setUp_4 rfl (lv_at hl 1 rfl) ?_
  refine th_Vv (As := [.ref a1]) (rest := []) E hml hl.1 (c_X1_copyFrom_v3 l D cI cS τ ρ hW H hT (ρ a0 0) a1 h_1 ha1 hf_1 hn_2 hf_3 hf_4 hf_5 hf_6) lk_X4_56 yd_X1_copyFrom hT h_1 rfl (by decide) hS (fun q h => (Or.inl h)) ⟨by decide, by decide⟩ (Nat.le_of_ble_eq_true rfl) ⟨by decide, by decide⟩ rfl dX4_setUp_5 (fun H_2 locs_2 p_2 hT_2 hk_2 hS_2 => ?_)
  have p_2 : fi D 1 0 H_2 (ρ a0 0) = 4 ∧ fi D 1 1 H_2 (ρ a0 0) = 12 ∧ fi D 1 2 H_2 (ρ a0 0) = 250 ∧ fi D 1 3 H_2 (ρ a0 0) = 100 ∧ fi D 1 4 H_2 (ρ a0 0) = 5 := p_2
  obtain ⟨p_2_0, p_2_1, p_2_2, p_2_3, p_2_4⟩ := p_2
  refine lv_aload_n hx hb dX4_setUp_8 rfl (lv_at hl 0 rfl) ?_
  refine gf_X4_21 E hT_2 hW ha0 dX4_setUp_9 (fun h_3 => ?_)
  refine th_Vv (As := []) (rest := []) E hml hl.1 (c_X10_clear_v2 l D cI cS τ ρ hW H_2 hT_2 (ρ a0 1) h_3) lk_X4_60 yd_X10_clear hT_2 h_3 rfl (by decide) hS_2 (fun q h => (Or.inr (Or.inl h))) ⟨by decide, by decide⟩ (Nat.le_of_ble_eq_true rfl) ⟨by decide, by decide⟩ rfl dX4_setUp_12 (fun H_4 locs_4 p_4 hT_4 hk_4 hS_4 => ?_)
  have p_4 : fi D 10 2 H_4 (ρ a0 1) = 0 ∧ fi D 10 3 H_4 (ρ a0 1) = 0 ∧ fi D 10 4 H_4 (ρ a0 1) = 0 ∧ fi D 10 5 H_4 (ρ a0 1) = 0 := p_4
  obtain ⟨p_4_0, p_4_1, p_4_2, p_4_3⟩ := p_4
  refine lv_aload_n hx hb dX4_setUp_15 rfl (lv_at hl 0 rfl) ?_
  refine gf_X4_28 E hT_4 hW ha0 dX4_setUp_16 (fun h_5 => ?_)
  refine lv_iconst (v := 0) hx hb dX4_setUp_19 (by decide) ?_
  refine pf_X4_63 E hT_4 hS_4 h_5 (Or.inr (Or.inr (Or.inl rfl))) dX4_setUp_20 (fun H_6 locs_6 hT_6 hU_6 hS_6 => ?_)
  refine lv_aload_n hx hb dX4_setUp_23 rfl (lv_at hl 0 rfl) ?_
  refine gf_X4_37 E hT_6 hW ha0 dX4_setUp_24 (fun h_7 => ?_)
  refine th_Vv (As := []) (rest := []) E hml hl.1 (c_X2_start_v2 l D cI cS τ ρ hW H_6 hT_6 (ρ a0 3) h_7 ((congrArg (fun z => fi D 1 1 H_6 z) he_7).trans (Eq.trans (fi_q (hU_6.2.2 _ (th_ne h_1 h_5 (by decide)))) (Eq.trans (fi_q (hk_4 _ (th_ne h_1 h_3 (by decide)))) p_2_1)))) lk_X4_67 yd_X2_start hT_6 h_7 rfl (by decide) hS_6 (fun q => (fun h => h.elim (fun h => (Or.inr (Or.inr (Or.inr (Or.inl h))))) (fun h => h.elim (fun h => (Or.inr (Or.inr (Or.inr (Or.inr (Or.inl h)))))) (fun h => h.elim (fun h => (Or.inr (Or.inr (Or.inr (Or.inr (Or.inr (Or.inl h))))))) (fun h => (Or.inr (Or.inr (Or.inr (Or.inr (Or.inr (Or.inr (Or.inl h)))))))))))) ⟨by decide, by decide⟩ (Nat.le_of_ble_eq_true rfl) ⟨by decide, by decide⟩ rfl dX4_setUp_27 (fun H_8 locs_8 p_8 hT_8 hk_8 hS_8 => ?_)
  have p_8 : fi D 2 9 H_8 (ρ a0 3) = 0 ∧ fi D 2 8 H_8 (ρ a0 3) = 0 ∧ fi D 2 7 H_8 (ρ a0 3) = 0 ∧ fl D 5 6 H_8 (ρ (ρ a0 3) 4) = 0 ∧ fi D 5 5 H_8 (ρ (ρ a0 3) 4) = 0 ∧ fi D 5 4 H_8 (ρ (ρ a0 3) 4) = 0 ∧ fi D 5 3 H_8 (ρ (ρ a0 3) 4) = 0 ∧ fi D 5 2 H_8 (ρ (ρ a0 3) 4) = 1 ∧ fi D 5 1 H_8 (ρ (ρ a0 3) 4) = 0 ∧ fi D 5 0 H_8 (ρ (ρ a0 3) 4) = 0 ∧ fl D 3 5 H_8 (ρ (ρ a0 3) 5) = 0 ∧ fi D 3 4 H_8 (ρ (ρ a0 3) 5) = 0 ∧ fi D 3 3 H_8 (ρ (ρ a0 3) 5) = (-4) ∧ fi D 3 2 H_8 (ρ (ρ a0 3) 5) = 13 ∧ fi D 3 1 H_8 (ρ (ρ a0 3) 5) = 1 ∧ fi D 3 0 H_8 (ρ (ρ a0 3) 5) = 0 ∧ fi D 7 5 H_8 (ρ (ρ a0 3) 6) = 0 ∧ fi D 7 4 H_8 (ρ (ρ a0 3) 6) = 0 ∧ fi D 7 3 H_8 (ρ (ρ a0 3) 6) = (-4) ∧ fi D 7 2 H_8 (ρ (ρ a0 3) 6) = 0 ∧ fi D 7 1 H_8 (ρ (ρ a0 3) 6) = 0 ∧ fi D 7 0 H_8 (ρ (ρ a0 3) 6) = 6 := p_8
  obtain ⟨p_8_0, p_8_1, p_8_2, p_8_3, p_8_4, p_8_5, p_8_6, p_8_7, p_8_8, p_8_9, p_8_10, p_8_11, p_8_12, p_8_13, p_8_14, p_8_15, p_8_16, p_8_17, p_8_18, p_8_19, p_8_20, p_8_21⟩ := p_8
  refine lv_aload_n hx hb dX4_setUp_30 rfl (lv_at hl 0 rfl) ?_
  refine gf_X4_41 E hT_8 hW ha0 dX4_setUp_31 (fun h_9 => ?_)
  refine th_Vv (As := []) (rest := []) E hml hl.1 (c_X2_start_v2 l D cI cS τ ρ hW H_8 hT_8 (ρ a0 4) h_9 ((congrArg (fun z => fi D 1 1 H_8 z) he_8).trans (Eq.trans (fi_q (hk_8 _ (fun h => h.elim (th_ne h_1 h_7 (by decide)) (fun h => h.elim (th_ne h_1 (hW _ 2 4 h_7 (by decide) (by decide) (by decide)) (by decide)) (fun h => h.elim (th_ne h_1 (hW _ 2 5 h_7 (by decide) (by decide) (by decide)) (by decide)) (th_ne h_1 (hW _ 2 6 h_7 (by decide) (by decide) (by decide)) (by decide))))))) (Eq.trans (fi_q (hU_6.2.2 _ (th_ne h_1 h_5 (by decide)))) (Eq.trans (fi_q (hk_4 _ (th_ne h_1 h_3 (by decide)))) p_2_1))))) lk_X4_67 yd_X2_start hT_8 h_9 rfl (by decide) hS_8 (fun q => (fun h => h.elim (fun h => (Or.inr (Or.inr (Or.inr (Or.inr (Or.inr (Or.inr (Or.inr (Or.inl h))))))))) (fun h => h.elim (fun h => (Or.inr (Or.inr (Or.inr (Or.inr (Or.inr (Or.inr (Or.inr (Or.inr (Or.inl h)))))))))) (fun h => h.elim (fun h => (Or.inr (Or.inr (Or.inr (Or.inr (Or.inr (Or.inr (Or.inr (Or.inr (Or.inr (Or.inl h))))))))))) (fun h => (Or.inr (Or.inr (Or.inr (Or.inr (Or.inr (Or.inr (Or.inr (Or.inr (Or.inr (Or.inr (Or.inl h)))))))))))))))) ⟨by decide, by decide⟩ (Nat.le_of_ble_eq_true rfl) ⟨by decide, by decide⟩ rfl dX4_setUp_34 (fun H_10 locs_10 p_10 hT_10 hk_10 hS_10 => ?_)
  have p_10 : fi D 2 9 H_10 (ρ a0 4) = 0 ∧ fi D 2 8 H_10 (ρ a0 4) = 0 ∧ fi D 2 7 H_10 (ρ a0 4) = 0 ∧ fl D 5 6 H_10 (ρ (ρ a0 4) 4) = 0 ∧ fi D 5 5 H_10 (ρ (ρ a0 4) 4) = 0 ∧ fi D 5 4 H_10 (ρ (ρ a0 4) 4) = 0 ∧ fi D 5 3 H_10 (ρ (ρ a0 4) 4) = 0 ∧ fi D 5 2 H_10 (ρ (ρ a0 4) 4) = 1 ∧ fi D 5 1 H_10 (ρ (ρ a0 4) 4) = 0 ∧ fi D 5 0 H_10 (ρ (ρ a0 4) 4) = 0 ∧ fl D 3 5 H_10 (ρ (ρ a0 4) 5) = 0 ∧ fi D 3 4 H_10 (ρ (ρ a0 4) 5) = 0 ∧ fi D 3 3 H_10 (ρ (ρ a0 4) 5) = (-4) ∧ fi D 3 2 H_10 (ρ (ρ a0 4) 5) = 13 ∧ fi D 3 1 H_10 (ρ (ρ a0 4) 5) = 1 ∧ fi D 3 0 H_10 (ρ (ρ a0 4) 5) = 0 ∧ fi D 7 5 H_10 (ρ (ρ a0 4) 6) = 0 ∧ fi D 7 4 H_10 (ρ (ρ a0 4) 6) = 0 ∧ fi D 7 3 H_10 (ρ (ρ a0 4) 6) = (-4) ∧ fi D 7 2 H_10 (ρ (ρ a0 4) 6) = 0 ∧ fi D 7 1 H_10 (ρ (ρ a0 4) 6) = 0 ∧ fi D 7 0 H_10 (ρ (ρ a0 4) 6) = 6 := p_10
  obtain ⟨p_10_0, p_10_1, p_10_2, p_10_3, p_10_4, p_10_5, p_10_6, p_10_7, p_10_8, p_10_9, p_10_10, p_10_11, p_10_12, p_10_13, p_10_14, p_10_15, p_10_16, p_10_17, p_10_18, p_10_19, p_10_20, p_10_21⟩ := p_10
  refine lv_aload_n hx hb dX4_setUp_37 rfl (lv_at hl 0 rfl) ?_
  refine lv_bipush (v := (-4)) hx hb dX4_setUp_38 (by decide) ?_
  refine pf_X4_70 E hT_10 hS_10 ha0 (Or.inr (Or.inr (Or.inr (Or.inr (Or.inr (Or.inr (Or.inr (Or.inr (Or.inr (Or.inr (Or.inr rfl))))))))))) dX4_setUp_40 (fun H_11 locs_11 hT_11 hU_11 hS_11 => ?_)
  refine lv_aload_n hx hb dX4_setUp_43 rfl (lv_at hl 0 rfl) ?_
  refine lv_bipush (v := (-4)) hx hb dX4_setUp_44 (by decide) ?_
  refine pf_X4_73 E hT_11 hS_11 ha0 (Or.inr (Or.inr (Or.inr (Or.inr (Or.inr (Or.inr (Or.inr (Or.inr (Or.inr (Or.inr (Or.inr rfl))))))))))) dX4_setUp_46 (fun H_12 locs_12 hT_12 hU_12 hS_12 => ?_)
  refine lv_aload_n hx hb dX4_setUp_49 rfl (lv_at hl 0 rfl) ?_
  refine lv_iconst (v := 0) hx hb dX4_setUp_50 (by decide) ?_
  refine pf_X4_76 E hT_12 hS_12 ha0 (Or.inr (Or.inr (Or.inr (Or.inr (Or.inr (Or.inr (Or.inr (Or.inr (Or.inr (Or.inr (Or.inr rfl))))))))))) dX4_setUp_51 (fun H_13 locs_13 hT_13 hU_13 hS_13 => ?_)
  exact th_vret E hr hlk hs hT_13 hS_13 ⟨(Eq.trans (fi_q (hU_13.2.2 _ (th_ne h_1 ha0 (by decide)))) (Eq.trans (fi_q (hU_12.2.2 _ (th_ne h_1 ha0 (by decide)))) (Eq.trans (fi_q (hU_11.2.2 _ (th_ne h_1 ha0 (by decide)))) (Eq.trans (fi_q (hk_10 _ (fun h => h.elim (th_ne h_1 h_9 (by decide)) (fun h => h.elim (th_ne h_1 (hW _ 2 4 h_9 (by decide) (by decide) (by decide)) (by decide)) (fun h => h.elim (th_ne h_1 (hW _ 2 5 h_9 (by decide) (by decide) (by decide)) (by decide)) (th_ne h_1 (hW _ 2 6 h_9 (by decide) (by decide) (by decide)) (by decide))))))) (Eq.trans (fi_q (hk_8 _ (fun h => h.elim (th_ne h_1 h_7 (by decide)) (fun h => h.elim (th_ne h_1 (hW _ 2 4 h_7 (by decide) (by decide) (by decide)) (by decide)) (fun h => h.elim (th_ne h_1 (hW _ 2 5 h_7 (by decide) (by decide) (by decide)) (by decide)) (th_ne h_1 (hW _ 2 6 h_7 (by decide) (by decide) (by decide)) (by decide))))))) (Eq.trans (fi_q (hU_6.2.2 _ (th_ne h_1 h_5 (by decide)))) (Eq.trans (fi_q (hk_4 _ (th_ne h_1 h_3 (by decide)))) p_2_4))))))), (Eq.trans (fi_q (hU_13.2.2 _ (th_ne h_1 ha0 (by decide)))) (Eq.trans (fi_q (hU_12.2.2 _ (th_ne h_1 ha0 (by decide)))) (Eq.trans (fi_q (hU_11.2.2 _ (th_ne h_1 ha0 (by decide)))) (Eq.trans (fi_q (hk_10 _ (fun h => h.elim (th_ne h_1 h_9 (by decide)) (fun h => h.elim (th_ne h_1 (hW _ 2 4 h_9 (by decide) (by decide) (by decide)) (by decide)) (fun h => h.elim (th_ne h_1 (hW _ 2 5 h_9 (by decide) (by decide) (by decide)) (by decide)) (th_ne h_1 (hW _ 2 6 h_9 (by decide) (by decide) (by decide)) (by decide))))))) (Eq.trans (fi_q (hk_8 _ (fun h => h.elim (th_ne h_1 h_7 (by decide)) (fun h => h.elim (th_ne h_1 (hW _ 2 4 h_7 (by decide) (by decide) (by decide)) (by decide)) (fun h => h.elim (th_ne h_1 (hW _ 2 5 h_7 (by decide) (by decide) (by decide)) (by decide)) (th_ne h_1 (hW _ 2 6 h_7 (by decide) (by decide) (by decide)) (by decide))))))) (Eq.trans (fi_q (hU_6.2.2 _ (th_ne h_1 h_5 (by decide)))) (Eq.trans (fi_q (hk_4 _ (th_ne h_1 h_3 (by decide)))) p_2_3))))))), (Eq.trans (fi_q (hU_13.2.2 _ (th_ne h_1 ha0 (by decide)))) (Eq.trans (fi_q (hU_12.2.2 _ (th_ne h_1 ha0 (by decide)))) (Eq.trans (fi_q (hU_11.2.2 _ (th_ne h_1 ha0 (by decide)))) (Eq.trans (fi_q (hk_10 _ (fun h => h.elim (th_ne h_1 h_9 (by decide)) (fun h => h.elim (th_ne h_1 (hW _ 2 4 h_9 (by decide) (by decide) (by decide)) (by decide)) (fun h => h.elim (th_ne h_1 (hW _ 2 5 h_9 (by decide) (by decide) (by decide)) (by decide)) (th_ne h_1 (hW _ 2 6 h_9 (by decide) (by decide) (by decide)) (by decide))))))) (Eq.trans (fi_q (hk_8 _ (fun h => h.elim (th_ne h_1 h_7 (by decide)) (fun h => h.elim (th_ne h_1 (hW _ 2 4 h_7 (by decide) (by decide) (by decide)) (by decide)) (fun h => h.elim (th_ne h_1 (hW _ 2 5 h_7 (by decide) (by decide) (by decide)) (by decide)) (th_ne h_1 (hW _ 2 6 h_7 (by decide) (by decide) (by decide)) (by decide))))))) (Eq.trans (fi_q (hU_6.2.2 _ (th_ne h_1 h_5 (by decide)))) (Eq.trans (fi_q (hk_4 _ (th_ne h_1 h_3 (by decide)))) p_2_2))))))), (Eq.trans (fi_q (hU_13.2.2 _ (th_ne h_1 ha0 (by decide)))) (Eq.trans (fi_q (hU_12.2.2 _ (th_ne h_1 ha0 (by decide)))) (Eq.trans (fi_q (hU_11.2.2 _ (th_ne h_1 ha0 (by decide)))) (Eq.trans (fi_q (hk_10 _ (fun h => h.elim (th_ne h_1 h_9 (by decide)) (fun h => h.elim (th_ne h_1 (hW _ 2 4 h_9 (by decide) (by decide) (by decide)) (by decide)) (fun h => h.elim (th_ne h_1 (hW _ 2 5 h_9 (by decide) (by decide) (by decide)) (by decide)) (th_ne h_1 (hW _ 2 6 h_9 (by decide) (by decide) (by decide)) (by decide))))))) (Eq.trans (fi_q (hk_8 _ (fun h => h.elim (th_ne h_1 h_7 (by decide)) (fun h => h.elim (th_ne h_1 (hW _ 2 4 h_7 (by decide) (by decide) (by decide)) (by decide)) (fun h => h.elim (th_ne h_1 (hW _ 2 5 h_7 (by decide) (by decide) (by decide)) (by decide)) (th_ne h_1 (hW _ 2 6 h_7 (by decide) (by decide) (by decide)) (by decide))))))) (Eq.trans (fi_q (hU_6.2.2 _ (th_ne h_1 h_5 (by decide)))) (Eq.trans (fi_q (hk_4 _ (th_ne h_1 h_3 (by decide)))) p_2_1))))))), (Eq.trans (fi_q (hU_13.2.2 _ (th_ne h_1 ha0 (by decide)))) (Eq.trans (fi_q (hU_12.2.2 _ (th_ne h_1 ha0 (by decide)))) (Eq.trans (fi_q (hU_11.2.2 _ (th_ne h_1 ha0 (by decide)))) (Eq.trans (fi_q (hk_10 _ (fun h => h.elim (th_ne h_1 h_9 (by decide)) (fun h => h.elim (th_ne h_1 (hW _ 2 4 h_9 (by decide) (by decide) (by decide)) (by decide)) (fun h => h.elim (th_ne h_1 (hW _ 2 5 h_9 (by decide) (by decide) (by decide)) (by decide)) (th_ne h_1 (hW _ 2 6 h_9 (by decide) (by decide) (by decide)) (by decide))))))) (Eq.trans (fi_q (hk_8 _ (fun h => h.elim (th_ne h_1 h_7 (by decide)) (fun h => h.elim (th_ne h_1 (hW _ 2 4 h_7 (by decide) (by decide) (by decide)) (by decide)) (fun h => h.elim (th_ne h_1 (hW _ 2 5 h_7 (by decide) (by decide) (by decide)) (by decide)) (th_ne h_1 (hW _ 2 6 h_7 (by decide) (by decide) (by decide)) (by decide))))))) (Eq.trans (fi_q (hU_6.2.2 _ (th_ne h_1 h_5 (by decide)))) (Eq.trans (fi_q (hk_4 _ (th_ne h_1 h_3 (by decide)))) p_2_0))))))), (Eq.trans (fi_q (hU_13.2.2 _ (th_ne h_3 ha0 (by decide)))) (Eq.trans (fi_q (hU_12.2.2 _ (th_ne h_3 ha0 (by decide)))) (Eq.trans (fi_q (hU_11.2.2 _ (th_ne h_3 ha0 (by decide)))) (Eq.trans (fi_q (hk_10 _ (fun h => h.elim (th_ne h_3 h_9 (by decide)) (fun h => h.elim (th_ne h_3 (hW _ 2 4 h_9 (by decide) (by decide) (by decide)) (by decide)) (fun h => h.elim (th_ne h_3 (hW _ 2 5 h_9 (by decide) (by decide) (by decide)) (by decide)) (th_ne h_3 (hW _ 2 6 h_9 (by decide) (by decide) (by decide)) (by decide))))))) (Eq.trans (fi_q (hk_8 _ (fun h => h.elim (th_ne h_3 h_7 (by decide)) (fun h => h.elim (th_ne h_3 (hW _ 2 4 h_7 (by decide) (by decide) (by decide)) (by decide)) (fun h => h.elim (th_ne h_3 (hW _ 2 5 h_7 (by decide) (by decide) (by decide)) (by decide)) (th_ne h_3 (hW _ 2 6 h_7 (by decide) (by decide) (by decide)) (by decide))))))) (Eq.trans (fi_q (hU_6.2.2 _ (th_ne h_3 h_5 (by decide)))) p_4_3)))))), (Eq.trans (fi_q (hU_13.2.2 _ (th_ne h_3 ha0 (by decide)))) (Eq.trans (fi_q (hU_12.2.2 _ (th_ne h_3 ha0 (by decide)))) (Eq.trans (fi_q (hU_11.2.2 _ (th_ne h_3 ha0 (by decide)))) (Eq.trans (fi_q (hk_10 _ (fun h => h.elim (th_ne h_3 h_9 (by decide)) (fun h => h.elim (th_ne h_3 (hW _ 2 4 h_9 (by decide) (by decide) (by decide)) (by decide)) (fun h => h.elim (th_ne h_3 (hW _ 2 5 h_9 (by decide) (by decide) (by decide)) (by decide)) (th_ne h_3 (hW _ 2 6 h_9 (by decide) (by decide) (by decide)) (by decide))))))) (Eq.trans (fi_q (hk_8 _ (fun h => h.elim (th_ne h_3 h_7 (by decide)) (fun h => h.elim (th_ne h_3 (hW _ 2 4 h_7 (by decide) (by decide) (by decide)) (by decide)) (fun h => h.elim (th_ne h_3 (hW _ 2 5 h_7 (by decide) (by decide) (by decide)) (by decide)) (th_ne h_3 (hW _ 2 6 h_7 (by decide) (by decide) (by decide)) (by decide))))))) (Eq.trans (fi_q (hU_6.2.2 _ (th_ne h_3 h_5 (by decide)))) p_4_2)))))), (Eq.trans (fi_q (hU_13.2.2 _ (th_ne h_3 ha0 (by decide)))) (Eq.trans (fi_q (hU_12.2.2 _ (th_ne h_3 ha0 (by decide)))) (Eq.trans (fi_q (hU_11.2.2 _ (th_ne h_3 ha0 (by decide)))) (Eq.trans (fi_q (hk_10 _ (fun h => h.elim (th_ne h_3 h_9 (by decide)) (fun h => h.elim (th_ne h_3 (hW _ 2 4 h_9 (by decide) (by decide) (by decide)) (by decide)) (fun h => h.elim (th_ne h_3 (hW _ 2 5 h_9 (by decide) (by decide) (by decide)) (by decide)) (th_ne h_3 (hW _ 2 6 h_9 (by decide) (by decide) (by decide)) (by decide))))))) (Eq.trans (fi_q (hk_8 _ (fun h => h.elim (th_ne h_3 h_7 (by decide)) (fun h => h.elim (th_ne h_3 (hW _ 2 4 h_7 (by decide) (by decide) (by decide)) (by decide)) (fun h => h.elim (th_ne h_3 (hW _ 2 5 h_7 (by decide) (by decide) (by decide)) (by decide)) (th_ne h_3 (hW _ 2 6 h_7 (by decide) (by decide) (by decide)) (by decide))))))) (Eq.trans (fi_q (hU_6.2.2 _ (th_ne h_3 h_5 (by decide)))) p_4_1)))))), (Eq.trans (fi_q (hU_13.2.2 _ (th_ne h_3 ha0 (by decide)))) (Eq.trans (fi_q (hU_12.2.2 _ (th_ne h_3 ha0 (by decide)))) (Eq.trans (fi_q (hU_11.2.2 _ (th_ne h_3 ha0 (by decide)))) (Eq.trans (fi_q (hk_10 _ (fun h => h.elim (th_ne h_3 h_9 (by decide)) (fun h => h.elim (th_ne h_3 (hW _ 2 4 h_9 (by decide) (by decide) (by decide)) (by decide)) (fun h => h.elim (th_ne h_3 (hW _ 2 5 h_9 (by decide) (by decide) (by decide)) (by decide)) (th_ne h_3 (hW _ 2 6 h_9 (by decide) (by decide) (by decide)) (by decide))))))) (Eq.trans (fi_q (hk_8 _ (fun h => h.elim (th_ne h_3 h_7 (by decide)) (fun h => h.elim (th_ne h_3 (hW _ 2 4 h_7 (by decide) (by decide) (by decide)) (by decide)) (fun h => h.elim (th_ne h_3 (hW _ 2 5 h_7 (by decide) (by decide) (by decide)) (by decide)) (th_ne h_3 (hW _ 2 6 h_7 (by decide) (by decide) (by decide)) (by decide))))))) (Eq.trans (fi_q (hU_6.2.2 _ (th_ne h_3 h_5 (by decide)))) p_4_0)))))), (Eq.trans (fi_q (hU_13.2.2 _ (th_ne h_5 ha0 (by decide)))) (Eq.trans (fi_q (hU_12.2.2 _ (th_ne h_5 ha0 (by decide)))) (Eq.trans (fi_q (hU_11.2.2 _ (th_ne h_5 ha0 (by decide)))) (Eq.trans (fi_q (hk_10 _ (fun h => h.elim (th_ne h_5 h_9 (by decide)) (fun h => h.elim (th_ne h_5 (hW _ 2 4 h_9 (by decide) (by decide) (by decide)) (by decide)) (fun h => h.elim (th_ne h_5 (hW _ 2 5 h_9 (by decide) (by decide) (by decide)) (by decide)) (th_ne h_5 (hW _ 2 6 h_9 (by decide) (by decide) (by decide)) (by decide))))))) (Eq.trans (fi_q (hk_8 _ (fun h => h.elim (th_ne h_5 h_7 (by decide)) (fun h => h.elim (th_ne h_5 (hW _ 2 4 h_7 (by decide) (by decide) (by decide)) (by decide)) (fun h => h.elim (th_ne h_5 (hW _ 2 5 h_7 (by decide) (by decide) (by decide)) (by decide)) (th_ne h_5 (hW _ 2 6 h_7 (by decide) (by decide) (by decide)) (by decide))))))) (PU.i hU_6)))))), (Eq.trans (fi_q (hU_13.2.2 _ (th_ne (hW _ 2 6 h_7 (by decide) (by decide) (by decide)) ha0 (by decide)))) (Eq.trans (fi_q (hU_12.2.2 _ (th_ne (hW _ 2 6 h_7 (by decide) (by decide) (by decide)) ha0 (by decide)))) (Eq.trans (fi_q (hU_11.2.2 _ (th_ne (hW _ 2 6 h_7 (by decide) (by decide) (by decide)) ha0 (by decide)))) (Eq.trans (fi_q (hk_10 _ (fun h => h.elim (th_ne (hW _ 2 6 h_7 (by decide) (by decide) (by decide)) h_9 (by decide)) (fun h => h.elim (th_ne (hW _ 2 6 h_7 (by decide) (by decide) (by decide)) (hW _ 2 4 h_9 (by decide) (by decide) (by decide)) (by decide)) (fun h => h.elim (th_ne (hW _ 2 6 h_7 (by decide) (by decide) (by decide)) (hW _ 2 5 h_9 (by decide) (by decide) (by decide)) (by decide)) hn_9))))) p_8_21)))), (Eq.trans (fi_q (hU_13.2.2 _ (th_ne (hW _ 2 6 h_7 (by decide) (by decide) (by decide)) ha0 (by decide)))) (Eq.trans (fi_q (hU_12.2.2 _ (th_ne (hW _ 2 6 h_7 (by decide) (by decide) (by decide)) ha0 (by decide)))) (Eq.trans (fi_q (hU_11.2.2 _ (th_ne (hW _ 2 6 h_7 (by decide) (by decide) (by decide)) ha0 (by decide)))) (Eq.trans (fi_q (hk_10 _ (fun h => h.elim (th_ne (hW _ 2 6 h_7 (by decide) (by decide) (by decide)) h_9 (by decide)) (fun h => h.elim (th_ne (hW _ 2 6 h_7 (by decide) (by decide) (by decide)) (hW _ 2 4 h_9 (by decide) (by decide) (by decide)) (by decide)) (fun h => h.elim (th_ne (hW _ 2 6 h_7 (by decide) (by decide) (by decide)) (hW _ 2 5 h_9 (by decide) (by decide) (by decide)) (by decide)) hn_9))))) p_8_20)))), (Eq.trans (fi_q (hU_13.2.2 _ (th_ne (hW _ 2 6 h_7 (by decide) (by decide) (by decide)) ha0 (by decide)))) (Eq.trans (fi_q (hU_12.2.2 _ (th_ne (hW _ 2 6 h_7 (by decide) (by decide) (by decide)) ha0 (by decide)))) (Eq.trans (fi_q (hU_11.2.2 _ (th_ne (hW _ 2 6 h_7 (by decide) (by decide) (by decide)) ha0 (by decide)))) (Eq.trans (fi_q (hk_10 _ (fun h => h.elim (th_ne (hW _ 2 6 h_7 (by decide) (by decide) (by decide)) h_9 (by decide)) (fun h => h.elim (th_ne (hW _ 2 6 h_7 (by decide) (by decide) (by decide)) (hW _ 2 4 h_9 (by decide) (by decide) (by decide)) (by decide)) (fun h => h.elim (th_ne (hW _ 2 6 h_7 (by decide) (by decide) (by decide)) (hW _ 2 5 h_9 (by decide) (by decide) (by decide)) (by decide)) hn_9))))) p_8_19)))), (Eq.trans (fi_q (hU_13.2.2 _ (th_ne (hW _ 2 6 h_7 (by decide) (by decide) (by decide)) ha0 (by decide)))) (Eq.trans (fi_q (hU_12.2.2 _ (th_ne (hW _ 2 6 h_7 (by decide) (by decide) (by decide)) ha0 (by decide)))) (Eq.trans (fi_q (hU_11.2.2 _ (th_ne (hW _ 2 6 h_7 (by decide) (by decide) (by decide)) ha0 (by decide)))) (Eq.trans (fi_q (hk_10 _ (fun h => h.elim (th_ne (hW _ 2 6 h_7 (by decide) (by decide) (by decide)) h_9 (by decide)) (fun h => h.elim (th_ne (hW _ 2 6 h_7 (by decide) (by decide) (by decide)) (hW _ 2 4 h_9 (by decide) (by decide) (by decide)) (by decide)) (fun h => h.elim (th_ne (hW _ 2 6 h_7 (by decide) (by decide) (by decide)) (hW _ 2 5 h_9 (by decide) (by decide) (by decide)) (by decide)) hn_9))))) p_8_18)))), (Eq.trans (fi_q (hU_13.2.2 _ (th_ne (hW _ 2 6 h_7 (by decide) (by decide) (by decide)) ha0 (by decide)))) (Eq.trans (fi_q (hU_12.2.2 _ (th_ne (hW _ 2 6 h_7 (by decide) (by decide) (by decide)) ha0 (by decide)))) (Eq.trans (fi_q (hU_11.2.2 _ (th_ne (hW _ 2 6 h_7 (by decide) (by decide) (by decide)) ha0 (by decide)))) (Eq.trans (fi_q (hk_10 _ (fun h => h.elim (th_ne (hW _ 2 6 h_7 (by decide) (by decide) (by decide)) h_9 (by decide)) (fun h => h.elim (th_ne (hW _ 2 6 h_7 (by decide) (by decide) (by decide)) (hW _ 2 4 h_9 (by decide) (by decide) (by decide)) (by decide)) (fun h => h.elim (th_ne (hW _ 2 6 h_7 (by decide) (by decide) (by decide)) (hW _ 2 5 h_9 (by decide) (by decide) (by decide)) (by decide)) hn_9))))) p_8_17)))), (Eq.trans (fi_q (hU_13.2.2 _ (th_ne (hW _ 2 6 h_7 (by decide) (by decide) (by decide)) ha0 (by decide)))) (Eq.trans (fi_q (hU_12.2.2 _ (th_ne (hW _ 2 6 h_7 (by decide) (by decide) (by decide)) ha0 (by decide)))) (Eq.trans (fi_q (hU_11.2.2 _ (th_ne (hW _ 2 6 h_7 (by decide) (by decide) (by decide)) ha0 (by decide)))) (Eq.trans (fi_q (hk_10 _ (fun h => h.elim (th_ne (hW _ 2 6 h_7 (by decide) (by decide) (by decide)) h_9 (by decide)) (fun h => h.elim (th_ne (hW _ 2 6 h_7 (by decide) (by decide) (by decide)) (hW _ 2 4 h_9 (by decide) (by decide) (by decide)) (by decide)) (fun h => h.elim (th_ne (hW _ 2 6 h_7 (by decide) (by decide) (by decide)) (hW _ 2 5 h_9 (by decide) (by decide) (by decide)) (by decide)) hn_9))))) p_8_16)))), (Eq.trans (fi_q (hU_13.2.2 _ (th_ne (hW _ 2 5 h_7 (by decide) (by decide) (by decide)) ha0 (by decide)))) (Eq.trans (fi_q (hU_12.2.2 _ (th_ne (hW _ 2 5 h_7 (by decide) (by decide) (by decide)) ha0 (by decide)))) (Eq.trans (fi_q (hU_11.2.2 _ (th_ne (hW _ 2 5 h_7 (by decide) (by decide) (by decide)) ha0 (by decide)))) (Eq.trans (fi_q (hk_10 _ (fun h => h.elim (th_ne (hW _ 2 5 h_7 (by decide) (by decide) (by decide)) h_9 (by decide)) (fun h => h.elim (th_ne (hW _ 2 5 h_7 (by decide) (by decide) (by decide)) (hW _ 2 4 h_9 (by decide) (by decide) (by decide)) (by decide)) (fun h => h.elim hn_10 (th_ne (hW _ 2 5 h_7 (by decide) (by decide) (by decide)) (hW _ 2 6 h_9 (by decide) (by decide) (by decide)) (by decide))))))) p_8_15)))), (Eq.trans (fi_q (hU_13.2.2 _ (th_ne (hW _ 2 5 h_7 (by decide) (by decide) (by decide)) ha0 (by decide)))) (Eq.trans (fi_q (hU_12.2.2 _ (th_ne (hW _ 2 5 h_7 (by decide) (by decide) (by decide)) ha0 (by decide)))) (Eq.trans (fi_q (hU_11.2.2 _ (th_ne (hW _ 2 5 h_7 (by decide) (by decide) (by decide)) ha0 (by decide)))) (Eq.trans (fi_q (hk_10 _ (fun h => h.elim (th_ne (hW _ 2 5 h_7 (by decide) (by decide) (by decide)) h_9 (by decide)) (fun h => h.elim (th_ne (hW _ 2 5 h_7 (by decide) (by decide) (by decide)) (hW _ 2 4 h_9 (by decide) (by decide) (by decide)) (by decide)) (fun h => h.elim hn_10 (th_ne (hW _ 2 5 h_7 (by decide) (by decide) (by decide)) (hW _ 2 6 h_9 (by decide) (by decide) (by decide)) (by decide))))))) p_8_14)))), (Eq.trans (fi_q (hU_13.2.2 _ (th_ne (hW _ 2 5 h_7 (by decide) (by decide) (by decide)) ha0 (by decide)))) (Eq.trans (fi_q (hU_12.2.2 _ (th_ne (hW _ 2 5 h_7 (by decide) (by decide) (by decide)) ha0 (by decide)))) (Eq.trans (fi_q (hU_11.2.2 _ (th_ne (hW _ 2 5 h_7 (by decide) (by decide) (by decide)) ha0 (by decide)))) (Eq.trans (fi_q (hk_10 _ (fun h => h.elim (th_ne (hW _ 2 5 h_7 (by decide) (by decide) (by decide)) h_9 (by decide)) (fun h => h.elim (th_ne (hW _ 2 5 h_7 (by decide) (by decide) (by decide)) (hW _ 2 4 h_9 (by decide) (by decide) (by decide)) (by decide)) (fun h => h.elim hn_10 (th_ne (hW _ 2 5 h_7 (by decide) (by decide) (by decide)) (hW _ 2 6 h_9 (by decide) (by decide) (by decide)) (by decide))))))) p_8_13)))), (Eq.trans (fi_q (hU_13.2.2 _ (th_ne (hW _ 2 5 h_7 (by decide) (by decide) (by decide)) ha0 (by decide)))) (Eq.trans (fi_q (hU_12.2.2 _ (th_ne (hW _ 2 5 h_7 (by decide) (by decide) (by decide)) ha0 (by decide)))) (Eq.trans (fi_q (hU_11.2.2 _ (th_ne (hW _ 2 5 h_7 (by decide) (by decide) (by decide)) ha0 (by decide)))) (Eq.trans (fi_q (hk_10 _ (fun h => h.elim (th_ne (hW _ 2 5 h_7 (by decide) (by decide) (by decide)) h_9 (by decide)) (fun h => h.elim (th_ne (hW _ 2 5 h_7 (by decide) (by decide) (by decide)) (hW _ 2 4 h_9 (by decide) (by decide) (by decide)) (by decide)) (fun h => h.elim hn_10 (th_ne (hW _ 2 5 h_7 (by decide) (by decide) (by decide)) (hW _ 2 6 h_9 (by decide) (by decide) (by decide)) (by decide))))))) p_8_12)))), (Eq.trans (fi_q (hU_13.2.2 _ (th_ne (hW _ 2 5 h_7 (by decide) (by decide) (by decide)) ha0 (by decide)))) (Eq.trans (fi_q (hU_12.2.2 _ (th_ne (hW _ 2 5 h_7 (by decide) (by decide) (by decide)) ha0 (by decide)))) (Eq.trans (fi_q (hU_11.2.2 _ (th_ne (hW _ 2 5 h_7 (by decide) (by decide) (by decide)) ha0 (by decide)))) (Eq.trans (fi_q (hk_10 _ (fun h => h.elim (th_ne (hW _ 2 5 h_7 (by decide) (by decide) (by decide)) h_9 (by decide)) (fun h => h.elim (th_ne (hW _ 2 5 h_7 (by decide) (by decide) (by decide)) (hW _ 2 4 h_9 (by decide) (by decide) (by decide)) (by decide)) (fun h => h.elim hn_10 (th_ne (hW _ 2 5 h_7 (by decide) (by decide) (by decide)) (hW _ 2 6 h_9 (by decide) (by decide) (by decide)) (by decide))))))) p_8_11)))), (Eq.trans (fl_q (hU_13.2.2 _ (th_ne (hW _ 2 5 h_7 (by decide) (by decide) (by decide)) ha0 (by decide)))) (Eq.trans (fl_q (hU_12.2.2 _ (th_ne (hW _ 2 5 h_7 (by decide) (by decide) (by decide)) ha0 (by decide)))) (Eq.trans (fl_q (hU_11.2.2 _ (th_ne (hW _ 2 5 h_7 (by decide) (by decide) (by decide)) ha0 (by decide)))) (Eq.trans (fl_q (hk_10 _ (fun h => h.elim (th_ne (hW _ 2 5 h_7 (by decide) (by decide) (by decide)) h_9 (by decide)) (fun h => h.elim (th_ne (hW _ 2 5 h_7 (by decide) (by decide) (by decide)) (hW _ 2 4 h_9 (by decide) (by decide) (by decide)) (by decide)) (fun h => h.elim hn_10 (th_ne (hW _ 2 5 h_7 (by decide) (by decide) (by decide)) (hW _ 2 6 h_9 (by decide) (by decide) (by decide)) (by decide))))))) p_8_10)))), (Eq.trans (fi_q (hU_13.2.2 _ (th_ne (hW _ 2 4 h_7 (by decide) (by decide) (by decide)) ha0 (by decide)))) (Eq.trans (fi_q (hU_12.2.2 _ (th_ne (hW _ 2 4 h_7 (by decide) (by decide) (by decide)) ha0 (by decide)))) (Eq.trans (fi_q (hU_11.2.2 _ (th_ne (hW _ 2 4 h_7 (by decide) (by decide) (by decide)) ha0 (by decide)))) (Eq.trans (fi_q (hk_10 _ (fun h => h.elim (th_ne (hW _ 2 4 h_7 (by decide) (by decide) (by decide)) h_9 (by decide)) (fun h => h.elim hn_11 (fun h => h.elim (th_ne (hW _ 2 4 h_7 (by decide) (by decide) (by decide)) (hW _ 2 5 h_9 (by decide) (by decide) (by decide)) (by decide)) (th_ne (hW _ 2 4 h_7 (by decide) (by decide) (by decide)) (hW _ 2 6 h_9 (by decide) (by decide) (by decide)) (by decide))))))) p_8_9)))), (Eq.trans (fi_q (hU_13.2.2 _ (th_ne (hW _ 2 4 h_7 (by decide) (by decide) (by decide)) ha0 (by decide)))) (Eq.trans (fi_q (hU_12.2.2 _ (th_ne (hW _ 2 4 h_7 (by decide) (by decide) (by decide)) ha0 (by decide)))) (Eq.trans (fi_q (hU_11.2.2 _ (th_ne (hW _ 2 4 h_7 (by decide) (by decide) (by decide)) ha0 (by decide)))) (Eq.trans (fi_q (hk_10 _ (fun h => h.elim (th_ne (hW _ 2 4 h_7 (by decide) (by decide) (by decide)) h_9 (by decide)) (fun h => h.elim hn_11 (fun h => h.elim (th_ne (hW _ 2 4 h_7 (by decide) (by decide) (by decide)) (hW _ 2 5 h_9 (by decide) (by decide) (by decide)) (by decide)) (th_ne (hW _ 2 4 h_7 (by decide) (by decide) (by decide)) (hW _ 2 6 h_9 (by decide) (by decide) (by decide)) (by decide))))))) p_8_8)))), (Eq.trans (fi_q (hU_13.2.2 _ (th_ne (hW _ 2 4 h_7 (by decide) (by decide) (by decide)) ha0 (by decide)))) (Eq.trans (fi_q (hU_12.2.2 _ (th_ne (hW _ 2 4 h_7 (by decide) (by decide) (by decide)) ha0 (by decide)))) (Eq.trans (fi_q (hU_11.2.2 _ (th_ne (hW _ 2 4 h_7 (by decide) (by decide) (by decide)) ha0 (by decide)))) (Eq.trans (fi_q (hk_10 _ (fun h => h.elim (th_ne (hW _ 2 4 h_7 (by decide) (by decide) (by decide)) h_9 (by decide)) (fun h => h.elim hn_11 (fun h => h.elim (th_ne (hW _ 2 4 h_7 (by decide) (by decide) (by decide)) (hW _ 2 5 h_9 (by decide) (by decide) (by decide)) (by decide)) (th_ne (hW _ 2 4 h_7 (by decide) (by decide) (by decide)) (hW _ 2 6 h_9 (by decide) (by decide) (by decide)) (by decide))))))) p_8_7)))), (Eq.trans (fi_q (hU_13.2.2 _ (th_ne (hW _ 2 4 h_7 (by decide) (by decide) (by decide)) ha0 (by decide)))) (Eq.trans (fi_q (hU_12.2.2 _ (th_ne (hW _ 2 4 h_7 (by decide) (by decide) (by decide)) ha0 (by decide)))) (Eq.trans (fi_q (hU_11.2.2 _ (th_ne (hW _ 2 4 h_7 (by decide) (by decide) (by decide)) ha0 (by decide)))) (Eq.trans (fi_q (hk_10 _ (fun h => h.elim (th_ne (hW _ 2 4 h_7 (by decide) (by decide) (by decide)) h_9 (by decide)) (fun h => h.elim hn_11 (fun h => h.elim (th_ne (hW _ 2 4 h_7 (by decide) (by decide) (by decide)) (hW _ 2 5 h_9 (by decide) (by decide) (by decide)) (by decide)) (th_ne (hW _ 2 4 h_7 (by decide) (by decide) (by decide)) (hW _ 2 6 h_9 (by decide) (by decide) (by decide)) (by decide))))))) p_8_6)))), (Eq.trans (fi_q (hU_13.2.2 _ (th_ne (hW _ 2 4 h_7 (by decide) (by decide) (by decide)) ha0 (by decide)))) (Eq.trans (fi_q (hU_12.2.2 _ (th_ne (hW _ 2 4 h_7 (by decide) (by decide) (by decide)) ha0 (by decide)))) (Eq.trans (fi_q (hU_11.2.2 _ (th_ne (hW _ 2 4 h_7 (by decide) (by decide) (by decide)) ha0 (by decide)))) (Eq.trans (fi_q (hk_10 _ (fun h => h.elim (th_ne (hW _ 2 4 h_7 (by decide) (by decide) (by decide)) h_9 (by decide)) (fun h => h.elim hn_11 (fun h => h.elim (th_ne (hW _ 2 4 h_7 (by decide) (by decide) (by decide)) (hW _ 2 5 h_9 (by decide) (by decide) (by decide)) (by decide)) (th_ne (hW _ 2 4 h_7 (by decide) (by decide) (by decide)) (hW _ 2 6 h_9 (by decide) (by decide) (by decide)) (by decide))))))) p_8_5)))), (Eq.trans (fi_q (hU_13.2.2 _ (th_ne (hW _ 2 4 h_7 (by decide) (by decide) (by decide)) ha0 (by decide)))) (Eq.trans (fi_q (hU_12.2.2 _ (th_ne (hW _ 2 4 h_7 (by decide) (by decide) (by decide)) ha0 (by decide)))) (Eq.trans (fi_q (hU_11.2.2 _ (th_ne (hW _ 2 4 h_7 (by decide) (by decide) (by decide)) ha0 (by decide)))) (Eq.trans (fi_q (hk_10 _ (fun h => h.elim (th_ne (hW _ 2 4 h_7 (by decide) (by decide) (by decide)) h_9 (by decide)) (fun h => h.elim hn_11 (fun h => h.elim (th_ne (hW _ 2 4 h_7 (by decide) (by decide) (by decide)) (hW _ 2 5 h_9 (by decide) (by decide) (by decide)) (by decide)) (th_ne (hW _ 2 4 h_7 (by decide) (by decide) (by decide)) (hW _ 2 6 h_9 (by decide) (by decide) (by decide)) (by decide))))))) p_8_4)))), (Eq.trans (fl_q (hU_13.2.2 _ (th_ne (hW _ 2 4 h_7 (by decide) (by decide) (by decide)) ha0 (by decide)))) (Eq.trans (fl_q (hU_12.2.2 _ (th_ne (hW _ 2 4 h_7 (by decide) (by decide) (by decide)) ha0 (by decide)))) (Eq.trans (fl_q (hU_11.2.2 _ (th_ne (hW _ 2 4 h_7 (by decide) (by decide) (by decide)) ha0 (by decide)))) (Eq.trans (fl_q (hk_10 _ (fun h => h.elim (th_ne (hW _ 2 4 h_7 (by decide) (by decide) (by decide)) h_9 (by decide)) (fun h => h.elim hn_11 (fun h => h.elim (th_ne (hW _ 2 4 h_7 (by decide) (by decide) (by decide)) (hW _ 2 5 h_9 (by decide) (by decide) (by decide)) (by decide)) (th_ne (hW _ 2 4 h_7 (by decide) (by decide) (by decide)) (hW _ 2 6 h_9 (by decide) (by decide) (by decide)) (by decide))))))) p_8_3)))), (Eq.trans (fi_q (hU_13.2.2 _ (th_ne h_7 ha0 (by decide)))) (Eq.trans (fi_q (hU_12.2.2 _ (th_ne h_7 ha0 (by decide)))) (Eq.trans (fi_q (hU_11.2.2 _ (th_ne h_7 ha0 (by decide)))) (Eq.trans (fi_q (hk_10 _ (fun h => h.elim hn_12 (fun h => h.elim (th_ne h_7 (hW _ 2 4 h_9 (by decide) (by decide) (by decide)) (by decide)) (fun h => h.elim (th_ne h_7 (hW _ 2 5 h_9 (by decide) (by decide) (by decide)) (by decide)) (th_ne h_7 (hW _ 2 6 h_9 (by decide) (by decide) (by decide)) (by decide))))))) p_8_2)))), (Eq.trans (fi_q (hU_13.2.2 _ (th_ne h_7 ha0 (by decide)))) (Eq.trans (fi_q (hU_12.2.2 _ (th_ne h_7 ha0 (by decide)))) (Eq.trans (fi_q (hU_11.2.2 _ (th_ne h_7 ha0 (by decide)))) (Eq.trans (fi_q (hk_10 _ (fun h => h.elim hn_12 (fun h => h.elim (th_ne h_7 (hW _ 2 4 h_9 (by decide) (by decide) (by decide)) (by decide)) (fun h => h.elim (th_ne h_7 (hW _ 2 5 h_9 (by decide) (by decide) (by decide)) (by decide)) (th_ne h_7 (hW _ 2 6 h_9 (by decide) (by decide) (by decide)) (by decide))))))) p_8_1)))), (Eq.trans (fi_q (hU_13.2.2 _ (th_ne h_7 ha0 (by decide)))) (Eq.trans (fi_q (hU_12.2.2 _ (th_ne h_7 ha0 (by decide)))) (Eq.trans (fi_q (hU_11.2.2 _ (th_ne h_7 ha0 (by decide)))) (Eq.trans (fi_q (hk_10 _ (fun h => h.elim hn_12 (fun h => h.elim (th_ne h_7 (hW _ 2 4 h_9 (by decide) (by decide) (by decide)) (by decide)) (fun h => h.elim (th_ne h_7 (hW _ 2 5 h_9 (by decide) (by decide) (by decide)) (by decide)) (th_ne h_7 (hW _ 2 6 h_9 (by decide) (by decide) (by decide)) (by decide))))))) p_8_0)))), (Eq.trans (fi_q (hU_13.2.2 _ (th_ne (hW _ 2 6 h_9 (by decide) (by decide) (by decide)) ha0 (by decide)))) (Eq.trans (fi_q (hU_12.2.2 _ (th_ne (hW _ 2 6 h_9 (by decide) (by decide) (by decide)) ha0 (by decide)))) (Eq.trans (fi_q (hU_11.2.2 _ (th_ne (hW _ 2 6 h_9 (by decide) (by decide) (by decide)) ha0 (by decide)))) p_10_21))), (Eq.trans (fi_q (hU_13.2.2 _ (th_ne (hW _ 2 6 h_9 (by decide) (by decide) (by decide)) ha0 (by decide)))) (Eq.trans (fi_q (hU_12.2.2 _ (th_ne (hW _ 2 6 h_9 (by decide) (by decide) (by decide)) ha0 (by decide)))) (Eq.trans (fi_q (hU_11.2.2 _ (th_ne (hW _ 2 6 h_9 (by decide) (by decide) (by decide)) ha0 (by decide)))) p_10_20))), (Eq.trans (fi_q (hU_13.2.2 _ (th_ne (hW _ 2 6 h_9 (by decide) (by decide) (by decide)) ha0 (by decide)))) (Eq.trans (fi_q (hU_12.2.2 _ (th_ne (hW _ 2 6 h_9 (by decide) (by decide) (by decide)) ha0 (by decide)))) (Eq.trans (fi_q (hU_11.2.2 _ (th_ne (hW _ 2 6 h_9 (by decide) (by decide) (by decide)) ha0 (by decide)))) p_10_19))), (Eq.trans (fi_q (hU_13.2.2 _ (th_ne (hW _ 2 6 h_9 (by decide) (by decide) (by decide)) ha0 (by decide)))) (Eq.trans (fi_q (hU_12.2.2 _ (th_ne (hW _ 2 6 h_9 (by decide) (by decide) (by decide)) ha0 (by decide)))) (Eq.trans (fi_q (hU_11.2.2 _ (th_ne (hW _ 2 6 h_9 (by decide) (by decide) (by decide)) ha0 (by decide)))) p_10_18))), (Eq.trans (fi_q (hU_13.2.2 _ (th_ne (hW _ 2 6 h_9 (by decide) (by decide) (by decide)) ha0 (by decide)))) (Eq.trans (fi_q (hU_12.2.2 _ (th_ne (hW _ 2 6 h_9 (by decide) (by decide) (by decide)) ha0 (by decide)))) (Eq.trans (fi_q (hU_11.2.2 _ (th_ne (hW _ 2 6 h_9 (by decide) (by decide) (by decide)) ha0 (by decide)))) p_10_17))), (Eq.trans (fi_q (hU_13.2.2 _ (th_ne (hW _ 2 6 h_9 (by decide) (by decide) (by decide)) ha0 (by decide)))) (Eq.trans (fi_q (hU_12.2.2 _ (th_ne (hW _ 2 6 h_9 (by decide) (by decide) (by decide)) ha0 (by decide)))) (Eq.trans (fi_q (hU_11.2.2 _ (th_ne (hW _ 2 6 h_9 (by decide) (by decide) (by decide)) ha0 (by decide)))) p_10_16))), (Eq.trans (fi_q (hU_13.2.2 _ (th_ne (hW _ 2 5 h_9 (by decide) (by decide) (by decide)) ha0 (by decide)))) (Eq.trans (fi_q (hU_12.2.2 _ (th_ne (hW _ 2 5 h_9 (by decide) (by decide) (by decide)) ha0 (by decide)))) (Eq.trans (fi_q (hU_11.2.2 _ (th_ne (hW _ 2 5 h_9 (by decide) (by decide) (by decide)) ha0 (by decide)))) p_10_15))), (Eq.trans (fi_q (hU_13.2.2 _ (th_ne (hW _ 2 5 h_9 (by decide) (by decide) (by decide)) ha0 (by decide)))) (Eq.trans (fi_q (hU_12.2.2 _ (th_ne (hW _ 2 5 h_9 (by decide) (by decide) (by decide)) ha0 (by decide)))) (Eq.trans (fi_q (hU_11.2.2 _ (th_ne (hW _ 2 5 h_9 (by decide) (by decide) (by decide)) ha0 (by decide)))) p_10_14))), (Eq.trans (fi_q (hU_13.2.2 _ (th_ne (hW _ 2 5 h_9 (by decide) (by decide) (by decide)) ha0 (by decide)))) (Eq.trans (fi_q (hU_12.2.2 _ (th_ne (hW _ 2 5 h_9 (by decide) (by decide) (by decide)) ha0 (by decide)))) (Eq.trans (fi_q (hU_11.2.2 _ (th_ne (hW _ 2 5 h_9 (by decide) (by decide) (by decide)) ha0 (by decide)))) p_10_13))), (Eq.trans (fi_q (hU_13.2.2 _ (th_ne (hW _ 2 5 h_9 (by decide) (by decide) (by decide)) ha0 (by decide)))) (Eq.trans (fi_q (hU_12.2.2 _ (th_ne (hW _ 2 5 h_9 (by decide) (by decide) (by decide)) ha0 (by decide)))) (Eq.trans (fi_q (hU_11.2.2 _ (th_ne (hW _ 2 5 h_9 (by decide) (by decide) (by decide)) ha0 (by decide)))) p_10_12))), (Eq.trans (fi_q (hU_13.2.2 _ (th_ne (hW _ 2 5 h_9 (by decide) (by decide) (by decide)) ha0 (by decide)))) (Eq.trans (fi_q (hU_12.2.2 _ (th_ne (hW _ 2 5 h_9 (by decide) (by decide) (by decide)) ha0 (by decide)))) (Eq.trans (fi_q (hU_11.2.2 _ (th_ne (hW _ 2 5 h_9 (by decide) (by decide) (by decide)) ha0 (by decide)))) p_10_11))), (Eq.trans (fl_q (hU_13.2.2 _ (th_ne (hW _ 2 5 h_9 (by decide) (by decide) (by decide)) ha0 (by decide)))) (Eq.trans (fl_q (hU_12.2.2 _ (th_ne (hW _ 2 5 h_9 (by decide) (by decide) (by decide)) ha0 (by decide)))) (Eq.trans (fl_q (hU_11.2.2 _ (th_ne (hW _ 2 5 h_9 (by decide) (by decide) (by decide)) ha0 (by decide)))) p_10_10))), (Eq.trans (fi_q (hU_13.2.2 _ (th_ne (hW _ 2 4 h_9 (by decide) (by decide) (by decide)) ha0 (by decide)))) (Eq.trans (fi_q (hU_12.2.2 _ (th_ne (hW _ 2 4 h_9 (by decide) (by decide) (by decide)) ha0 (by decide)))) (Eq.trans (fi_q (hU_11.2.2 _ (th_ne (hW _ 2 4 h_9 (by decide) (by decide) (by decide)) ha0 (by decide)))) p_10_9))), (Eq.trans (fi_q (hU_13.2.2 _ (th_ne (hW _ 2 4 h_9 (by decide) (by decide) (by decide)) ha0 (by decide)))) (Eq.trans (fi_q (hU_12.2.2 _ (th_ne (hW _ 2 4 h_9 (by decide) (by decide) (by decide)) ha0 (by decide)))) (Eq.trans (fi_q (hU_11.2.2 _ (th_ne (hW _ 2 4 h_9 (by decide) (by decide) (by decide)) ha0 (by decide)))) p_10_8))), (Eq.trans (fi_q (hU_13.2.2 _ (th_ne (hW _ 2 4 h_9 (by decide) (by decide) (by decide)) ha0 (by decide)))) (Eq.trans (fi_q (hU_12.2.2 _ (th_ne (hW _ 2 4 h_9 (by decide) (by decide) (by decide)) ha0 (by decide)))) (Eq.trans (fi_q (hU_11.2.2 _ (th_ne (hW _ 2 4 h_9 (by decide) (by decide) (by decide)) ha0 (by decide)))) p_10_7))), (Eq.trans (fi_q (hU_13.2.2 _ (th_ne (hW _ 2 4 h_9 (by decide) (by decide) (by decide)) ha0 (by decide)))) (Eq.trans (fi_q (hU_12.2.2 _ (th_ne (hW _ 2 4 h_9 (by decide) (by decide) (by decide)) ha0 (by decide)))) (Eq.trans (fi_q (hU_11.2.2 _ (th_ne (hW _ 2 4 h_9 (by decide) (by decide) (by decide)) ha0 (by decide)))) p_10_6))), (Eq.trans (fi_q (hU_13.2.2 _ (th_ne (hW _ 2 4 h_9 (by decide) (by decide) (by decide)) ha0 (by decide)))) (Eq.trans (fi_q (hU_12.2.2 _ (th_ne (hW _ 2 4 h_9 (by decide) (by decide) (by decide)) ha0 (by decide)))) (Eq.trans (fi_q (hU_11.2.2 _ (th_ne (hW _ 2 4 h_9 (by decide) (by decide) (by decide)) ha0 (by decide)))) p_10_5))), (Eq.trans (fi_q (hU_13.2.2 _ (th_ne (hW _ 2 4 h_9 (by decide) (by decide) (by decide)) ha0 (by decide)))) (Eq.trans (fi_q (hU_12.2.2 _ (th_ne (hW _ 2 4 h_9 (by decide) (by decide) (by decide)) ha0 (by decide)))) (Eq.trans (fi_q (hU_11.2.2 _ (th_ne (hW _ 2 4 h_9 (by decide) (by decide) (by decide)) ha0 (by decide)))) p_10_4))), (Eq.trans (fl_q (hU_13.2.2 _ (th_ne (hW _ 2 4 h_9 (by decide) (by decide) (by decide)) ha0 (by decide)))) (Eq.trans (fl_q (hU_12.2.2 _ (th_ne (hW _ 2 4 h_9 (by decide) (by decide) (by decide)) ha0 (by decide)))) (Eq.trans (fl_q (hU_11.2.2 _ (th_ne (hW _ 2 4 h_9 (by decide) (by decide) (by decide)) ha0 (by decide)))) p_10_3))), (Eq.trans (fi_q (hU_13.2.2 _ (th_ne h_9 ha0 (by decide)))) (Eq.trans (fi_q (hU_12.2.2 _ (th_ne h_9 ha0 (by decide)))) (Eq.trans (fi_q (hU_11.2.2 _ (th_ne h_9 ha0 (by decide)))) p_10_2))), (Eq.trans (fi_q (hU_13.2.2 _ (th_ne h_9 ha0 (by decide)))) (Eq.trans (fi_q (hU_12.2.2 _ (th_ne h_9 ha0 (by decide)))) (Eq.trans (fi_q (hU_11.2.2 _ (th_ne h_9 ha0 (by decide)))) p_10_1))), (Eq.trans (fi_q (hU_13.2.2 _ (th_ne h_9 ha0 (by decide)))) (Eq.trans (fi_q (hU_12.2.2 _ (th_ne h_9 ha0 (by decide)))) (Eq.trans (fi_q (hU_11.2.2 _ (th_ne h_9 ha0 (by decide)))) p_10_0))), (Eq.trans (PU.io hU_13 (j := 7) (by decide) (by decide)) (Eq.trans (PU.io hU_12 (j := 7) (by decide) (by decide)) (PU.i hU_11))), (Eq.trans (PU.io hU_13 (j := 8) (by decide) (by decide)) (PU.i hU_12)), (PU.i hU_13)⟩ dX4_setUp_54
set_option maxHeartbeats 4000000 in
set_option maxRecDepth 100000 in
/-- StreamEndsModel.set -/
theorem c_X12_set_v29 (l : Launch) (D : va_G) (cI cS : ClassId) (τ : Nat → Option Nat) (ρ : Nat → Nat → Nat) (hW : WF τ ρ) (H : Heap) (hT : TH D cI cS τ ρ H) (a0 : Nat) (ha0 : τ a0 = some 12) : MV l D cI cS τ ρ yX12_set cX12_set 4 none 0 0 H [.ref a0, .int 0, .int 3, .int 1] (fun (u : Heap) => ai u (ρ a0 0) 3 = 1 ∧ (∀ j, j < 985 → ai u (ρ a0 0) j = if j = 3 then 1 else ai H (ρ a0 0) j)) (fun q => q = ρ a0 0) := by
  refine MV.of (by decide) (Nat.le_of_ble_eq_true rfl) ?_
  intro p e s m args below meth c E hml hr hlk hs ls hl
  have hx := E.1
  have hb := E.2.1
  have hown := E.2.2.1
  have hts := E.2.2.2.1
  have hS : SS (fun q => q = ρ a0 0) H H [] := SS.rf
  have hl : lv_has ls 4 [(0, .ref a0), (1, .int 0), (2, .int 3), (3, .int 1)] := hl
  refine lv_aload_n hx hb dX12_set_0 rfl (lv_at hl 0 rfl) ?_
  refine gf_X12_7 E hT hW ha0 dX12_set_1 (fun h_1 => ?_)
  refine lv_sipush (v := 288) hx hb dX12_set_4 (by decide) ?_
  refine lv_iload_n hx hb dX12_set_7 rfl (lv_at hl 1 rfl) ?_
  refine lv_imul hx hb dX12_set_8 ?_
  refine th_topi (y := 0) (by decide) ?_
  refine lv_iload_n hx hb dX12_set_9 rfl (lv_at hl 2 rfl) ?_
  refine lv_iadd hx hb dX12_set_10 ?_
  refine th_topi (y := 3) (by decide) ?_
  refine lv_iload_n hx hb dX12_set_11 rfl (lv_at hl 3 rfl) ?_
  refine th_iast E hT hS h_1 rfl (by decide) (vp_in_iff.mpr ⟨by decide, by decide⟩) dX12_set_12 (fun H_2 locs_2 hT_2 hU_2 hS_2 => ?_)
  have hU_2 : AU 985 H H_2 (ρ a0 0) 3 1 := hU_2
  exact th_vret E hr hlk hs hT_2 hS_2 ⟨(AU.s hU_2 (by decide)), (fun j hj => by rw [hU_2.1 j hj])⟩ dX12_set_13
set_option maxHeartbeats 4000000 in
set_option maxRecDepth 100000 in
/-- StreamEndsModel.set -/
theorem c_X12_set_v30 (l : Launch) (D : va_G) (cI cS : ClassId) (τ : Nat → Option Nat) (ρ : Nat → Nat → Nat) (hW : WF τ ρ) (H : Heap) (hT : TH D cI cS τ ρ H) (a0 : Nat) (ha0 : τ a0 = some 12) : MV l D cI cS τ ρ yX12_set cX12_set 4 none 0 0 H [.ref a0, .int 0, .int 6, .int 1] (fun (u : Heap) => ai u (ρ a0 0) 6 = 1 ∧ (∀ j, j < 985 → ai u (ρ a0 0) j = if j = 6 then 1 else ai H (ρ a0 0) j)) (fun q => q = ρ a0 0) := by
  refine MV.of (by decide) (Nat.le_of_ble_eq_true rfl) ?_
  intro p e s m args below meth c E hml hr hlk hs ls hl
  have hx := E.1
  have hb := E.2.1
  have hown := E.2.2.1
  have hts := E.2.2.2.1
  have hS : SS (fun q => q = ρ a0 0) H H [] := SS.rf
  have hl : lv_has ls 4 [(0, .ref a0), (1, .int 0), (2, .int 6), (3, .int 1)] := hl
  refine lv_aload_n hx hb dX12_set_0 rfl (lv_at hl 0 rfl) ?_
  refine gf_X12_7 E hT hW ha0 dX12_set_1 (fun h_1 => ?_)
  refine lv_sipush (v := 288) hx hb dX12_set_4 (by decide) ?_
  refine lv_iload_n hx hb dX12_set_7 rfl (lv_at hl 1 rfl) ?_
  refine lv_imul hx hb dX12_set_8 ?_
  refine th_topi (y := 0) (by decide) ?_
  refine lv_iload_n hx hb dX12_set_9 rfl (lv_at hl 2 rfl) ?_
  refine lv_iadd hx hb dX12_set_10 ?_
  refine th_topi (y := 6) (by decide) ?_
  refine lv_iload_n hx hb dX12_set_11 rfl (lv_at hl 3 rfl) ?_
  refine th_iast E hT hS h_1 rfl (by decide) (vp_in_iff.mpr ⟨by decide, by decide⟩) dX12_set_12 (fun H_2 locs_2 hT_2 hU_2 hS_2 => ?_)
  have hU_2 : AU 985 H H_2 (ρ a0 0) 6 1 := hU_2
  exact th_vret E hr hlk hs hT_2 hS_2 ⟨(AU.s hU_2 (by decide)), (fun j hj => by rw [hU_2.1 j hj])⟩ dX12_set_13
set_option maxHeartbeats 4000000 in
set_option maxRecDepth 100000 in
/-- StreamEndsModel.set -/
theorem c_X12_set_v31 (l : Launch) (D : va_G) (cI cS : ClassId) (τ : Nat → Option Nat) (ρ : Nat → Nat → Nat) (hW : WF τ ρ) (H : Heap) (hT : TH D cI cS τ ρ H) (a0 : Nat) (ha0 : τ a0 = some 12) : MV l D cI cS τ ρ yX12_set cX12_set 4 none 0 0 H [.ref a0, .int 0, .int 7, .int 13] (fun (u : Heap) => ai u (ρ a0 0) 7 = 13 ∧ (∀ j, j < 985 → ai u (ρ a0 0) j = if j = 7 then 13 else ai H (ρ a0 0) j)) (fun q => q = ρ a0 0) := by
  refine MV.of (by decide) (Nat.le_of_ble_eq_true rfl) ?_
  intro p e s m args below meth c E hml hr hlk hs ls hl
  have hx := E.1
  have hb := E.2.1
  have hown := E.2.2.1
  have hts := E.2.2.2.1
  have hS : SS (fun q => q = ρ a0 0) H H [] := SS.rf
  have hl : lv_has ls 4 [(0, .ref a0), (1, .int 0), (2, .int 7), (3, .int 13)] := hl
  refine lv_aload_n hx hb dX12_set_0 rfl (lv_at hl 0 rfl) ?_
  refine gf_X12_7 E hT hW ha0 dX12_set_1 (fun h_1 => ?_)
  refine lv_sipush (v := 288) hx hb dX12_set_4 (by decide) ?_
  refine lv_iload_n hx hb dX12_set_7 rfl (lv_at hl 1 rfl) ?_
  refine lv_imul hx hb dX12_set_8 ?_
  refine th_topi (y := 0) (by decide) ?_
  refine lv_iload_n hx hb dX12_set_9 rfl (lv_at hl 2 rfl) ?_
  refine lv_iadd hx hb dX12_set_10 ?_
  refine th_topi (y := 7) (by decide) ?_
  refine lv_iload_n hx hb dX12_set_11 rfl (lv_at hl 3 rfl) ?_
  refine th_iast E hT hS h_1 rfl (by decide) (vp_in_iff.mpr ⟨by decide, by decide⟩) dX12_set_12 (fun H_2 locs_2 hT_2 hU_2 hS_2 => ?_)
  have hU_2 : AU 985 H H_2 (ρ a0 0) 7 13 := hU_2
  exact th_vret E hr hlk hs hT_2 hS_2 ⟨(AU.s hU_2 (by decide)), (fun j hj => by rw [hU_2.1 j hj])⟩ dX12_set_13
set_option maxHeartbeats 4000000 in
set_option maxRecDepth 100000 in
/-- StreamEndsModel.set -/
theorem c_X12_set_v32 (l : Launch) (D : va_G) (cI cS : ClassId) (τ : Nat → Option Nat) (ρ : Nat → Nat → Nat) (hW : WF τ ρ) (H : Heap) (hT : TH D cI cS τ ρ H) (a0 : Nat) (ha0 : τ a0 = some 12) : MV l D cI cS τ ρ yX12_set cX12_set 4 none 0 0 H [.ref a0, .int 0, .int 8, .int 6] (fun (u : Heap) => ai u (ρ a0 0) 8 = 6 ∧ (∀ j, j < 985 → ai u (ρ a0 0) j = if j = 8 then 6 else ai H (ρ a0 0) j)) (fun q => q = ρ a0 0) := by
  refine MV.of (by decide) (Nat.le_of_ble_eq_true rfl) ?_
  intro p e s m args below meth c E hml hr hlk hs ls hl
  have hx := E.1
  have hb := E.2.1
  have hown := E.2.2.1
  have hts := E.2.2.2.1
  have hS : SS (fun q => q = ρ a0 0) H H [] := SS.rf
  have hl : lv_has ls 4 [(0, .ref a0), (1, .int 0), (2, .int 8), (3, .int 6)] := hl
  refine lv_aload_n hx hb dX12_set_0 rfl (lv_at hl 0 rfl) ?_
  refine gf_X12_7 E hT hW ha0 dX12_set_1 (fun h_1 => ?_)
  refine lv_sipush (v := 288) hx hb dX12_set_4 (by decide) ?_
  refine lv_iload_n hx hb dX12_set_7 rfl (lv_at hl 1 rfl) ?_
  refine lv_imul hx hb dX12_set_8 ?_
  refine th_topi (y := 0) (by decide) ?_
  refine lv_iload_n hx hb dX12_set_9 rfl (lv_at hl 2 rfl) ?_
  refine lv_iadd hx hb dX12_set_10 ?_
  refine th_topi (y := 8) (by decide) ?_
  refine lv_iload_n hx hb dX12_set_11 rfl (lv_at hl 3 rfl) ?_
  refine th_iast E hT hS h_1 rfl (by decide) (vp_in_iff.mpr ⟨by decide, by decide⟩) dX12_set_12 (fun H_2 locs_2 hT_2 hU_2 hS_2 => ?_)
  have hU_2 : AU 985 H H_2 (ρ a0 0) 8 6 := hU_2
  exact th_vret E hr hlk hs hT_2 hS_2 ⟨(AU.s hU_2 (by decide)), (fun j hj => by rw [hU_2.1 j hj])⟩ dX12_set_13
set_option maxHeartbeats 4000000 in
set_option maxRecDepth 100000 in
/-- StreamEndsModel.set -/
theorem c_X12_set_v33 (l : Launch) (D : va_G) (cI cS : ClassId) (τ : Nat → Option Nat) (ρ : Nat → Nat → Nat) (hW : WF τ ρ) (H : Heap) (hT : TH D cI cS τ ρ H) (a0 : Nat) (ha0 : τ a0 = some 12) : MV l D cI cS τ ρ yX12_set cX12_set 4 none 0 0 H [.ref a0, .int 0, .int 16, .int (-4)] (fun (u : Heap) => ai u (ρ a0 0) 16 = (-4) ∧ (∀ j, j < 985 → ai u (ρ a0 0) j = if j = 16 then (-4) else ai H (ρ a0 0) j)) (fun q => q = ρ a0 0) := by
  refine MV.of (by decide) (Nat.le_of_ble_eq_true rfl) ?_
  intro p e s m args below meth c E hml hr hlk hs ls hl
  have hx := E.1
  have hb := E.2.1
  have hown := E.2.2.1
  have hts := E.2.2.2.1
  have hS : SS (fun q => q = ρ a0 0) H H [] := SS.rf
  have hl : lv_has ls 4 [(0, .ref a0), (1, .int 0), (2, .int 16), (3, .int (-4))] := hl
  refine lv_aload_n hx hb dX12_set_0 rfl (lv_at hl 0 rfl) ?_
  refine gf_X12_7 E hT hW ha0 dX12_set_1 (fun h_1 => ?_)
  refine lv_sipush (v := 288) hx hb dX12_set_4 (by decide) ?_
  refine lv_iload_n hx hb dX12_set_7 rfl (lv_at hl 1 rfl) ?_
  refine lv_imul hx hb dX12_set_8 ?_
  refine th_topi (y := 0) (by decide) ?_
  refine lv_iload_n hx hb dX12_set_9 rfl (lv_at hl 2 rfl) ?_
  refine lv_iadd hx hb dX12_set_10 ?_
  refine th_topi (y := 16) (by decide) ?_
  refine lv_iload_n hx hb dX12_set_11 rfl (lv_at hl 3 rfl) ?_
  refine th_iast E hT hS h_1 rfl (by decide) (vp_in_iff.mpr ⟨by decide, by decide⟩) dX12_set_12 (fun H_2 locs_2 hT_2 hU_2 hS_2 => ?_)
  have hU_2 : AU 985 H H_2 (ρ a0 0) 16 (-4) := hU_2
  exact th_vret E hr hlk hs hT_2 hS_2 ⟨(AU.s hU_2 (by decide)), (fun j hj => by rw [hU_2.1 j hj])⟩ dX12_set_13
set_option maxHeartbeats 4000000 in
set_option maxRecDepth 100000 in
/-- StreamEndsModel.set -/
theorem c_X12_set_v34 (l : Launch) (D : va_G) (cI cS : ClassId) (τ : Nat → Option Nat) (ρ : Nat → Nat → Nat) (hW : WF τ ρ) (H : Heap) (hT : TH D cI cS τ ρ H) (a0 : Nat) (ha0 : τ a0 = some 12) : MV l D cI cS τ ρ yX12_set cX12_set 4 none 0 0 H [.ref a0, .int 0, .int 17, .int (-4)] (fun (u : Heap) => ai u (ρ a0 0) 17 = (-4) ∧ (∀ j, j < 985 → ai u (ρ a0 0) j = if j = 17 then (-4) else ai H (ρ a0 0) j)) (fun q => q = ρ a0 0) := by
  refine MV.of (by decide) (Nat.le_of_ble_eq_true rfl) ?_
  intro p e s m args below meth c E hml hr hlk hs ls hl
  have hx := E.1
  have hb := E.2.1
  have hown := E.2.2.1
  have hts := E.2.2.2.1
  have hS : SS (fun q => q = ρ a0 0) H H [] := SS.rf
  have hl : lv_has ls 4 [(0, .ref a0), (1, .int 0), (2, .int 17), (3, .int (-4))] := hl
  refine lv_aload_n hx hb dX12_set_0 rfl (lv_at hl 0 rfl) ?_
  refine gf_X12_7 E hT hW ha0 dX12_set_1 (fun h_1 => ?_)
  refine lv_sipush (v := 288) hx hb dX12_set_4 (by decide) ?_
  refine lv_iload_n hx hb dX12_set_7 rfl (lv_at hl 1 rfl) ?_
  refine lv_imul hx hb dX12_set_8 ?_
  refine th_topi (y := 0) (by decide) ?_
  refine lv_iload_n hx hb dX12_set_9 rfl (lv_at hl 2 rfl) ?_
  refine lv_iadd hx hb dX12_set_10 ?_
  refine th_topi (y := 17) (by decide) ?_
  refine lv_iload_n hx hb dX12_set_11 rfl (lv_at hl 3 rfl) ?_
  refine th_iast E hT hS h_1 rfl (by decide) (vp_in_iff.mpr ⟨by decide, by decide⟩) dX12_set_12 (fun H_2 locs_2 hT_2 hU_2 hS_2 => ?_)
  have hU_2 : AU 985 H H_2 (ρ a0 0) 17 (-4) := hU_2
  exact th_vret E hr hlk hs hT_2 hS_2 ⟨(AU.s hU_2 (by decide)), (fun j hj => by rw [hU_2.1 j hj])⟩ dX12_set_13
set_option maxHeartbeats 4000000 in
set_option maxRecDepth 100000 in
/-- StreamEndsModel.starts -/
theorem c_X12_starts_v5 (l : Launch) (D : va_G) (cI cS : ClassId) (τ : Nat → Option Nat) (ρ : Nat → Nat → Nat) (hW : WF τ ρ) (H : Heap) (hT : TH D cI cS τ ρ H) (a0 : Nat) (ha0 : τ a0 = some 12) (hf_1 : fi D 12 7 H a0 = 12) : MV l D cI cS τ ρ yX12_starts cX12_starts 3 none 1 23 H [.ref a0, .int 0] (fun (u : Heap) => ai u (ρ a0 0) 3 = 1 ∧ ai u (ρ a0 0) 6 = 1 ∧ ai u (ρ a0 0) 7 = 13 ∧ ai u (ρ a0 0) 8 = 6 ∧ ai u (ρ a0 0) 16 = (-4) ∧ ai u (ρ a0 0) 17 = (-4) ∧ (∀ j, j < 985 → ai u (ρ a0 0) j = if 0 ≤ j ∧ j < 288 then s0f (j - 0) else ai H (ρ a0 0) j)) (fun q => q = ρ a0 0) := by
  refine MV.of (by decide) (Nat.le_of_ble_eq_true rfl) ?_
  intro p e s m args below meth c E hml hr hlk hs ls hl
  have hx := E.1
  have hb := E.2.1
  have hown := E.2.2.1
  have hts := E.2.2.2.1
  have hS : SS (fun q => q = ρ a0 0) H H [] := SS.rf
  have hl : lv_has ls 3 [(0, .ref a0), (1, .int 0)] := hl
  refine lv_iconst (v := 0) hx hb dX12_starts_0 (by decide) ?_
  refine lv_istore_n (lv' := [(2, .int 0), (0, .ref a0), (1, .int 0)]) hx hb dX12_starts_1 rfl hl (by decide) rfl (fun ls hl => ?_)
  have loop_1 : ∀ (f_1 i_1 : Nat) (H_1 : Heap) (locs_1 : List Loc), TH D cI cS τ ρ H_1 → SS (fun q => q = ρ a0 0) H H_1 locs_1 → (∀ q : Nat, ¬ (q = ρ a0 0) → H_1[q]? = H[q]?) → (i_1 : Int) ≤ 288 → (∀ j, j < 985 → ai H_1 (ρ a0 0) j = if 0 ≤ j ∧ j < 0 + i_1 then 0 else ai H (ρ a0 0) j) → (288 - (i_1 : Int)).toNat < f_1 → ∀ ls : Array Slot, lv_has ls 3 [(2, .int (nI i_1)), (0, .ref a0), (1, .int 0)] → W p l e (rmO 1 23) s m args below meth c H_1 locs_1 0 0 (MQ below (va_Qv (fun (u : Heap) => ai u (ρ a0 0) 3 = 1 ∧ ai u (ρ a0 0) 6 = 1 ∧ ai u (ρ a0 0) 7 = 13 ∧ ai u (ρ a0 0) 8 = 6 ∧ ai u (ρ a0 0) 16 = (-4) ∧ ai u (ρ a0 0) 17 = (-4) ∧ (∀ j, j < 985 → ai u (ρ a0 0) j = if 0 ≤ j ∧ j < 288 then s0f (j - 0) else ai H (ρ a0 0) j)) (Bt D cI cS τ ρ H) (fun q => q = ρ a0 0)) args s 0 0 (fun q => q = ρ a0 0)) (F0 m 2 ls []) := by
    intro f_1
    induction f_1 with
    | zero => intro i_1 H_1 locs_1 hT_1 hS_1 hk_1 hi_1 hv_1 hm_1; exact absurd hm_1 (Nat.not_lt_zero _)
    | succ f_1 ih_1 =>
      intro i_1 H_1 locs_1 hT_1 hS_1 hk_1 hi_1 hv_1 hm_1 ls hl
      refine lv_iload_n hx hb dX12_starts_2 rfl (lv_at hl 0 rfl) ?_
      refine lv_sipush (v := 288) hx hb dX12_starts_3 (by decide) ?_
      refine lv_icmp_ge (tgt := 28) hx hb dX12_starts_6 (by decide) (fun c_2 => ?_) (fun c_2 => ?_)
      · have en_1 := nI_toInt (n := i_1) (by omega)
        have ek_1 : (288 : Int32).toInt = 288 := by decide
        have hb_1 := Int32.le_iff_toInt_le.mp c_2
        refine lv_aload_n hx hb dX12_starts_28 rfl (lv_at hl 1 rfl) ?_
        refine lv_iload_n hx hb dX12_starts_29 rfl (lv_at hl 2 rfl) ?_
        refine lv_iconst (v := 3) hx hb dX12_starts_30 (by decide) ?_
        refine lv_iconst (v := 1) hx hb dX12_starts_31 (by decide) ?_
        refine th_Vv (As := [.int 0, .int 3, .int 1]) (rest := []) E hml hl.1 (c_X12_set_v29 l D cI cS τ ρ hW H_1 hT_1 a0 ha0) lk_X12_95 yd_X12_set hT_1 ha0 rfl (by decide) hS_1 (fun q h => h) ⟨by decide, by decide⟩ (Nat.le_of_ble_eq_true rfl) ⟨by decide, by decide⟩ rfl dX12_starts_32 (fun H_3 locs_3 p_3 hT_3 hk_3 hS_3 => ?_)
        have p_3 : ai H_3 (ρ a0 0) 3 = 1 ∧ (∀ j, j < 985 → ai H_3 (ρ a0 0) j = if j = 3 then 1 else ai H_1 (ρ a0 0) j) := p_3
        obtain ⟨p_3_0, p_3_1⟩ := p_3
        refine lv_aload_n hx hb dX12_starts_35 rfl (lv_at hl 1 rfl) ?_
        refine lv_iload_n hx hb dX12_starts_36 rfl (lv_at hl 2 rfl) ?_
        refine lv_bipush (v := 6) hx hb dX12_starts_37 (by decide) ?_
        refine lv_iconst (v := 1) hx hb dX12_starts_39 (by decide) ?_
        refine th_Vv (As := [.int 0, .int 6, .int 1]) (rest := []) E hml hl.1 (c_X12_set_v30 l D cI cS τ ρ hW H_3 hT_3 a0 ha0) lk_X12_95 yd_X12_set hT_3 ha0 rfl (by decide) hS_3 (fun q h => h) ⟨by decide, by decide⟩ (Nat.le_of_ble_eq_true rfl) ⟨by decide, by decide⟩ rfl dX12_starts_40 (fun H_4 locs_4 p_4 hT_4 hk_4 hS_4 => ?_)
        have p_4 : ai H_4 (ρ a0 0) 6 = 1 ∧ (∀ j, j < 985 → ai H_4 (ρ a0 0) j = if j = 6 then 1 else ai H_3 (ρ a0 0) j) := p_4
        obtain ⟨p_4_0, p_4_1⟩ := p_4
        refine lv_aload_n hx hb dX12_starts_43 rfl (lv_at hl 1 rfl) ?_
        refine lv_iload_n hx hb dX12_starts_44 rfl (lv_at hl 2 rfl) ?_
        refine lv_bipush (v := 7) hx hb dX12_starts_45 (by decide) ?_
        refine lv_aload_n hx hb dX12_starts_47 rfl (lv_at hl 1 rfl) ?_
        refine gf_X12_29 E hT_4 ha0 dX12_starts_48 ?_
        refine th_topi (y := 12) (Eq.trans (fi_q (hk_4 _ (th_ne ha0 (hW _ 12 0 ha0 (by decide) (by decide) (by decide)) (by decide)))) (Eq.trans (fi_q (hk_3 _ (th_ne ha0 (hW _ 12 0 ha0 (by decide) (by decide) (by decide)) (by decide)))) (Eq.trans (fi_q (hk_1 _ (th_ne ha0 (hW _ 12 0 ha0 (by decide) (by decide) (by decide)) (by decide)))) hf_1))) ?_
        refine lv_iconst (v := 1) hx hb dX12_starts_51 (by decide) ?_
        refine lv_iadd hx hb dX12_starts_52 ?_
        refine th_topi (y := 13) (by decide) ?_
        refine th_Vv (As := [.int 0, .int 7, .int 13]) (rest := []) E hml hl.1 (c_X12_set_v31 l D cI cS τ ρ hW H_4 hT_4 a0 ha0) lk_X12_95 yd_X12_set hT_4 ha0 rfl (by decide) hS_4 (fun q h => h) ⟨by decide, by decide⟩ (Nat.le_of_ble_eq_true rfl) ⟨by decide, by decide⟩ rfl dX12_starts_53 (fun H_5 locs_5 p_5 hT_5 hk_5 hS_5 => ?_)
        have p_5 : ai H_5 (ρ a0 0) 7 = 13 ∧ (∀ j, j < 985 → ai H_5 (ρ a0 0) j = if j = 7 then 13 else ai H_4 (ρ a0 0) j) := p_5
        obtain ⟨p_5_0, p_5_1⟩ := p_5
        refine lv_aload_n hx hb dX12_starts_56 rfl (lv_at hl 1 rfl) ?_
        refine lv_iload_n hx hb dX12_starts_57 rfl (lv_at hl 2 rfl) ?_
        refine lv_bipush (v := 8) hx hb dX12_starts_58 (by decide) ?_
        refine lv_bipush (v := 6) hx hb dX12_starts_60 (by decide) ?_
        refine th_Vv (As := [.int 0, .int 8, .int 6]) (rest := []) E hml hl.1 (c_X12_set_v32 l D cI cS τ ρ hW H_5 hT_5 a0 ha0) lk_X12_95 yd_X12_set hT_5 ha0 rfl (by decide) hS_5 (fun q h => h) ⟨by decide, by decide⟩ (Nat.le_of_ble_eq_true rfl) ⟨by decide, by decide⟩ rfl dX12_starts_62 (fun H_6 locs_6 p_6 hT_6 hk_6 hS_6 => ?_)
        have p_6 : ai H_6 (ρ a0 0) 8 = 6 ∧ (∀ j, j < 985 → ai H_6 (ρ a0 0) j = if j = 8 then 6 else ai H_5 (ρ a0 0) j) := p_6
        obtain ⟨p_6_0, p_6_1⟩ := p_6
        refine lv_aload_n hx hb dX12_starts_65 rfl (lv_at hl 1 rfl) ?_
        refine lv_iload_n hx hb dX12_starts_66 rfl (lv_at hl 2 rfl) ?_
        refine lv_bipush (v := 16) hx hb dX12_starts_67 (by decide) ?_
        refine lv_bipush (v := (-4)) hx hb dX12_starts_69 (by decide) ?_
        refine th_Vv (As := [.int 0, .int 16, .int (-4)]) (rest := []) E hml hl.1 (c_X12_set_v33 l D cI cS τ ρ hW H_6 hT_6 a0 ha0) lk_X12_95 yd_X12_set hT_6 ha0 rfl (by decide) hS_6 (fun q h => h) ⟨by decide, by decide⟩ (Nat.le_of_ble_eq_true rfl) ⟨by decide, by decide⟩ rfl dX12_starts_71 (fun H_7 locs_7 p_7 hT_7 hk_7 hS_7 => ?_)
        have p_7 : ai H_7 (ρ a0 0) 16 = (-4) ∧ (∀ j, j < 985 → ai H_7 (ρ a0 0) j = if j = 16 then (-4) else ai H_6 (ρ a0 0) j) := p_7
        obtain ⟨p_7_0, p_7_1⟩ := p_7
        refine lv_aload_n hx hb dX12_starts_74 rfl (lv_at hl 1 rfl) ?_
        refine lv_iload_n hx hb dX12_starts_75 rfl (lv_at hl 2 rfl) ?_
        refine lv_bipush (v := 17) hx hb dX12_starts_76 (by decide) ?_
        refine lv_bipush (v := (-4)) hx hb dX12_starts_78 (by decide) ?_
        refine th_Vv (As := [.int 0, .int 17, .int (-4)]) (rest := []) E hml hl.1 (c_X12_set_v34 l D cI cS τ ρ hW H_7 hT_7 a0 ha0) lk_X12_95 yd_X12_set hT_7 ha0 rfl (by decide) hS_7 (fun q h => h) ⟨by decide, by decide⟩ (Nat.le_of_ble_eq_true rfl) ⟨by decide, by decide⟩ rfl dX12_starts_80 (fun H_8 locs_8 p_8 hT_8 hk_8 hS_8 => ?_)
        have p_8 : ai H_8 (ρ a0 0) 17 = (-4) ∧ (∀ j, j < 985 → ai H_8 (ρ a0 0) j = if j = 17 then (-4) else ai H_7 (ρ a0 0) j) := p_8
        obtain ⟨p_8_0, p_8_1⟩ := p_8
        exact th_vret E hr hlk hs hT_8 hS_8 ⟨(Eq.trans (Eq.trans (p_8_1 3 (by decide)) (if_neg (by decide))) (Eq.trans (Eq.trans (p_7_1 3 (by decide)) (if_neg (by decide))) (Eq.trans (Eq.trans (p_6_1 3 (by decide)) (if_neg (by decide))) (Eq.trans (Eq.trans (p_5_1 3 (by decide)) (if_neg (by decide))) (Eq.trans (Eq.trans (p_4_1 3 (by decide)) (if_neg (by decide))) p_3_0))))), (Eq.trans (Eq.trans (p_8_1 6 (by decide)) (if_neg (by decide))) (Eq.trans (Eq.trans (p_7_1 6 (by decide)) (if_neg (by decide))) (Eq.trans (Eq.trans (p_6_1 6 (by decide)) (if_neg (by decide))) (Eq.trans (Eq.trans (p_5_1 6 (by decide)) (if_neg (by decide))) p_4_0)))), (Eq.trans (Eq.trans (p_8_1 7 (by decide)) (if_neg (by decide))) (Eq.trans (Eq.trans (p_7_1 7 (by decide)) (if_neg (by decide))) (Eq.trans (Eq.trans (p_6_1 7 (by decide)) (if_neg (by decide))) p_5_0))), (Eq.trans (Eq.trans (p_8_1 8 (by decide)) (if_neg (by decide))) (Eq.trans (Eq.trans (p_7_1 8 (by decide)) (if_neg (by decide))) p_6_0)), (Eq.trans (Eq.trans (p_8_1 16 (by decide)) (if_neg (by decide))) p_7_0), p_8_0, (by
    intro j hj
    have e288 : i_1 = 288 := by omega
    rw [p_8_1 j hj, p_7_1 j hj, p_6_1 j hj, p_5_1 j hj, p_4_1 j hj, p_3_1 j hj, hv_1 j hj, e288]
    unfold s0f
    by_cases k17 : j = 17
    · rw [if_pos k17, if_pos (by omega)]; subst k17; decide
    rw [if_neg k17]
    by_cases k16 : j = 16
    · rw [if_pos k16, if_pos (by omega)]; subst k16; decide
    rw [if_neg k16]
    by_cases k8 : j = 8
    · rw [if_pos k8, if_pos (by omega)]; subst k8; decide
    rw [if_neg k8]
    by_cases k7 : j = 7
    · rw [if_pos k7, if_pos (by omega)]; subst k7; decide
    rw [if_neg k7]
    by_cases k6 : j = 6
    · rw [if_pos k6, if_pos (by omega)]; subst k6; decide
    rw [if_neg k6]
    by_cases k3 : j = 3
    · rw [if_pos k3, if_pos (by omega)]; subst k3; decide
    rw [if_neg k3]
    by_cases h : 0 ≤ j ∧ j < 288
    · rw [if_pos (by omega), if_pos h, if_neg (by omega), if_neg (by omega), if_neg (by omega), if_neg (by omega), if_neg (by omega), if_neg (by omega)]
    · rw [if_neg (by omega), if_neg h])⟩ dX12_starts_83
      · have en_1 := nI_toInt (n := i_1) (by omega)
        have ek_1 : (288 : Int32).toInt = 288 := by decide
        have hb_1 := Int32.not_le.mp c_2
        have hb_1 := Int32.lt_iff_toInt_lt.mp hb_1
        refine lv_aload_n hx hb dX12_starts_9 rfl (lv_at hl 1 rfl) ?_
        refine gf_X12_7 E hT_1 hW ha0 dX12_starts_10 (fun h_9 => ?_)
        refine lv_sipush (v := 288) hx hb dX12_starts_13 (by decide) ?_
        refine lv_iload_n hx hb dX12_starts_16 rfl (lv_at hl 2 rfl) ?_
        refine lv_imul hx hb dX12_starts_17 ?_
        refine th_topi (y := 0) (by decide) ?_
        refine lv_iload_n hx hb dX12_starts_18 rfl (lv_at hl 0 rfl) ?_
        refine lv_iadd hx hb dX12_starts_19 ?_
        refine th_topi (y := nI (0 + i_1)) (nI_add _ _) ?_
        refine lv_iconst (v := 0) hx hb dX12_starts_20 (by decide) ?_
        refine th_iast E hT_1 hS_1 h_9 rfl (by decide) (vp_in_nI (by omega) (by decide)) dX12_starts_21 (fun H_10 locs_10 hT_10 hU_10 hS_10 => ?_)
        rw [nI_clamp (by omega)] at hU_10
        obtain ⟨x_11, ex_11⟩ : ∃ y : Int32, nI i_1 + 1 = y := ⟨_, rfl⟩
        refine lv_iinc (v := x_11) (lv' := [(2, .int x_11), (0, .ref a0), (1, .int 0)]) hx hb dX12_starts_22 hl (k := 0) rfl (by rw [← ex_11]; rfl) (by decide) rfl (fun ls hl => ?_)
        refine lv_goto (tgt := 2) hx hb dX12_starts_25 (by decide) ?_
        have en_1 : x_11 = nI (i_1 + 1) := by rw [← ex_11]; exact nI_1 _
        subst en_1
        exact ih_1 (i_1 + 1) H_10 locs_10 hT_10 hS_10 (fun q hn => (Eq.trans (hU_10.2 q (fun e => hn e)) (hk_1 q hn))) (by omega) (by
          intro j hj
          rw [hU_10.1 j hj, hv_1 j hj]
          by_cases h1 : j = 0 + i_1
          · rw [if_pos h1, if_pos (by omega)]
          · rw [if_neg h1]
            by_cases h2 : 0 ≤ j ∧ j < 0 + i_1
            · rw [if_pos h2, if_pos (by omega)]
            · rw [if_neg h2, if_neg (by omega)]) (by omega) ls (lv_sub hl [0, 1, 2] rfl)
  exact loop_1 (((288 : Int) - 0).toNat + 1) 0 H [] hT hS (fun _ _ => rfl) (by omega) (fun j hj => by rw [if_neg (by omega)]) (by omega) ls (lv_sub hl [0, 1, 2] rfl)
set_option maxHeartbeats 4000000 in
set_option maxRecDepth 100000 in
/-- StreamEndsModel.set -/
theorem c_X12_set_v35 (l : Launch) (D : va_G) (cI cS : ClassId) (τ : Nat → Option Nat) (ρ : Nat → Nat → Nat) (hW : WF τ ρ) (H : Heap) (hT : TH D cI cS τ ρ H) (a0 : Nat) (ha0 : τ a0 = some 12) : MV l D cI cS τ ρ yX12_set cX12_set 4 none 0 0 H [.ref a0, .int 1, .int 3, .int 1] (fun (u : Heap) => ai u (ρ a0 0) 291 = 1 ∧ (∀ j, j < 985 → ai u (ρ a0 0) j = if j = 291 then 1 else ai H (ρ a0 0) j)) (fun q => q = ρ a0 0) := by
  refine MV.of (by decide) (Nat.le_of_ble_eq_true rfl) ?_
  intro p e s m args below meth c E hml hr hlk hs ls hl
  have hx := E.1
  have hb := E.2.1
  have hown := E.2.2.1
  have hts := E.2.2.2.1
  have hS : SS (fun q => q = ρ a0 0) H H [] := SS.rf
  have hl : lv_has ls 4 [(0, .ref a0), (1, .int 1), (2, .int 3), (3, .int 1)] := hl
  refine lv_aload_n hx hb dX12_set_0 rfl (lv_at hl 0 rfl) ?_
  refine gf_X12_7 E hT hW ha0 dX12_set_1 (fun h_1 => ?_)
  refine lv_sipush (v := 288) hx hb dX12_set_4 (by decide) ?_
  refine lv_iload_n hx hb dX12_set_7 rfl (lv_at hl 1 rfl) ?_
  refine lv_imul hx hb dX12_set_8 ?_
  refine th_topi (y := 288) (by decide) ?_
  refine lv_iload_n hx hb dX12_set_9 rfl (lv_at hl 2 rfl) ?_
  refine lv_iadd hx hb dX12_set_10 ?_
  refine th_topi (y := 291) (by decide) ?_
  refine lv_iload_n hx hb dX12_set_11 rfl (lv_at hl 3 rfl) ?_
  refine th_iast E hT hS h_1 rfl (by decide) (vp_in_iff.mpr ⟨by decide, by decide⟩) dX12_set_12 (fun H_2 locs_2 hT_2 hU_2 hS_2 => ?_)
  have hU_2 : AU 985 H H_2 (ρ a0 0) 291 1 := hU_2
  exact th_vret E hr hlk hs hT_2 hS_2 ⟨(AU.s hU_2 (by decide)), (fun j hj => by rw [hU_2.1 j hj])⟩ dX12_set_13
set_option maxHeartbeats 4000000 in
set_option maxRecDepth 100000 in
/-- StreamEndsModel.set -/
theorem c_X12_set_v36 (l : Launch) (D : va_G) (cI cS : ClassId) (τ : Nat → Option Nat) (ρ : Nat → Nat → Nat) (hW : WF τ ρ) (H : Heap) (hT : TH D cI cS τ ρ H) (a0 : Nat) (ha0 : τ a0 = some 12) : MV l D cI cS τ ρ yX12_set cX12_set 4 none 0 0 H [.ref a0, .int 1, .int 6, .int 1] (fun (u : Heap) => ai u (ρ a0 0) 294 = 1 ∧ (∀ j, j < 985 → ai u (ρ a0 0) j = if j = 294 then 1 else ai H (ρ a0 0) j)) (fun q => q = ρ a0 0) := by
  refine MV.of (by decide) (Nat.le_of_ble_eq_true rfl) ?_
  intro p e s m args below meth c E hml hr hlk hs ls hl
  have hx := E.1
  have hb := E.2.1
  have hown := E.2.2.1
  have hts := E.2.2.2.1
  have hS : SS (fun q => q = ρ a0 0) H H [] := SS.rf
  have hl : lv_has ls 4 [(0, .ref a0), (1, .int 1), (2, .int 6), (3, .int 1)] := hl
  refine lv_aload_n hx hb dX12_set_0 rfl (lv_at hl 0 rfl) ?_
  refine gf_X12_7 E hT hW ha0 dX12_set_1 (fun h_1 => ?_)
  refine lv_sipush (v := 288) hx hb dX12_set_4 (by decide) ?_
  refine lv_iload_n hx hb dX12_set_7 rfl (lv_at hl 1 rfl) ?_
  refine lv_imul hx hb dX12_set_8 ?_
  refine th_topi (y := 288) (by decide) ?_
  refine lv_iload_n hx hb dX12_set_9 rfl (lv_at hl 2 rfl) ?_
  refine lv_iadd hx hb dX12_set_10 ?_
  refine th_topi (y := 294) (by decide) ?_
  refine lv_iload_n hx hb dX12_set_11 rfl (lv_at hl 3 rfl) ?_
  refine th_iast E hT hS h_1 rfl (by decide) (vp_in_iff.mpr ⟨by decide, by decide⟩) dX12_set_12 (fun H_2 locs_2 hT_2 hU_2 hS_2 => ?_)
  have hU_2 : AU 985 H H_2 (ρ a0 0) 294 1 := hU_2
  exact th_vret E hr hlk hs hT_2 hS_2 ⟨(AU.s hU_2 (by decide)), (fun j hj => by rw [hU_2.1 j hj])⟩ dX12_set_13
set_option maxHeartbeats 4000000 in
set_option maxRecDepth 100000 in
/-- StreamEndsModel.set -/
theorem c_X12_set_v37 (l : Launch) (D : va_G) (cI cS : ClassId) (τ : Nat → Option Nat) (ρ : Nat → Nat → Nat) (hW : WF τ ρ) (H : Heap) (hT : TH D cI cS τ ρ H) (a0 : Nat) (ha0 : τ a0 = some 12) : MV l D cI cS τ ρ yX12_set cX12_set 4 none 0 0 H [.ref a0, .int 1, .int 7, .int 13] (fun (u : Heap) => ai u (ρ a0 0) 295 = 13 ∧ (∀ j, j < 985 → ai u (ρ a0 0) j = if j = 295 then 13 else ai H (ρ a0 0) j)) (fun q => q = ρ a0 0) := by
  refine MV.of (by decide) (Nat.le_of_ble_eq_true rfl) ?_
  intro p e s m args below meth c E hml hr hlk hs ls hl
  have hx := E.1
  have hb := E.2.1
  have hown := E.2.2.1
  have hts := E.2.2.2.1
  have hS : SS (fun q => q = ρ a0 0) H H [] := SS.rf
  have hl : lv_has ls 4 [(0, .ref a0), (1, .int 1), (2, .int 7), (3, .int 13)] := hl
  refine lv_aload_n hx hb dX12_set_0 rfl (lv_at hl 0 rfl) ?_
  refine gf_X12_7 E hT hW ha0 dX12_set_1 (fun h_1 => ?_)
  refine lv_sipush (v := 288) hx hb dX12_set_4 (by decide) ?_
  refine lv_iload_n hx hb dX12_set_7 rfl (lv_at hl 1 rfl) ?_
  refine lv_imul hx hb dX12_set_8 ?_
  refine th_topi (y := 288) (by decide) ?_
  refine lv_iload_n hx hb dX12_set_9 rfl (lv_at hl 2 rfl) ?_
  refine lv_iadd hx hb dX12_set_10 ?_
  refine th_topi (y := 295) (by decide) ?_
  refine lv_iload_n hx hb dX12_set_11 rfl (lv_at hl 3 rfl) ?_
  refine th_iast E hT hS h_1 rfl (by decide) (vp_in_iff.mpr ⟨by decide, by decide⟩) dX12_set_12 (fun H_2 locs_2 hT_2 hU_2 hS_2 => ?_)
  have hU_2 : AU 985 H H_2 (ρ a0 0) 295 13 := hU_2
  exact th_vret E hr hlk hs hT_2 hS_2 ⟨(AU.s hU_2 (by decide)), (fun j hj => by rw [hU_2.1 j hj])⟩ dX12_set_13
set_option maxHeartbeats 4000000 in
set_option maxRecDepth 100000 in
/-- StreamEndsModel.set -/
theorem c_X12_set_v38 (l : Launch) (D : va_G) (cI cS : ClassId) (τ : Nat → Option Nat) (ρ : Nat → Nat → Nat) (hW : WF τ ρ) (H : Heap) (hT : TH D cI cS τ ρ H) (a0 : Nat) (ha0 : τ a0 = some 12) : MV l D cI cS τ ρ yX12_set cX12_set 4 none 0 0 H [.ref a0, .int 1, .int 8, .int 6] (fun (u : Heap) => ai u (ρ a0 0) 296 = 6 ∧ (∀ j, j < 985 → ai u (ρ a0 0) j = if j = 296 then 6 else ai H (ρ a0 0) j)) (fun q => q = ρ a0 0) := by
  refine MV.of (by decide) (Nat.le_of_ble_eq_true rfl) ?_
  intro p e s m args below meth c E hml hr hlk hs ls hl
  have hx := E.1
  have hb := E.2.1
  have hown := E.2.2.1
  have hts := E.2.2.2.1
  have hS : SS (fun q => q = ρ a0 0) H H [] := SS.rf
  have hl : lv_has ls 4 [(0, .ref a0), (1, .int 1), (2, .int 8), (3, .int 6)] := hl
  refine lv_aload_n hx hb dX12_set_0 rfl (lv_at hl 0 rfl) ?_
  refine gf_X12_7 E hT hW ha0 dX12_set_1 (fun h_1 => ?_)
  refine lv_sipush (v := 288) hx hb dX12_set_4 (by decide) ?_
  refine lv_iload_n hx hb dX12_set_7 rfl (lv_at hl 1 rfl) ?_
  refine lv_imul hx hb dX12_set_8 ?_
  refine th_topi (y := 288) (by decide) ?_
  refine lv_iload_n hx hb dX12_set_9 rfl (lv_at hl 2 rfl) ?_
  refine lv_iadd hx hb dX12_set_10 ?_
  refine th_topi (y := 296) (by decide) ?_
  refine lv_iload_n hx hb dX12_set_11 rfl (lv_at hl 3 rfl) ?_
  refine th_iast E hT hS h_1 rfl (by decide) (vp_in_iff.mpr ⟨by decide, by decide⟩) dX12_set_12 (fun H_2 locs_2 hT_2 hU_2 hS_2 => ?_)
  have hU_2 : AU 985 H H_2 (ρ a0 0) 296 6 := hU_2
  exact th_vret E hr hlk hs hT_2 hS_2 ⟨(AU.s hU_2 (by decide)), (fun j hj => by rw [hU_2.1 j hj])⟩ dX12_set_13
set_option maxHeartbeats 4000000 in
set_option maxRecDepth 100000 in
/-- StreamEndsModel.set -/
theorem c_X12_set_v39 (l : Launch) (D : va_G) (cI cS : ClassId) (τ : Nat → Option Nat) (ρ : Nat → Nat → Nat) (hW : WF τ ρ) (H : Heap) (hT : TH D cI cS τ ρ H) (a0 : Nat) (ha0 : τ a0 = some 12) : MV l D cI cS τ ρ yX12_set cX12_set 4 none 0 0 H [.ref a0, .int 1, .int 16, .int (-4)] (fun (u : Heap) => ai u (ρ a0 0) 304 = (-4) ∧ (∀ j, j < 985 → ai u (ρ a0 0) j = if j = 304 then (-4) else ai H (ρ a0 0) j)) (fun q => q = ρ a0 0) := by
  refine MV.of (by decide) (Nat.le_of_ble_eq_true rfl) ?_
  intro p e s m args below meth c E hml hr hlk hs ls hl
  have hx := E.1
  have hb := E.2.1
  have hown := E.2.2.1
  have hts := E.2.2.2.1
  have hS : SS (fun q => q = ρ a0 0) H H [] := SS.rf
  have hl : lv_has ls 4 [(0, .ref a0), (1, .int 1), (2, .int 16), (3, .int (-4))] := hl
  refine lv_aload_n hx hb dX12_set_0 rfl (lv_at hl 0 rfl) ?_
  refine gf_X12_7 E hT hW ha0 dX12_set_1 (fun h_1 => ?_)
  refine lv_sipush (v := 288) hx hb dX12_set_4 (by decide) ?_
  refine lv_iload_n hx hb dX12_set_7 rfl (lv_at hl 1 rfl) ?_
  refine lv_imul hx hb dX12_set_8 ?_
  refine th_topi (y := 288) (by decide) ?_
  refine lv_iload_n hx hb dX12_set_9 rfl (lv_at hl 2 rfl) ?_
  refine lv_iadd hx hb dX12_set_10 ?_
  refine th_topi (y := 304) (by decide) ?_
  refine lv_iload_n hx hb dX12_set_11 rfl (lv_at hl 3 rfl) ?_
  refine th_iast E hT hS h_1 rfl (by decide) (vp_in_iff.mpr ⟨by decide, by decide⟩) dX12_set_12 (fun H_2 locs_2 hT_2 hU_2 hS_2 => ?_)
  have hU_2 : AU 985 H H_2 (ρ a0 0) 304 (-4) := hU_2
  exact th_vret E hr hlk hs hT_2 hS_2 ⟨(AU.s hU_2 (by decide)), (fun j hj => by rw [hU_2.1 j hj])⟩ dX12_set_13
set_option maxHeartbeats 4000000 in
set_option maxRecDepth 100000 in
/-- StreamEndsModel.set -/
theorem c_X12_set_v40 (l : Launch) (D : va_G) (cI cS : ClassId) (τ : Nat → Option Nat) (ρ : Nat → Nat → Nat) (hW : WF τ ρ) (H : Heap) (hT : TH D cI cS τ ρ H) (a0 : Nat) (ha0 : τ a0 = some 12) : MV l D cI cS τ ρ yX12_set cX12_set 4 none 0 0 H [.ref a0, .int 1, .int 17, .int (-4)] (fun (u : Heap) => ai u (ρ a0 0) 305 = (-4) ∧ (∀ j, j < 985 → ai u (ρ a0 0) j = if j = 305 then (-4) else ai H (ρ a0 0) j)) (fun q => q = ρ a0 0) := by
  refine MV.of (by decide) (Nat.le_of_ble_eq_true rfl) ?_
  intro p e s m args below meth c E hml hr hlk hs ls hl
  have hx := E.1
  have hb := E.2.1
  have hown := E.2.2.1
  have hts := E.2.2.2.1
  have hS : SS (fun q => q = ρ a0 0) H H [] := SS.rf
  have hl : lv_has ls 4 [(0, .ref a0), (1, .int 1), (2, .int 17), (3, .int (-4))] := hl
  refine lv_aload_n hx hb dX12_set_0 rfl (lv_at hl 0 rfl) ?_
  refine gf_X12_7 E hT hW ha0 dX12_set_1 (fun h_1 => ?_)
  refine lv_sipush (v := 288) hx hb dX12_set_4 (by decide) ?_
  refine lv_iload_n hx hb dX12_set_7 rfl (lv_at hl 1 rfl) ?_
  refine lv_imul hx hb dX12_set_8 ?_
  refine th_topi (y := 288) (by decide) ?_
  refine lv_iload_n hx hb dX12_set_9 rfl (lv_at hl 2 rfl) ?_
  refine lv_iadd hx hb dX12_set_10 ?_
  refine th_topi (y := 305) (by decide) ?_
  refine lv_iload_n hx hb dX12_set_11 rfl (lv_at hl 3 rfl) ?_
  refine th_iast E hT hS h_1 rfl (by decide) (vp_in_iff.mpr ⟨by decide, by decide⟩) dX12_set_12 (fun H_2 locs_2 hT_2 hU_2 hS_2 => ?_)
  have hU_2 : AU 985 H H_2 (ρ a0 0) 305 (-4) := hU_2
  exact th_vret E hr hlk hs hT_2 hS_2 ⟨(AU.s hU_2 (by decide)), (fun j hj => by rw [hU_2.1 j hj])⟩ dX12_set_13
set_option maxHeartbeats 4000000 in
set_option maxRecDepth 100000 in
/-- StreamEndsModel.starts -/
theorem c_X12_starts_v6 (l : Launch) (D : va_G) (cI cS : ClassId) (τ : Nat → Option Nat) (ρ : Nat → Nat → Nat) (hW : WF τ ρ) (H : Heap) (hT : TH D cI cS τ ρ H) (a0 : Nat) (ha0 : τ a0 = some 12) (hf_1 : fi D 12 7 H a0 = 12) : MV l D cI cS τ ρ yX12_starts cX12_starts 3 none 1 23 H [.ref a0, .int 1] (fun (u : Heap) => ai u (ρ a0 0) 291 = 1 ∧ ai u (ρ a0 0) 294 = 1 ∧ ai u (ρ a0 0) 295 = 13 ∧ ai u (ρ a0 0) 296 = 6 ∧ ai u (ρ a0 0) 304 = (-4) ∧ ai u (ρ a0 0) 305 = (-4) ∧ (∀ j, j < 985 → ai u (ρ a0 0) j = if 288 ≤ j ∧ j < 576 then s0f (j - 288) else ai H (ρ a0 0) j)) (fun q => q = ρ a0 0) := by
  refine MV.of (by decide) (Nat.le_of_ble_eq_true rfl) ?_
  intro p e s m args below meth c E hml hr hlk hs ls hl
  have hx := E.1
  have hb := E.2.1
  have hown := E.2.2.1
  have hts := E.2.2.2.1
  have hS : SS (fun q => q = ρ a0 0) H H [] := SS.rf
  have hl : lv_has ls 3 [(0, .ref a0), (1, .int 1)] := hl
  refine lv_iconst (v := 0) hx hb dX12_starts_0 (by decide) ?_
  refine lv_istore_n (lv' := [(2, .int 0), (0, .ref a0), (1, .int 1)]) hx hb dX12_starts_1 rfl hl (by decide) rfl (fun ls hl => ?_)
  have loop_1 : ∀ (f_1 i_1 : Nat) (H_1 : Heap) (locs_1 : List Loc), TH D cI cS τ ρ H_1 → SS (fun q => q = ρ a0 0) H H_1 locs_1 → (∀ q : Nat, ¬ (q = ρ a0 0) → H_1[q]? = H[q]?) → (i_1 : Int) ≤ 288 → (∀ j, j < 985 → ai H_1 (ρ a0 0) j = if 288 ≤ j ∧ j < 288 + i_1 then 0 else ai H (ρ a0 0) j) → (288 - (i_1 : Int)).toNat < f_1 → ∀ ls : Array Slot, lv_has ls 3 [(2, .int (nI i_1)), (0, .ref a0), (1, .int 1)] → W p l e (rmO 1 23) s m args below meth c H_1 locs_1 0 0 (MQ below (va_Qv (fun (u : Heap) => ai u (ρ a0 0) 291 = 1 ∧ ai u (ρ a0 0) 294 = 1 ∧ ai u (ρ a0 0) 295 = 13 ∧ ai u (ρ a0 0) 296 = 6 ∧ ai u (ρ a0 0) 304 = (-4) ∧ ai u (ρ a0 0) 305 = (-4) ∧ (∀ j, j < 985 → ai u (ρ a0 0) j = if 288 ≤ j ∧ j < 576 then s0f (j - 288) else ai H (ρ a0 0) j)) (Bt D cI cS τ ρ H) (fun q => q = ρ a0 0)) args s 0 0 (fun q => q = ρ a0 0)) (F0 m 2 ls []) := by
    intro f_1
    induction f_1 with
    | zero => intro i_1 H_1 locs_1 hT_1 hS_1 hk_1 hi_1 hv_1 hm_1; exact absurd hm_1 (Nat.not_lt_zero _)
    | succ f_1 ih_1 =>
      intro i_1 H_1 locs_1 hT_1 hS_1 hk_1 hi_1 hv_1 hm_1 ls hl
      refine lv_iload_n hx hb dX12_starts_2 rfl (lv_at hl 0 rfl) ?_
      refine lv_sipush (v := 288) hx hb dX12_starts_3 (by decide) ?_
      refine lv_icmp_ge (tgt := 28) hx hb dX12_starts_6 (by decide) (fun c_2 => ?_) (fun c_2 => ?_)
      · have en_1 := nI_toInt (n := i_1) (by omega)
        have ek_1 : (288 : Int32).toInt = 288 := by decide
        have hb_1 := Int32.le_iff_toInt_le.mp c_2
        refine lv_aload_n hx hb dX12_starts_28 rfl (lv_at hl 1 rfl) ?_
        refine lv_iload_n hx hb dX12_starts_29 rfl (lv_at hl 2 rfl) ?_
        refine lv_iconst (v := 3) hx hb dX12_starts_30 (by decide) ?_
        refine lv_iconst (v := 1) hx hb dX12_starts_31 (by decide) ?_
        refine th_Vv (As := [.int 1, .int 3, .int 1]) (rest := []) E hml hl.1 (c_X12_set_v35 l D cI cS τ ρ hW H_1 hT_1 a0 ha0) lk_X12_95 yd_X12_set hT_1 ha0 rfl (by decide) hS_1 (fun q h => h) ⟨by decide, by decide⟩ (Nat.le_of_ble_eq_true rfl) ⟨by decide, by decide⟩ rfl dX12_starts_32 (fun H_3 locs_3 p_3 hT_3 hk_3 hS_3 => ?_)
        have p_3 : ai H_3 (ρ a0 0) 291 = 1 ∧ (∀ j, j < 985 → ai H_3 (ρ a0 0) j = if j = 291 then 1 else ai H_1 (ρ a0 0) j) := p_3
        obtain ⟨p_3_0, p_3_1⟩ := p_3
        refine lv_aload_n hx hb dX12_starts_35 rfl (lv_at hl 1 rfl) ?_
        refine lv_iload_n hx hb dX12_starts_36 rfl (lv_at hl 2 rfl) ?_
        refine lv_bipush (v := 6) hx hb dX12_starts_37 (by decide) ?_
        refine lv_iconst (v := 1) hx hb dX12_starts_39 (by decide) ?_
        refine th_Vv (As := [.int 1, .int 6, .int 1]) (rest := []) E hml hl.1 (c_X12_set_v36 l D cI cS τ ρ hW H_3 hT_3 a0 ha0) lk_X12_95 yd_X12_set hT_3 ha0 rfl (by decide) hS_3 (fun q h => h) ⟨by decide, by decide⟩ (Nat.le_of_ble_eq_true rfl) ⟨by decide, by decide⟩ rfl dX12_starts_40 (fun H_4 locs_4 p_4 hT_4 hk_4 hS_4 => ?_)
        have p_4 : ai H_4 (ρ a0 0) 294 = 1 ∧ (∀ j, j < 985 → ai H_4 (ρ a0 0) j = if j = 294 then 1 else ai H_3 (ρ a0 0) j) := p_4
        obtain ⟨p_4_0, p_4_1⟩ := p_4
        refine lv_aload_n hx hb dX12_starts_43 rfl (lv_at hl 1 rfl) ?_
        refine lv_iload_n hx hb dX12_starts_44 rfl (lv_at hl 2 rfl) ?_
        refine lv_bipush (v := 7) hx hb dX12_starts_45 (by decide) ?_
        refine lv_aload_n hx hb dX12_starts_47 rfl (lv_at hl 1 rfl) ?_
        refine gf_X12_29 E hT_4 ha0 dX12_starts_48 ?_
        refine th_topi (y := 12) (Eq.trans (fi_q (hk_4 _ (th_ne ha0 (hW _ 12 0 ha0 (by decide) (by decide) (by decide)) (by decide)))) (Eq.trans (fi_q (hk_3 _ (th_ne ha0 (hW _ 12 0 ha0 (by decide) (by decide) (by decide)) (by decide)))) (Eq.trans (fi_q (hk_1 _ (th_ne ha0 (hW _ 12 0 ha0 (by decide) (by decide) (by decide)) (by decide)))) hf_1))) ?_
        refine lv_iconst (v := 1) hx hb dX12_starts_51 (by decide) ?_
        refine lv_iadd hx hb dX12_starts_52 ?_
        refine th_topi (y := 13) (by decide) ?_
        refine th_Vv (As := [.int 1, .int 7, .int 13]) (rest := []) E hml hl.1 (c_X12_set_v37 l D cI cS τ ρ hW H_4 hT_4 a0 ha0) lk_X12_95 yd_X12_set hT_4 ha0 rfl (by decide) hS_4 (fun q h => h) ⟨by decide, by decide⟩ (Nat.le_of_ble_eq_true rfl) ⟨by decide, by decide⟩ rfl dX12_starts_53 (fun H_5 locs_5 p_5 hT_5 hk_5 hS_5 => ?_)
        have p_5 : ai H_5 (ρ a0 0) 295 = 13 ∧ (∀ j, j < 985 → ai H_5 (ρ a0 0) j = if j = 295 then 13 else ai H_4 (ρ a0 0) j) := p_5
        obtain ⟨p_5_0, p_5_1⟩ := p_5
        refine lv_aload_n hx hb dX12_starts_56 rfl (lv_at hl 1 rfl) ?_
        refine lv_iload_n hx hb dX12_starts_57 rfl (lv_at hl 2 rfl) ?_
        refine lv_bipush (v := 8) hx hb dX12_starts_58 (by decide) ?_
        refine lv_bipush (v := 6) hx hb dX12_starts_60 (by decide) ?_
        refine th_Vv (As := [.int 1, .int 8, .int 6]) (rest := []) E hml hl.1 (c_X12_set_v38 l D cI cS τ ρ hW H_5 hT_5 a0 ha0) lk_X12_95 yd_X12_set hT_5 ha0 rfl (by decide) hS_5 (fun q h => h) ⟨by decide, by decide⟩ (Nat.le_of_ble_eq_true rfl) ⟨by decide, by decide⟩ rfl dX12_starts_62 (fun H_6 locs_6 p_6 hT_6 hk_6 hS_6 => ?_)
        have p_6 : ai H_6 (ρ a0 0) 296 = 6 ∧ (∀ j, j < 985 → ai H_6 (ρ a0 0) j = if j = 296 then 6 else ai H_5 (ρ a0 0) j) := p_6
        obtain ⟨p_6_0, p_6_1⟩ := p_6
        refine lv_aload_n hx hb dX12_starts_65 rfl (lv_at hl 1 rfl) ?_
        refine lv_iload_n hx hb dX12_starts_66 rfl (lv_at hl 2 rfl) ?_
        refine lv_bipush (v := 16) hx hb dX12_starts_67 (by decide) ?_
        refine lv_bipush (v := (-4)) hx hb dX12_starts_69 (by decide) ?_
        refine th_Vv (As := [.int 1, .int 16, .int (-4)]) (rest := []) E hml hl.1 (c_X12_set_v39 l D cI cS τ ρ hW H_6 hT_6 a0 ha0) lk_X12_95 yd_X12_set hT_6 ha0 rfl (by decide) hS_6 (fun q h => h) ⟨by decide, by decide⟩ (Nat.le_of_ble_eq_true rfl) ⟨by decide, by decide⟩ rfl dX12_starts_71 (fun H_7 locs_7 p_7 hT_7 hk_7 hS_7 => ?_)
        have p_7 : ai H_7 (ρ a0 0) 304 = (-4) ∧ (∀ j, j < 985 → ai H_7 (ρ a0 0) j = if j = 304 then (-4) else ai H_6 (ρ a0 0) j) := p_7
        obtain ⟨p_7_0, p_7_1⟩ := p_7
        refine lv_aload_n hx hb dX12_starts_74 rfl (lv_at hl 1 rfl) ?_
        refine lv_iload_n hx hb dX12_starts_75 rfl (lv_at hl 2 rfl) ?_
        refine lv_bipush (v := 17) hx hb dX12_starts_76 (by decide) ?_
        refine lv_bipush (v := (-4)) hx hb dX12_starts_78 (by decide) ?_
        refine th_Vv (As := [.int 1, .int 17, .int (-4)]) (rest := []) E hml hl.1 (c_X12_set_v40 l D cI cS τ ρ hW H_7 hT_7 a0 ha0) lk_X12_95 yd_X12_set hT_7 ha0 rfl (by decide) hS_7 (fun q h => h) ⟨by decide, by decide⟩ (Nat.le_of_ble_eq_true rfl) ⟨by decide, by decide⟩ rfl dX12_starts_80 (fun H_8 locs_8 p_8 hT_8 hk_8 hS_8 => ?_)
        have p_8 : ai H_8 (ρ a0 0) 305 = (-4) ∧ (∀ j, j < 985 → ai H_8 (ρ a0 0) j = if j = 305 then (-4) else ai H_7 (ρ a0 0) j) := p_8
        obtain ⟨p_8_0, p_8_1⟩ := p_8
        exact th_vret E hr hlk hs hT_8 hS_8 ⟨(Eq.trans (Eq.trans (p_8_1 291 (by decide)) (if_neg (by decide))) (Eq.trans (Eq.trans (p_7_1 291 (by decide)) (if_neg (by decide))) (Eq.trans (Eq.trans (p_6_1 291 (by decide)) (if_neg (by decide))) (Eq.trans (Eq.trans (p_5_1 291 (by decide)) (if_neg (by decide))) (Eq.trans (Eq.trans (p_4_1 291 (by decide)) (if_neg (by decide))) p_3_0))))), (Eq.trans (Eq.trans (p_8_1 294 (by decide)) (if_neg (by decide))) (Eq.trans (Eq.trans (p_7_1 294 (by decide)) (if_neg (by decide))) (Eq.trans (Eq.trans (p_6_1 294 (by decide)) (if_neg (by decide))) (Eq.trans (Eq.trans (p_5_1 294 (by decide)) (if_neg (by decide))) p_4_0)))), (Eq.trans (Eq.trans (p_8_1 295 (by decide)) (if_neg (by decide))) (Eq.trans (Eq.trans (p_7_1 295 (by decide)) (if_neg (by decide))) (Eq.trans (Eq.trans (p_6_1 295 (by decide)) (if_neg (by decide))) p_5_0))), (Eq.trans (Eq.trans (p_8_1 296 (by decide)) (if_neg (by decide))) (Eq.trans (Eq.trans (p_7_1 296 (by decide)) (if_neg (by decide))) p_6_0)), (Eq.trans (Eq.trans (p_8_1 304 (by decide)) (if_neg (by decide))) p_7_0), p_8_0, (by
    intro j hj
    have e288 : i_1 = 288 := by omega
    rw [p_8_1 j hj, p_7_1 j hj, p_6_1 j hj, p_5_1 j hj, p_4_1 j hj, p_3_1 j hj, hv_1 j hj, e288]
    unfold s0f
    by_cases k17 : j = 305
    · rw [if_pos k17, if_pos (by omega)]; subst k17; decide
    rw [if_neg k17]
    by_cases k16 : j = 304
    · rw [if_pos k16, if_pos (by omega)]; subst k16; decide
    rw [if_neg k16]
    by_cases k8 : j = 296
    · rw [if_pos k8, if_pos (by omega)]; subst k8; decide
    rw [if_neg k8]
    by_cases k7 : j = 295
    · rw [if_pos k7, if_pos (by omega)]; subst k7; decide
    rw [if_neg k7]
    by_cases k6 : j = 294
    · rw [if_pos k6, if_pos (by omega)]; subst k6; decide
    rw [if_neg k6]
    by_cases k3 : j = 291
    · rw [if_pos k3, if_pos (by omega)]; subst k3; decide
    rw [if_neg k3]
    by_cases h : 288 ≤ j ∧ j < 576
    · rw [if_pos (by omega), if_pos h, if_neg (by omega), if_neg (by omega), if_neg (by omega), if_neg (by omega), if_neg (by omega), if_neg (by omega)]
    · rw [if_neg (by omega), if_neg h])⟩ dX12_starts_83
      · have en_1 := nI_toInt (n := i_1) (by omega)
        have ek_1 : (288 : Int32).toInt = 288 := by decide
        have hb_1 := Int32.not_le.mp c_2
        have hb_1 := Int32.lt_iff_toInt_lt.mp hb_1
        refine lv_aload_n hx hb dX12_starts_9 rfl (lv_at hl 1 rfl) ?_
        refine gf_X12_7 E hT_1 hW ha0 dX12_starts_10 (fun h_9 => ?_)
        refine lv_sipush (v := 288) hx hb dX12_starts_13 (by decide) ?_
        refine lv_iload_n hx hb dX12_starts_16 rfl (lv_at hl 2 rfl) ?_
        refine lv_imul hx hb dX12_starts_17 ?_
        refine th_topi (y := 288) (by decide) ?_
        refine lv_iload_n hx hb dX12_starts_18 rfl (lv_at hl 0 rfl) ?_
        refine lv_iadd hx hb dX12_starts_19 ?_
        refine th_topi (y := nI (288 + i_1)) (nI_add _ _) ?_
        refine lv_iconst (v := 0) hx hb dX12_starts_20 (by decide) ?_
        refine th_iast E hT_1 hS_1 h_9 rfl (by decide) (vp_in_nI (by omega) (by decide)) dX12_starts_21 (fun H_10 locs_10 hT_10 hU_10 hS_10 => ?_)
        rw [nI_clamp (by omega)] at hU_10
        obtain ⟨x_11, ex_11⟩ : ∃ y : Int32, nI i_1 + 1 = y := ⟨_, rfl⟩
        refine lv_iinc (v := x_11) (lv' := [(2, .int x_11), (0, .ref a0), (1, .int 1)]) hx hb dX12_starts_22 hl (k := 0) rfl (by rw [← ex_11]; rfl) (by decide) rfl (fun ls hl => ?_)
        refine lv_goto (tgt := 2) hx hb dX12_starts_25 (by decide) ?_
        have en_1 : x_11 = nI (i_1 + 1) := by rw [← ex_11]; exact nI_1 _
        subst en_1
        exact ih_1 (i_1 + 1) H_10 locs_10 hT_10 hS_10 (fun q hn => (Eq.trans (hU_10.2 q (fun e => hn e)) (hk_1 q hn))) (by omega) (by
          intro j hj
          rw [hU_10.1 j hj, hv_1 j hj]
          by_cases h1 : j = 288 + i_1
          · rw [if_pos h1, if_pos (by omega)]
          · rw [if_neg h1]
            by_cases h2 : 288 ≤ j ∧ j < 288 + i_1
            · rw [if_pos h2, if_pos (by omega)]
            · rw [if_neg h2, if_neg (by omega)]) (by omega) ls (lv_sub hl [0, 1, 2] rfl)
  exact loop_1 (((288 : Int) - 0).toNat + 1) 0 H [] hT hS (fun _ _ => rfl) (by omega) (fun j hj => by rw [if_neg (by omega)]) (by omega) ls (lv_sub hl [0, 1, 2] rfl)
set_option maxHeartbeats 4000000 in
set_option maxRecDepth 100000 in
/-- StreamEndsModel.begins -/
theorem c_X12_begins_v2 (l : Launch) (D : va_G) (cI cS : ClassId) (τ : Nat → Option Nat) (ρ : Nat → Nat → Nat) (hW : WF τ ρ) (H : Heap) (hT : TH D cI cS τ ρ H) (a0 : Nat) (ha0 : τ a0 = some 12) (hn_1 : a0 ≠ ρ a0 0) (hf_2 : fi D 12 7 H a0 = 12) : MV l D cI cS τ ρ yX12_begins cX12_begins 2 none 2 45 H [.ref a0] (fun (u : Heap) => ∀ j, j < 985 → ai u (ρ a0 0) j = w0f j) (fun q => q = ρ a0 0) := by
  refine MV.of (by decide) (Nat.le_of_ble_eq_true rfl) ?_
  intro p e s m args below meth c E hml hr hlk hs ls hl
  have hx := E.1
  have hb := E.2.1
  have hown := E.2.2.1
  have hts := E.2.2.2.1
  have hS : SS (fun q => q = ρ a0 0) H H [] := SS.rf
  have hl : lv_has ls 2 [(0, .ref a0)] := hl
  refine lv_iconst (v := 0) hx hb dX12_begins_0 (by decide) ?_
  refine lv_istore_n (lv' := [(1, .int 0), (0, .ref a0)]) hx hb dX12_begins_1 rfl hl (by decide) rfl (fun ls hl => ?_)
  have loop_1 : ∀ (f_1 i_1 : Nat) (H_1 : Heap) (locs_1 : List Loc), TH D cI cS τ ρ H_1 → SS (fun q => q = ρ a0 0) H H_1 locs_1 → (∀ q : Nat, ¬ (q = ρ a0 0) → H_1[q]? = H[q]?) → (i_1 : Int) ≤ 985 → (∀ j, j < 985 → j < i_1 → ai H_1 (ρ a0 0) j = 0) → (985 - (i_1 : Int)).toNat < f_1 → ∀ ls : Array Slot, lv_has ls 2 [(1, .int (nI i_1)), (0, .ref a0)] → W p l e (rmO 2 45) s m args below meth c H_1 locs_1 0 0 (MQ below (va_Qv (fun (u : Heap) => ∀ j, j < 985 → ai u (ρ a0 0) j = w0f j) (Bt D cI cS τ ρ H) (fun q => q = ρ a0 0)) args s 0 0 (fun q => q = ρ a0 0)) (F0 m 2 ls []) := by
    intro f_1
    induction f_1 with
    | zero => intro i_1 H_1 locs_1 hT_1 hS_1 hk_1 hi_1 hv_1 hm_1; exact absurd hm_1 (Nat.not_lt_zero _)
    | succ f_1 ih_1 =>
      intro i_1 H_1 locs_1 hT_1 hS_1 hk_1 hi_1 hv_1 hm_1 ls hl
      refine lv_iload_n hx hb dX12_begins_2 rfl (lv_at hl 0 rfl) ?_
      refine lv_sipush (v := 985) hx hb dX12_begins_3 (by decide) ?_
      refine lv_icmp_ge (tgt := 22) hx hb dX12_begins_6 (by decide) (fun c_2 => ?_) (fun c_2 => ?_)
      · have en_1 := nI_toInt (n := i_1) (by omega)
        have ek_1 : (985 : Int32).toInt = 985 := by decide
        have hb_1 := Int32.le_iff_toInt_le.mp c_2
        refine lv_aload_n hx hb dX12_begins_22 rfl (lv_at hl 1 rfl) ?_
        refine lv_iconst (v := 0) hx hb dX12_begins_23 (by decide) ?_
        refine th_Vv (As := [.int 0]) (rest := []) E hml hl.1 (c_X12_starts_v5 l D cI cS τ ρ hW H_1 hT_1 a0 ha0 (Eq.trans (fi_q (hk_1 _ hn_1)) hf_2)) lk_X12_91 yd_X12_starts hT_1 ha0 rfl (by decide) hS_1 (fun q h => h) ⟨by decide, by decide⟩ (Nat.le_of_ble_eq_true rfl) ⟨by decide, by decide⟩ rfl dX12_begins_24 (fun H_3 locs_3 p_3 hT_3 hk_3 hS_3 => ?_)
        have p_3 : ai H_3 (ρ a0 0) 3 = 1 ∧ ai H_3 (ρ a0 0) 6 = 1 ∧ ai H_3 (ρ a0 0) 7 = 13 ∧ ai H_3 (ρ a0 0) 8 = 6 ∧ ai H_3 (ρ a0 0) 16 = (-4) ∧ ai H_3 (ρ a0 0) 17 = (-4) ∧ (∀ j, j < 985 → ai H_3 (ρ a0 0) j = if 0 ≤ j ∧ j < 288 then s0f (j - 0) else ai H_1 (ρ a0 0) j) := p_3
        obtain ⟨p_3_0, p_3_1, p_3_2, p_3_3, p_3_4, p_3_5, p_3_6⟩ := p_3
        refine lv_aload_n hx hb dX12_begins_27 rfl (lv_at hl 1 rfl) ?_
        refine lv_iconst (v := 1) hx hb dX12_begins_28 (by decide) ?_
        refine th_Vv (As := [.int 1]) (rest := []) E hml hl.1 (c_X12_starts_v6 l D cI cS τ ρ hW H_3 hT_3 a0 ha0 (Eq.trans (fi_q (hk_3 _ hn_1)) (Eq.trans (fi_q (hk_1 _ hn_1)) hf_2))) lk_X12_91 yd_X12_starts hT_3 ha0 rfl (by decide) hS_3 (fun q h => h) ⟨by decide, by decide⟩ (Nat.le_of_ble_eq_true rfl) ⟨by decide, by decide⟩ rfl dX12_begins_29 (fun H_4 locs_4 p_4 hT_4 hk_4 hS_4 => ?_)
        have p_4 : ai H_4 (ρ a0 0) 291 = 1 ∧ ai H_4 (ρ a0 0) 294 = 1 ∧ ai H_4 (ρ a0 0) 295 = 13 ∧ ai H_4 (ρ a0 0) 296 = 6 ∧ ai H_4 (ρ a0 0) 304 = (-4) ∧ ai H_4 (ρ a0 0) 305 = (-4) ∧ (∀ j, j < 985 → ai H_4 (ρ a0 0) j = if 288 ≤ j ∧ j < 576 then s0f (j - 288) else ai H_3 (ρ a0 0) j) := p_4
        obtain ⟨p_4_0, p_4_1, p_4_2, p_4_3, p_4_4, p_4_5, p_4_6⟩ := p_4
        exact th_vret E hr hlk hs hT_4 hS_4 (by
    intro j hj
    unfold w0f
    by_cases h1 : j < 288
    · rw [p_4_6 j hj, if_neg (by omega), p_3_6 j hj, if_pos (by omega), if_pos h1, Nat.sub_zero]
    · by_cases h2 : j < 576
      · rw [p_4_6 j hj, if_pos (by omega), if_neg h1, if_pos h2]
      · rw [p_4_6 j hj, if_neg (by omega), p_3_6 j hj, if_neg (by omega), if_neg h1, if_neg h2]
        exact hv_1 j hj (by omega)) dX12_begins_32
      · have en_1 := nI_toInt (n := i_1) (by omega)
        have ek_1 : (985 : Int32).toInt = 985 := by decide
        have hb_1 := Int32.not_le.mp c_2
        have hb_1 := Int32.lt_iff_toInt_lt.mp hb_1
        refine lv_aload_n hx hb dX12_begins_9 rfl (lv_at hl 1 rfl) ?_
        refine gf_X12_7 E hT_1 hW ha0 dX12_begins_10 (fun h_5 => ?_)
        refine lv_iload_n hx hb dX12_begins_13 rfl (lv_at hl 0 rfl) ?_
        refine lv_iconst (v := 0) hx hb dX12_begins_14 (by decide) ?_
        refine th_iast E hT_1 hS_1 h_5 rfl (by decide) (vp_in_nI (by omega) (by decide)) dX12_begins_15 (fun H_6 locs_6 hT_6 hU_6 hS_6 => ?_)
        rw [nI_clamp (n := i_1) (by omega)] at hU_6
        obtain ⟨x_7, ex_7⟩ : ∃ y : Int32, nI i_1 + 1 = y := ⟨_, rfl⟩
        refine lv_iinc (v := x_7) (lv' := [(1, .int x_7), (0, .ref a0)]) hx hb dX12_begins_16 hl (k := 0) rfl (by rw [← ex_7]; rfl) (by decide) rfl (fun ls hl => ?_)
        refine lv_goto (tgt := 2) hx hb dX12_begins_19 (by decide) ?_
        have en_1 : x_7 = nI (i_1 + 1) := by rw [← ex_7]; exact nI_1 _
        subst en_1
        exact ih_1 (i_1 + 1) H_6 locs_6 hT_6 hS_6 (fun q hn => (Eq.trans (hU_6.2 q (fun e => hn e)) (hk_1 q hn))) (by omega) (by
          intro j hj hji
          rw [hU_6.1 j hj]
          by_cases h1 : j = i_1
          · rw [if_pos h1]
          · rw [if_neg h1]; exact hv_1 j hj (by omega)) (by omega) ls (lv_sub hl [0, 1] rfl)
  exact loop_1 (((985 : Int) - 0).toNat + 1) 0 H [] hT hS (fun _ _ => rfl) (by omega) (fun j hj h => absurd h (Nat.not_lt_zero _)) (by omega) ls (lv_sub hl [0, 1] rfl)
