/-! THE LAW: its cases; where the chains of references lead -/
theorem qn_178_0 {B : Nat} : rq B (B + 178) 0 = B + 179 := rq_at
theorem qn_178_9 {B : Nat} : rq B (B + 178) 9 = B + 184 := rq_at
theorem qn_1_0 {B : Nat} : rq B (B + 1) 0 = B + 2 := rq_at
theorem qn_178_4 {B : Nat} : rq B (B + 178) 4 = B + 183 := rq_at
theorem qn_0_1 {B : Nat} : rq B (B + 0) 1 = B + 3 := rq_at
theorem qn_178_15 {B : Nat} : rq B (B + 178) 15 = B + 185 := rq_at
theorem qn_75_2 {B : Nat} : rq B (B + 75) 2 = B + 6 := rq_at
theorem qn_6_0 {B : Nat} : rq B (B + 6) 0 = B + 7 := rq_at
theorem qn_178_2 {B : Nat} : rq B (B + 178) 2 = B + 181 := rq_at
theorem qn_82_2 {B : Nat} : rq B (B + 82) 2 = B + 6 := rq_at
theorem qn_91_0 {B : Nat} : rq B (B + 91) 0 = B + 92 := rq_at
theorem qn_0_3 {B : Nat} : rq B (B + 0) 3 = B + 91 := rq_at
theorem qn_91_1 {B : Nat} : rq B (B + 91) 1 = B + 93 := rq_at
theorem qn_91_2 {B : Nat} : rq B (B + 91) 2 = B + 161 := rq_at
theorem qn_91_3 {B : Nat} : rq B (B + 91) 3 = B + 162 := rq_at
theorem qn_162_4 {B : Nat} : rq B (B + 162) 4 = B + 163 := rq_at
theorem qn_163_7 {B : Nat} : rq B (B + 163) 7 = B + 164 := rq_at
theorem qn_162_5 {B : Nat} : rq B (B + 162) 5 = B + 165 := rq_at
theorem qn_165_6 {B : Nat} : rq B (B + 165) 6 = B + 166 := rq_at
theorem qn_162_6 {B : Nat} : rq B (B + 162) 6 = B + 167 := rq_at
theorem qn_167_6 {B : Nat} : rq B (B + 167) 6 = B + 168 := rq_at
theorem qn_91_4 {B : Nat} : rq B (B + 91) 4 = B + 169 := rq_at
theorem qn_169_4 {B : Nat} : rq B (B + 169) 4 = B + 170 := rq_at
theorem qn_170_7 {B : Nat} : rq B (B + 170) 7 = B + 171 := rq_at
theorem qn_169_5 {B : Nat} : rq B (B + 169) 5 = B + 172 := rq_at
theorem qn_172_6 {B : Nat} : rq B (B + 172) 6 = B + 173 := rq_at
theorem qn_169_6 {B : Nat} : rq B (B + 169) 6 = B + 174 := rq_at
theorem qn_174_6 {B : Nat} : rq B (B + 174) 6 = B + 175 := rq_at
theorem qn_178_1 {B : Nat} : rq B (B + 178) 1 = B + 180 := rq_at
theorem qx_16 {B : Nat} : rq B (rq B (B + 0) 2) 2 = B + 74 := (congrArg (fun q => rq B q 2) qx_2).trans rq_at
theorem qx_17 {B : Nat} : rq B (rq B (B + 0) 2) 1 = B + 6 := (congrArg (fun q => rq B q 1) qx_2).trans rq_at
theorem qx_18 {B : Nat} : rq B (B + 178) 15 = B + 185 := rq_at
theorem qx_19 {B : Nat} : rq B (rq B (rq B (B + 0) 2) 3) 2 = B + 6 := (congrArg (fun q => rq B q 2) qx_4).trans rq_at
theorem qx_20 {B : Nat} : rq B (rq B (rq B (B + 0) 2) 3) 3 = B + 74 := (congrArg (fun q => rq B q 3) qx_4).trans rq_at
theorem qx_21 {B : Nat} : rq B (rq B (rq B (rq B (B + 0) 2) 3) 2) 0 = B + 7 := (congrArg (fun q => rq B q 0) qx_19).trans rq_at
theorem qx_22 {B : Nat} : rq B (B + 178) 2 = B + 181 := rq_at
theorem qx_23 {B : Nat} : rq B (rq B (rq B (B + 0) 2) 4) 2 = B + 6 := (congrArg (fun q => rq B q 2) qx_6).trans rq_at
theorem qx_24 {B : Nat} : rq B (rq B (rq B (B + 0) 2) 4) 3 = B + 74 := (congrArg (fun q => rq B q 3) qx_6).trans rq_at
theorem qx_25 {B : Nat} : rq B (rq B (rq B (rq B (B + 0) 2) 4) 2) 0 = B + 7 := (congrArg (fun q => rq B q 0) qx_23).trans rq_at
theorem qx_26 {B : Nat} : rq B (B + 0) 3 = B + 91 := rq_at
theorem qx_27 {B : Nat} : rq B (rq B (B + 0) 3) 0 = B + 92 := (congrArg (fun q => rq B q 0) qx_26).trans rq_at
theorem qx_28 {B : Nat} : rq B (rq B (B + 0) 3) 1 = B + 93 := (congrArg (fun q => rq B q 1) qx_26).trans rq_at
theorem qx_29 {B : Nat} : rq B (rq B (B + 0) 3) 3 = B + 162 := (congrArg (fun q => rq B q 3) qx_26).trans rq_at
theorem qx_30 {B : Nat} : rq B (rq B (B + 0) 3) 2 = B + 161 := (congrArg (fun q => rq B q 2) qx_26).trans rq_at
theorem qx_31 {B : Nat} : rq B (rq B (rq B (B + 0) 3) 3) 4 = B + 163 := (congrArg (fun q => rq B q 4) qx_29).trans rq_at
theorem qx_32 {B : Nat} : rq B (rq B (rq B (B + 0) 3) 3) 5 = B + 165 := (congrArg (fun q => rq B q 5) qx_29).trans rq_at
theorem qx_33 {B : Nat} : rq B (rq B (rq B (B + 0) 3) 3) 6 = B + 167 := (congrArg (fun q => rq B q 6) qx_29).trans rq_at
theorem qx_34 {B : Nat} : rq B (rq B (rq B (rq B (B + 0) 3) 3) 4) 7 = B + 164 := (congrArg (fun q => rq B q 7) qx_31).trans rq_at
theorem qx_35 {B : Nat} : rq B (rq B (rq B (rq B (B + 0) 3) 3) 5) 6 = B + 166 := (congrArg (fun q => rq B q 6) qx_32).trans rq_at
theorem qx_36 {B : Nat} : rq B (rq B (B + 0) 3) 4 = B + 169 := (congrArg (fun q => rq B q 4) qx_26).trans rq_at
theorem qx_37 {B : Nat} : rq B (rq B (rq B (rq B (B + 0) 3) 3) 6) 6 = B + 168 := (congrArg (fun q => rq B q 6) qx_33).trans rq_at
theorem qx_38 {B : Nat} : rq B (rq B (rq B (B + 0) 3) 4) 4 = B + 170 := (congrArg (fun q => rq B q 4) qx_36).trans rq_at
theorem qx_39 {B : Nat} : rq B (rq B (rq B (B + 0) 3) 4) 5 = B + 172 := (congrArg (fun q => rq B q 5) qx_36).trans rq_at
theorem qx_40 {B : Nat} : rq B (rq B (rq B (B + 0) 3) 4) 6 = B + 174 := (congrArg (fun q => rq B q 6) qx_36).trans rq_at
theorem qx_41 {B : Nat} : rq B (rq B (rq B (rq B (B + 0) 3) 4) 4) 7 = B + 171 := (congrArg (fun q => rq B q 7) qx_38).trans rq_at
theorem qx_42 {B : Nat} : rq B (rq B (rq B (rq B (B + 0) 3) 4) 5) 6 = B + 173 := (congrArg (fun q => rq B q 6) qx_39).trans rq_at
theorem qx_43 {B : Nat} : rq B (rq B (rq B (rq B (B + 0) 3) 4) 6) 6 = B + 175 := (congrArg (fun q => rq B q 6) qx_40).trans rq_at
theorem qx_44 {B : Nat} : rq B (B + 178) 1 = B + 180 := rq_at
/-! THE LAW: its cases -/
def FX (D : va_G) (B : Nat) (u : Heap) : Prop := fi D 9 1 u (rq B (B + 0) 0) = 0 ∧ fi D 1 4 u (rq B (rq B (B + 0) 2) 0) = 5 ∧ fi D 1 3 u (rq B (rq B (B + 0) 2) 0) = 100 ∧ fi D 1 2 u (rq B (rq B (B + 0) 2) 0) = 250 ∧ fi D 1 1 u (rq B (rq B (B + 0) 2) 0) = 12 ∧ fi D 1 0 u (rq B (rq B (B + 0) 2) 0) = 4 ∧ fi D 10 5 u (rq B (rq B (B + 0) 2) 1) = 0 ∧ fi D 10 4 u (rq B (rq B (B + 0) 2) 1) = 0 ∧ fi D 10 3 u (rq B (rq B (B + 0) 2) 1) = 0 ∧ fi D 10 2 u (rq B (rq B (B + 0) 2) 1) = 0 ∧ fi D 0 0 u (rq B (rq B (B + 0) 2) 2) = 0 ∧ fi D 7 0 u (rq B (rq B (rq B (B + 0) 2) 3) 6) = 6 ∧ fi D 7 1 u (rq B (rq B (rq B (B + 0) 2) 3) 6) = 0 ∧ fi D 7 2 u (rq B (rq B (rq B (B + 0) 2) 3) 6) = 0 ∧ fi D 7 3 u (rq B (rq B (rq B (B + 0) 2) 3) 6) = (-4) ∧ fi D 7 4 u (rq B (rq B (rq B (B + 0) 2) 3) 6) = 0 ∧ fi D 7 5 u (rq B (rq B (rq B (B + 0) 2) 3) 6) = 0 ∧ fi D 3 0 u (rq B (rq B (rq B (B + 0) 2) 3) 5) = 0 ∧ fi D 3 1 u (rq B (rq B (rq B (B + 0) 2) 3) 5) = 1 ∧ fi D 3 2 u (rq B (rq B (rq B (B + 0) 2) 3) 5) = 13 ∧ fi D 3 3 u (rq B (rq B (rq B (B + 0) 2) 3) 5) = (-4) ∧ fi D 3 4 u (rq B (rq B (rq B (B + 0) 2) 3) 5) = 0 ∧ fl D 3 5 u (rq B (rq B (rq B (B + 0) 2) 3) 5) = 0 ∧ fi D 5 0 u (rq B (rq B (rq B (B + 0) 2) 3) 4) = 0 ∧ fi D 5 1 u (rq B (rq B (rq B (B + 0) 2) 3) 4) = 0 ∧ fi D 5 2 u (rq B (rq B (rq B (B + 0) 2) 3) 4) = 1 ∧ fi D 5 3 u (rq B (rq B (rq B (B + 0) 2) 3) 4) = 0 ∧ fi D 5 4 u (rq B (rq B (rq B (B + 0) 2) 3) 4) = 0 ∧ fi D 5 5 u (rq B (rq B (rq B (B + 0) 2) 3) 4) = 0 ∧ fl D 5 6 u (rq B (rq B (rq B (B + 0) 2) 3) 4) = 0 ∧ fi D 2 7 u (rq B (rq B (B + 0) 2) 3) = 0 ∧ fi D 2 8 u (rq B (rq B (B + 0) 2) 3) = 0 ∧ fi D 2 9 u (rq B (rq B (B + 0) 2) 3) = 0 ∧ fi D 7 0 u (rq B (rq B (rq B (B + 0) 2) 4) 6) = 6 ∧ fi D 7 1 u (rq B (rq B (rq B (B + 0) 2) 4) 6) = 0 ∧ fi D 7 2 u (rq B (rq B (rq B (B + 0) 2) 4) 6) = 0 ∧ fi D 7 3 u (rq B (rq B (rq B (B + 0) 2) 4) 6) = (-4) ∧ fi D 7 4 u (rq B (rq B (rq B (B + 0) 2) 4) 6) = 0 ∧ fi D 7 5 u (rq B (rq B (rq B (B + 0) 2) 4) 6) = 0 ∧ fi D 3 0 u (rq B (rq B (rq B (B + 0) 2) 4) 5) = 0 ∧ fi D 3 1 u (rq B (rq B (rq B (B + 0) 2) 4) 5) = 1 ∧ fi D 3 2 u (rq B (rq B (rq B (B + 0) 2) 4) 5) = 13 ∧ fi D 3 3 u (rq B (rq B (rq B (B + 0) 2) 4) 5) = (-4) ∧ fi D 3 4 u (rq B (rq B (rq B (B + 0) 2) 4) 5) = 0 ∧ fl D 3 5 u (rq B (rq B (rq B (B + 0) 2) 4) 5) = 0 ∧ fi D 5 0 u (rq B (rq B (rq B (B + 0) 2) 4) 4) = 0 ∧ fi D 5 1 u (rq B (rq B (rq B (B + 0) 2) 4) 4) = 0 ∧ fi D 5 2 u (rq B (rq B (rq B (B + 0) 2) 4) 4) = 1 ∧ fi D 5 3 u (rq B (rq B (rq B (B + 0) 2) 4) 4) = 0 ∧ fi D 5 4 u (rq B (rq B (rq B (B + 0) 2) 4) 4) = 0 ∧ fi D 5 5 u (rq B (rq B (rq B (B + 0) 2) 4) 4) = 0 ∧ fl D 5 6 u (rq B (rq B (rq B (B + 0) 2) 4) 4) = 0 ∧ fi D 2 7 u (rq B (rq B (B + 0) 2) 4) = 0 ∧ fi D 2 8 u (rq B (rq B (B + 0) 2) 4) = 0 ∧ fi D 2 9 u (rq B (rq B (B + 0) 2) 4) = 0 ∧ fi D 4 7 u (rq B (B + 0) 2) = (-4) ∧ fi D 4 8 u (rq B (B + 0) 2) = (-4) ∧ fi D 4 9 u (rq B (B + 0) 2) = 0
def FM (D : va_G) (B : Nat) (u : Heap) : Prop := fi D 12 5 u (B + 178) = 0 ∧ fi D 12 6 u (B + 178) = 4 ∧ fi D 12 7 u (B + 178) = 12 ∧ fi D 12 8 u (B + 178) = 5 ∧ (∀ j, j < 985 → ai u (rq B (B + 178) 0) j = w0f j) ∧ ai u (rq B (B + 178) 9) 0 = 250 ∧ ai u (rq B (B + 178) 9) 1 = 100
theorem ttX (B : Nat) : tq B 0 178 (B + 0) = some 11 := (tq_at (by decide) (by decide)).trans (by decide +kernel)
theorem ttM (B : Nat) : tq B 178 186 (B + 178) = some 12 := (tq_at (by decide) (by decide)).trans (by decide +kernel)
theorem TH.same {D : va_G} {cI cS : ClassId} {τ : Nat → Option Nat} {ρ : Nat → Nat → Nat} {H H1 : Heap} (h : TH D cI cS τ ρ H) (e : ∀ q t, τ q = some t → H1[q]? = H[q]?) : TH D cI cS τ ρ H1 := fun a t ha => sh_q (h a t ha) (e a t ha)
theorem FX.kept {D : va_G} {B : Nat} {H H1 : Heap} (h : FX D B H) (oq : ∀ q, q < B + 178 → H1[q]? = H[q]?) : FX D B H1 := ⟨(fi_q (oq _ (by simp only [qn_0_0]; omega))).trans h.1, (fi_q (oq _ (by simp only [qn_0_2, qn_4_0]; omega))).trans h.2.1, (fi_q (oq _ (by simp only [qn_0_2, qn_4_0]; omega))).trans h.2.2.1, (fi_q (oq _ (by simp only [qn_0_2, qn_4_0]; omega))).trans h.2.2.2.1, (fi_q (oq _ (by simp only [qn_0_2, qn_4_0]; omega))).trans h.2.2.2.2.1, (fi_q (oq _ (by simp only [qn_0_2, qn_4_0]; omega))).trans h.2.2.2.2.2.1, (fi_q (oq _ (by simp only [qn_0_2, qn_4_1]; omega))).trans h.2.2.2.2.2.2.1, (fi_q (oq _ (by simp only [qn_0_2, qn_4_1]; omega))).trans h.2.2.2.2.2.2.2.1, (fi_q (oq _ (by simp only [qn_0_2, qn_4_1]; omega))).trans h.2.2.2.2.2.2.2.2.1, (fi_q (oq _ (by simp only [qn_0_2, qn_4_1]; omega))).trans h.2.2.2.2.2.2.2.2.2.1, (fi_q (oq _ (by simp only [qn_0_2, qn_4_2]; omega))).trans h.2.2.2.2.2.2.2.2.2.2.1, (fi_q (oq _ (by simp only [qn_0_2, qn_4_3, qn_75_6]; omega))).trans h.2.2.2.2.2.2.2.2.2.2.2.1, (fi_q (oq _ (by simp only [qn_0_2, qn_4_3, qn_75_6]; omega))).trans h.2.2.2.2.2.2.2.2.2.2.2.2.1, (fi_q (oq _ (by simp only [qn_0_2, qn_4_3, qn_75_6]; omega))).trans h.2.2.2.2.2.2.2.2.2.2.2.2.2.1, (fi_q (oq _ (by simp only [qn_0_2, qn_4_3, qn_75_6]; omega))).trans h.2.2.2.2.2.2.2.2.2.2.2.2.2.2.1, (fi_q (oq _ (by simp only [qn_0_2, qn_4_3, qn_75_6]; omega))).trans h.2.2.2.2.2.2.2.2.2.2.2.2.2.2.2.1, (fi_q (oq _ (by simp only [qn_0_2, qn_4_3, qn_75_6]; omega))).trans h.2.2.2.2.2.2.2.2.2.2.2.2.2.2.2.2.1, (fi_q (oq _ (by simp only [qn_0_2, qn_4_3, qn_75_5]; omega))).trans h.2.2.2.2.2.2.2.2.2.2.2.2.2.2.2.2.2.1, (fi_q (oq _ (by simp only [qn_0_2, qn_4_3, qn_75_5]; omega))).trans h.2.2.2.2.2.2.2.2.2.2.2.2.2.2.2.2.2.2.1, (fi_q (oq _ (by simp only [qn_0_2, qn_4_3, qn_75_5]; omega))).trans h.2.2.2.2.2.2.2.2.2.2.2.2.2.2.2.2.2.2.2.1, (fi_q (oq _ (by simp only [qn_0_2, qn_4_3, qn_75_5]; omega))).trans h.2.2.2.2.2.2.2.2.2.2.2.2.2.2.2.2.2.2.2.2.1, (fi_q (oq _ (by simp only [qn_0_2, qn_4_3, qn_75_5]; omega))).trans h.2.2.2.2.2.2.2.2.2.2.2.2.2.2.2.2.2.2.2.2.2.1, (fl_q (oq _ (by simp only [qn_0_2, qn_4_3, qn_75_5]; omega))).trans h.2.2.2.2.2.2.2.2.2.2.2.2.2.2.2.2.2.2.2.2.2.2.1, (fi_q (oq _ (by simp only [qn_0_2, qn_4_3, qn_75_4]; omega))).trans h.2.2.2.2.2.2.2.2.2.2.2.2.2.2.2.2.2.2.2.2.2.2.2.1, (fi_q (oq _ (by simp only [qn_0_2, qn_4_3, qn_75_4]; omega))).trans h.2.2.2.2.2.2.2.2.2.2.2.2.2.2.2.2.2.2.2.2.2.2.2.2.1, (fi_q (oq _ (by simp only [qn_0_2, qn_4_3, qn_75_4]; omega))).trans h.2.2.2.2.2.2.2.2.2.2.2.2.2.2.2.2.2.2.2.2.2.2.2.2.2.1, (fi_q (oq _ (by simp only [qn_0_2, qn_4_3, qn_75_4]; omega))).trans h.2.2.2.2.2.2.2.2.2.2.2.2.2.2.2.2.2.2.2.2.2.2.2.2.2.2.1, (fi_q (oq _ (by simp only [qn_0_2, qn_4_3, qn_75_4]; omega))).trans h.2.2.2.2.2.2.2.2.2.2.2.2.2.2.2.2.2.2.2.2.2.2.2.2.2.2.2.1, (fi_q (oq _ (by simp only [qn_0_2, qn_4_3, qn_75_4]; omega))).trans h.2.2.2.2.2.2.2.2.2.2.2.2.2.2.2.2.2.2.2.2.2.2.2.2.2.2.2.2.1, (fl_q (oq _ (by simp only [qn_0_2, qn_4_3, qn_75_4]; omega))).trans h.2.2.2.2.2.2.2.2.2.2.2.2.2.2.2.2.2.2.2.2.2.2.2.2.2.2.2.2.2.1, (fi_q (oq _ (by simp only [qn_0_2, qn_4_3]; omega))).trans h.2.2.2.2.2.2.2.2.2.2.2.2.2.2.2.2.2.2.2.2.2.2.2.2.2.2.2.2.2.2.1, (fi_q (oq _ (by simp only [qn_0_2, qn_4_3]; omega))).trans h.2.2.2.2.2.2.2.2.2.2.2.2.2.2.2.2.2.2.2.2.2.2.2.2.2.2.2.2.2.2.2.1, (fi_q (oq _ (by simp only [qn_0_2, qn_4_3]; omega))).trans h.2.2.2.2.2.2.2.2.2.2.2.2.2.2.2.2.2.2.2.2.2.2.2.2.2.2.2.2.2.2.2.2.1, (fi_q (oq _ (by simp only [qn_0_2, qn_4_4, qn_82_6]; omega))).trans h.2.2.2.2.2.2.2.2.2.2.2.2.2.2.2.2.2.2.2.2.2.2.2.2.2.2.2.2.2.2.2.2.2.1, (fi_q (oq _ (by simp only [qn_0_2, qn_4_4, qn_82_6]; omega))).trans h.2.2.2.2.2.2.2.2.2.2.2.2.2.2.2.2.2.2.2.2.2.2.2.2.2.2.2.2.2.2.2.2.2.2.1, (fi_q (oq _ (by simp only [qn_0_2, qn_4_4, qn_82_6]; omega))).trans h.2.2.2.2.2.2.2.2.2.2.2.2.2.2.2.2.2.2.2.2.2.2.2.2.2.2.2.2.2.2.2.2.2.2.2.1, (fi_q (oq _ (by simp only [qn_0_2, qn_4_4, qn_82_6]; omega))).trans h.2.2.2.2.2.2.2.2.2.2.2.2.2.2.2.2.2.2.2.2.2.2.2.2.2.2.2.2.2.2.2.2.2.2.2.2.1, (fi_q (oq _ (by simp only [qn_0_2, qn_4_4, qn_82_6]; omega))).trans h.2.2.2.2.2.2.2.2.2.2.2.2.2.2.2.2.2.2.2.2.2.2.2.2.2.2.2.2.2.2.2.2.2.2.2.2.2.1, (fi_q (oq _ (by simp only [qn_0_2, qn_4_4, qn_82_6]; omega))).trans h.2.2.2.2.2.2.2.2.2.2.2.2.2.2.2.2.2.2.2.2.2.2.2.2.2.2.2.2.2.2.2.2.2.2.2.2.2.2.1, (fi_q (oq _ (by simp only [qn_0_2, qn_4_4, qn_82_5]; omega))).trans h.2.2.2.2.2.2.2.2.2.2.2.2.2.2.2.2.2.2.2.2.2.2.2.2.2.2.2.2.2.2.2.2.2.2.2.2.2.2.2.1, (fi_q (oq _ (by simp only [qn_0_2, qn_4_4, qn_82_5]; omega))).trans h.2.2.2.2.2.2.2.2.2.2.2.2.2.2.2.2.2.2.2.2.2.2.2.2.2.2.2.2.2.2.2.2.2.2.2.2.2.2.2.2.1, (fi_q (oq _ (by simp only [qn_0_2, qn_4_4, qn_82_5]; omega))).trans h.2.2.2.2.2.2.2.2.2.2.2.2.2.2.2.2.2.2.2.2.2.2.2.2.2.2.2.2.2.2.2.2.2.2.2.2.2.2.2.2.2.1, (fi_q (oq _ (by simp only [qn_0_2, qn_4_4, qn_82_5]; omega))).trans h.2.2.2.2.2.2.2.2.2.2.2.2.2.2.2.2.2.2.2.2.2.2.2.2.2.2.2.2.2.2.2.2.2.2.2.2.2.2.2.2.2.2.1, (fi_q (oq _ (by simp only [qn_0_2, qn_4_4, qn_82_5]; omega))).trans h.2.2.2.2.2.2.2.2.2.2.2.2.2.2.2.2.2.2.2.2.2.2.2.2.2.2.2.2.2.2.2.2.2.2.2.2.2.2.2.2.2.2.2.1, (fl_q (oq _ (by simp only [qn_0_2, qn_4_4, qn_82_5]; omega))).trans h.2.2.2.2.2.2.2.2.2.2.2.2.2.2.2.2.2.2.2.2.2.2.2.2.2.2.2.2.2.2.2.2.2.2.2.2.2.2.2.2.2.2.2.2.1, (fi_q (oq _ (by simp only [qn_0_2, qn_4_4, qn_82_4]; omega))).trans h.2.2.2.2.2.2.2.2.2.2.2.2.2.2.2.2.2.2.2.2.2.2.2.2.2.2.2.2.2.2.2.2.2.2.2.2.2.2.2.2.2.2.2.2.2.1, (fi_q (oq _ (by simp only [qn_0_2, qn_4_4, qn_82_4]; omega))).trans h.2.2.2.2.2.2.2.2.2.2.2.2.2.2.2.2.2.2.2.2.2.2.2.2.2.2.2.2.2.2.2.2.2.2.2.2.2.2.2.2.2.2.2.2.2.2.1, (fi_q (oq _ (by simp only [qn_0_2, qn_4_4, qn_82_4]; omega))).trans h.2.2.2.2.2.2.2.2.2.2.2.2.2.2.2.2.2.2.2.2.2.2.2.2.2.2.2.2.2.2.2.2.2.2.2.2.2.2.2.2.2.2.2.2.2.2.2.1, (fi_q (oq _ (by simp only [qn_0_2, qn_4_4, qn_82_4]; omega))).trans h.2.2.2.2.2.2.2.2.2.2.2.2.2.2.2.2.2.2.2.2.2.2.2.2.2.2.2.2.2.2.2.2.2.2.2.2.2.2.2.2.2.2.2.2.2.2.2.2.1, (fi_q (oq _ (by simp only [qn_0_2, qn_4_4, qn_82_4]; omega))).trans h.2.2.2.2.2.2.2.2.2.2.2.2.2.2.2.2.2.2.2.2.2.2.2.2.2.2.2.2.2.2.2.2.2.2.2.2.2.2.2.2.2.2.2.2.2.2.2.2.2.1, (fi_q (oq _ (by simp only [qn_0_2, qn_4_4, qn_82_4]; omega))).trans h.2.2.2.2.2.2.2.2.2.2.2.2.2.2.2.2.2.2.2.2.2.2.2.2.2.2.2.2.2.2.2.2.2.2.2.2.2.2.2.2.2.2.2.2.2.2.2.2.2.2.1, (fl_q (oq _ (by simp only [qn_0_2, qn_4_4, qn_82_4]; omega))).trans h.2.2.2.2.2.2.2.2.2.2.2.2.2.2.2.2.2.2.2.2.2.2.2.2.2.2.2.2.2.2.2.2.2.2.2.2.2.2.2.2.2.2.2.2.2.2.2.2.2.2.2.1, (fi_q (oq _ (by simp only [qn_0_2, qn_4_4]; omega))).trans h.2.2.2.2.2.2.2.2.2.2.2.2.2.2.2.2.2.2.2.2.2.2.2.2.2.2.2.2.2.2.2.2.2.2.2.2.2.2.2.2.2.2.2.2.2.2.2.2.2.2.2.2.1, (fi_q (oq _ (by simp only [qn_0_2, qn_4_4]; omega))).trans h.2.2.2.2.2.2.2.2.2.2.2.2.2.2.2.2.2.2.2.2.2.2.2.2.2.2.2.2.2.2.2.2.2.2.2.2.2.2.2.2.2.2.2.2.2.2.2.2.2.2.2.2.2.1, (fi_q (oq _ (by simp only [qn_0_2, qn_4_4]; omega))).trans h.2.2.2.2.2.2.2.2.2.2.2.2.2.2.2.2.2.2.2.2.2.2.2.2.2.2.2.2.2.2.2.2.2.2.2.2.2.2.2.2.2.2.2.2.2.2.2.2.2.2.2.2.2.2.1, (fi_q (oq _ (by simp only [qn_0_2]; omega))).trans h.2.2.2.2.2.2.2.2.2.2.2.2.2.2.2.2.2.2.2.2.2.2.2.2.2.2.2.2.2.2.2.2.2.2.2.2.2.2.2.2.2.2.2.2.2.2.2.2.2.2.2.2.2.2.2.1, (fi_q (oq _ (by simp only [qn_0_2]; omega))).trans h.2.2.2.2.2.2.2.2.2.2.2.2.2.2.2.2.2.2.2.2.2.2.2.2.2.2.2.2.2.2.2.2.2.2.2.2.2.2.2.2.2.2.2.2.2.2.2.2.2.2.2.2.2.2.2.2.1, (fi_q (oq _ (by simp only [qn_0_2]; omega))).trans h.2.2.2.2.2.2.2.2.2.2.2.2.2.2.2.2.2.2.2.2.2.2.2.2.2.2.2.2.2.2.2.2.2.2.2.2.2.2.2.2.2.2.2.2.2.2.2.2.2.2.2.2.2.2.2.2.2⟩
theorem FM.kept {D : va_G} {B : Nat} {H H1 : Heap} (h : FM D B H) (oq : ∀ q, B + 178 ≤ q → H1[q]? = H[q]?) : FM D B H1 := ⟨(fi_q (oq _ (by omega))).trans h.1, (fi_q (oq _ (by omega))).trans h.2.1, (fi_q (oq _ (by omega))).trans h.2.2.1, (fi_q (oq _ (by omega))).trans h.2.2.2.1, fun j hj => (ai_q (oq _ (by simp only [qn_178_0]; omega))).trans (h.2.2.2.2.1 j hj), (ai_q (oq _ (by simp only [qn_178_9]; omega))).trans h.2.2.2.2.2.1, (ai_q (oq _ (by simp only [qn_178_9]; omega))).trans h.2.2.2.2.2.2⟩
/-- the law goes on behind a case -/
abbrev KL (p : Program) (l : Launch) (e : Env) (s : State) (m : MethodId) (args : Array Value) (below : List Frame) (meth : Method) (c : Code) (ls : Array Slot) (Q : State → Prop) (B b : Nat) (xs : Nat → Int32) : Prop := ∀ (H1 : Heap) (locs1 : List Loc), (∀ x ∈ locs1, B ≤ x.base) → va_X b 4 xs s H1 → W p l e room_1 s m args below meth c H1 locs1 600000 7302250 Q (F0 m 766 ls [])
abbrev WL (p : Program) (l : Launch) (e : Env) (s : State) (m : MethodId) (args : Array Value) (below : List Frame) (meth : Method) (c : Code) (H : Heap) (locs : List Loc) (ls : Array Slot) (Q : State → Prop) (pc : Nat) : Prop := W p l e room_1 s m args below meth c H locs 600000 7302250 Q (F0 m pc ls [])
theorem i_eq {x c : Int32} {k : Int} (h : x.toInt = k) (hc : c.toInt = k) : x = c := Int32.toInt_inj.mp (h.trans hc.symm)
section LWR
variable {p : Program} {l : Launch} {e : Env} {R : Room} {s : State} {m : MethodId} {args : Array Value} {below : List Frame} {meth : Method} {c : Code} {H : Heap} {locs : List Loc} {cells slots : Nat} {Q : State → Prop}
variable {cc : ByteArray} {pc : Nat} {ls : Array Slot} {rest : List Value} {D : va_G} {cI cS : ClassId} {own : String} {H0 : Heap} {B b i : Nat} {xs : Nat → Int32}
theorem lw_sld {j : Nat} {x : Int32} (hx : p.tables.exec = Jvm.exec) (hb : c.code = cc) (hX : va_X b 4 xs s H) (h1 : ¬ x < 0) (h2 : x.toNatClampNeg = j) (h3 : j < 4) (hdg : decode cc pc = .ok (.iaload, 1))
    (kk : W p l e R s m args below meth c H locs cells slots Q (F0 m (pc + 1) ls (.int (xs j) :: rest))) : W p l e R s m args below meth c H locs cells slots Q (F0 m pc ls (.int x :: .ref b :: rest)) := by
  subst h2
  obtain ⟨scr, g1, g2, g3, g4, g5⟩ := hX
  exact W.iald (v := .int (xs x.toNatClampNeg)) hx hb g1 g2 g3 (by rw [g4]; exact fun q => q.elim h1 (fun q => by omega)) (g5 _ h3) rfl rfl hdg kk
theorem lw_slen {L : Nat} (hx : p.tables.exec = Jvm.exec) (hb : c.code = cc) (hX : va_X b L xs s H) (hdg : decode cc pc = .ok (.arraylength, 1))
    (kk : W p l e R s m args below meth c H locs cells slots Q (F0 m (pc + 1) ls (.int (Int32.ofNat L) :: rest))) : W p l e R s m args below meth c H locs cells slots Q (F0 m pc ls (.ref b :: rest)) := by
  obtain ⟨scr, g1, g2, g3, g4, g5⟩ := hX
  exact W.alen (n := Int32.ofNat L) hx hb g1 g2 (by rw [g4] <;> rfl) rfl rfl hdg kk
theorem lw_new {u index N n : Nat} {T : u_T} {C : String} (ty : Nat → FieldType) (E : EE p s m args c cc own D cI cS) (hz : H.size = n) (hin : ∀ w ∈ u_ws C T N, w ∈ TT) (hc : vwCl[u]? = some (C, T, N)) (hN : nF u = N) (hty : ∀ k, k < N → parseFieldDescriptor (T k).2.2.1 = some (ty k)) (w1 : Cond.classLink own index C ∈ TT) (w2 : Cond.instantiable C N ∈ TT) (w3 : Cond.initialized C ∈ TT) (hcells : cells + 1 ≤ R.cells) (hslots : slots + N ≤ R.slots) (hdg : decode cc pc = .ok (.new index, 3))
    (kk : ∀ (H1 : Heap), H1.size = n + 1 → (∀ q : Nat, q < n → H1[q]? = H[q]?) → t_OB n (D.1 u) (nF u) (D.2 u) H1 (fun k => defaultValue (ty k)) → W p l e R s m args below meth c H1 locs (cells + 1) (slots + N) Q (F0 m (pc + 3) ls (.ref n :: rest))) : W p l e R s m args below meth c H locs cells slots Q (F0 m pc ls rest) := by
  obtain ⟨hx, hb, hown, hts, hK⟩ := E
  have hKn := hK.1 u _ hc
  subst hN
  refine W.newcK hx hb hown (hts _ w1) (hts _ w2) (hts _ w3) rfl hdg hcells hslots hKn.2.1 hz fun H1 kC hkC e1 z1 o1 => ?_
  exact kk H1 z1 o1 (u_born ty hts hin hKn hkC e1 hty)
theorem lw_ctor {nL nl fr lo2 mc ms idx : Nat} {y : MethodName} {bb : ByteArray} {post : Heap → Prop} (E : EE p s m args c cc own D cI cS) (hNW : NW s) (hml : c.maxLocals = nL) (hl : ls.size = nL) (hz : H.size = B + (i + 1)) (hM : MC l D cI cS B i y bb nl fr lo2 mc ms H [.ref (B + i)] post)
    (w1 : Cond.code y bb nl none ∈ TT) (w2 : Cond.initialized y.cls ∈ TT) (w3 : Cond.methodLink own idx y ∈ TT) (w4 : Cond.instanceMethod y ∈ TT) (hyn : y.name = "<init>") (hyd : y.cls ≠ "java/lang/invoke/MethodHandle" ∧ y.cls ≠ "java/lang/invoke/VarHandle" ∧ (parseMethodDescriptor y.desc).map (fun d => d.parameters.length) = some 0) (hR : fr + 1 ≤ R.frames ∧ 8 + (nl + 11) + lo2 ≤ R.locals) (hw : (rest.map fun v => v.category).sum ≤ 8) (hcs : cells + mc ≤ R.cells ∧ slots + ms ≤ R.slots) (hlo : ∀ x ∈ locs, B ≤ x.base) (hdg : decode cc pc = .ok (.invokespecial idx, 3))
    (kk : ∀ (H1 : Heap) (locs1 : List Loc), post H1 → (∀ q : Nat, q < B + i → H1[q]? = H[q]?) → (∀ x ∈ locs1, B ≤ x.base) → W p l e R s m args below meth c H1 locs1 (cells + mc) (slots + ms) Q (F0 m (pc + 3) ls rest)) : W p l e R s m args below meth c H locs cells slots Q (F0 m pc ls (.ref (B + i) :: rest)) := by
  refine va_callv (A0 := fun q => B ≤ q) (H0 := H) (va_runI (As := []) (rest := rest) ⟨E.1, E.2.1, hml, E.2.2.1, E.2.2.2.1⟩ hM (cwI 0 E.2.2.2.1 (q_WS w1) rfl rfl rfl (E.2.2.2.1 _ w2) (E.2.2.2.1 _ w3) (E.2.2.2.1 _ w4) hyn hyd hR) ⟨cr_blind, fun U hU hW => ⟨rfl, hU, va_K.moved hW.alike E.2.2.2.2, NW.warm hW hNW⟩⟩ rfl rfl hl rfl (lv_room hw) hdg hcs) ⟨Nat.le_refl _, fun _ _ _ => rfl, hlo⟩ (fun q _ h => ?_) (fun q h => ?_) (fun u z H1 locs1 hz1 hvm hp hB hsz hk hS1 => ?_)
  · show B ≤ q
    have h : B + i ≤ q := h
    omega
  · show B ≤ q
    have h : B + i ≤ q := h
    omega
  · have e : u = H1 := hB.symm.trans hz1
    subst e
    exact kk u locs1 hp (fun q hq => hk q (by omega) (fun h => by have h : B + i ≤ q := h; omega)) hS1.2.2
end LWR
theorem qw_1265 : Cond.instantiable RX11 4 ∈ TT := q_in (List.mem_append_right _ (List.mem_append_left _ (List.mem_of_getElem? (i := 17) (by decide +kernel)))) rfl
theorem qw_1266 : Cond.instantiable RX12 16 ∈ TT := q_in (List.mem_append_right _ (List.mem_append_right _ (List.mem_append_right _ (List.mem_append_right _ (List.mem_append_right _ (List.mem_append_left _ (List.mem_of_getElem? (i := 14) (by decide +kernel)))))))) rfl
theorem kk_start {args : Array Value} {s : State} (hts : ∀ w ∈ TT, w.before args s = true) (hA : va_AO RX8 s) : ∃ (D : va_G) (cI cS : ClassId), KK D cI cS s := by
  obtain ⟨c0, i0, k0⟩ := u_known (C := RX0) (T := TX0) (N := 1) (n := 1) hts inlX0 (hts _ qw_1187)
  obtain ⟨c1, i1, k1⟩ := u_known (C := RX1) (T := TX1) (N := 5) (n := 5) hts inlX1 (hts _ qw_1183)
  obtain ⟨c2, i2, k2⟩ := u_known (C := RX2) (T := TX2) (N := 10) (n := 10) hts inlX2 (hts _ qw_1190)
  obtain ⟨c3, i3, k3⟩ := u_known (C := RX3) (T := TX3) (N := 7) (n := 7) hts inlX3 (hts _ qw_1178)
  obtain ⟨c4, i4, k4⟩ := u_known (C := RX4) (T := TX4) (N := 10) (n := 10) hts inlX4 (hts _ qw_1200)
  obtain ⟨c5, i5, k5⟩ := u_known (C := RX5) (T := TX5) (N := 8) (n := 8) hts inlX5 (hts _ qw_1176)
  obtain ⟨c6, i6, k6⟩ := u_known (C := RX6) (T := TX6) (N := 3) (n := 3) hts inlX6 (hts _ qw_1192)
  obtain ⟨c7, i7, k7⟩ := u_known (C := RX7) (T := TX7) (N := 7) (n := 7) hts inlX7 (hts _ qw_1180)
  obtain ⟨c8, i8, k8⟩ := u_known (C := RX8) (T := TX8) (N := 10) (n := 10) hts inlX8 (hts _ qw_1195)
  obtain ⟨c9, i9, k9⟩ := u_known (C := RX9) (T := TX9) (N := 2) (n := 2) hts inlX9 (hts _ qw_1197)
  obtain ⟨c10, i10, k10⟩ := u_known (C := RX10) (T := TX10) (N := 6) (n := 6) hts inlX10 (hts _ qw_1185)
  obtain ⟨c11, i11, k11⟩ := u_known (C := RX11) (T := TX11) (N := 4) (n := 4) hts inlX11 (hts _ qw_1265)
  obtain ⟨c12, i12, k12⟩ := u_known (C := RX12) (T := TX12) (N := 16) (n := 16) hts inlX12 (hts _ qw_1266)
  obtain ⟨cI, kI, cm, f1, f2, f3⟩ := Cond.arrayClass_spec (hts _ qw_1222)
  obtain ⟨comp, cS, kS, g1, g2, g3, g4, g5⟩ := Cond.arrayOver_spec hA
  refine ⟨(fun k => [c0, c1, c2, c3, c4, c5, c6, c7, c8, c9, c10, c11, c12].getD k c0, fun k => [i0, i1, i2, i3, i4, i5, i6, i7, i8, i9, i10, i11, i12].getD k i0), cI, cS, ?_, ?_⟩
  · intro k q hq
    match k, hq with
    | 0, hq => cases hq; exact k0
    | 1, hq => cases hq; exact k1
    | 2, hq => cases hq; exact k2
    | 3, hq => cases hq; exact k3
    | 4, hq => cases hq; exact k4
    | 5, hq => cases hq; exact k5
    | 6, hq => cases hq; exact k6
    | 7, hq => cases hq; exact k7
    | 8, hq => cases hq; exact k8
    | 9, hq => cases hq; exact k9
    | 10, hq => cases hq; exact k10
    | 11, hq => cases hq; exact k11
    | 12, hq => cases hq; exact k12
    | k + 13, hq => simp [vwCl] at hq
  · intro k q hq
    match k, hq with
    | 0, hq => cases hq; exact ⟨fun n z => ⟨fun k h => (by cases h), kI, f2, cm, f3⟩, f1⟩
    | 1, hq => cases hq; exact ⟨fun n z => ⟨fun k h => (by cases h), kS, g3, comp, g4⟩, kS, comp, g3, g4, g1, g5⟩
    | k + 2, hq => simp at hq
section LWC
variable {p : Program} {l : Launch} {e : Env} {s : State} {m : MethodId} {args : Array Value} {below : List Frame} {meth : Method} {c : Code} {H : Heap} {locs : List Loc} {Q : State → Prop}
variable {ls : Array Slot} {D : va_G} {cI cS : ClassId} {B b : Nat} {xs : Nat → Int32}
set_option maxHeartbeats 4000000 in
set_option maxRecDepth 100000 in
theorem w_write_0 (E : EE p s m args c cL_law RL D cI cS) (hml : c.maxLocals = 4) (hl : lv_has ls 4 [(3, .int 0), (2, .ref (B + 178)), (1, .ref (B + 0)), (0, .ref b)]) (hWX : WF (tq B 0 178) (rq B)) (hWM : WF (tq B 178 186) (rq B)) (hTX : TH D cI cS (tq B 0 178) (rq B) H) (hFX : FX D B H) (hTM : TH D cI cS (tq B 178 186) (rq B) H) (hFM : FM D B H) (hX : va_X b 4 xs s H) (hbB : b < B) (hlo : ∀ x ∈ locs, B ≤ x.base) (g1 : (xs 1).toInt ≤ 31) (kk : KL p l e s m args below meth c ls Q B b xs) : WL p l e s m args below meth c H locs ls Q 144 := by
  have hx := E.1
  have hb := E.2.1
  have hτX := ttX B
  have hτM := ttM B
  refine lv_aload_n hx hb dL_law_144 rfl (lv_at hl 2 rfl) ?_
  refine lv_aload_n hx hb dL_law_145 rfl (lv_at hl 3 rfl) ?_
  refine lv_iload_n hx hb dL_law_146 rfl (lv_at hl 0 rfl) ?_
  refine lv_iconst (v := 1) hx hb dL_law_147 (by decide) ?_
  refine lv_iadd hx hb dL_law_148 ?_
  refine th_topi (y := 1) (by decide) ?_
  refine lw_sld (j := 1) hx hb hX (by decide) (by decide) (by decide) dL_law_149 ?_
  refine th_Vi (A := fun q => B ≤ q) (As := [.int (xs 1)]) (rest := []) E hml hl.1 (c_X11_write l D cI cS (tq B 0 178) (rq B) hWX H hTX (B + 0) (xs 1) hτX g1) lk_L_13 yd_X11_write hTX hτX rfl (by decide) ⟨rfl, fun _ _ => rfl, hlo⟩ (fun q h => h.elim) ⟨Nat.le_of_ble_eq_true rfl, Nat.le_of_ble_eq_true rfl⟩ (Nat.le_of_ble_eq_true rfl) ⟨Nat.le_of_ble_eq_true rfl, Nat.le_of_ble_eq_true rfl⟩ rfl dL_law_150 (fun r_1 H_1 locs_1 p_1 hT_1 hk_1 hS_1 => ?_)
  refine th_topi (y := (-1)) (show ((-1) : Int32) = r_1 from p_1.2).symm ?_
  have kM : ∀ q, B + 178 ≤ q → H_1[q]? = H[q]? := fun q hq => hk_1 q (fun h => h.elim)
  have hTM := hTM.same (H1 := H_1) (fun q t h => kM q (by obtain ⟨j, rfl, z1, -, -⟩ := tq_some h; omega))
  have hFM := hFM.kept (H1 := H_1) kM
  have hX_1 : va_X b 4 xs s H_1 := hX.kept (hS_1.2.1 b (Nat.not_le.mpr hbB))
  refine lv_aload_n hx hb dL_law_153 rfl (lv_at hl 1 rfl) ?_
  refine lv_aload_n hx hb dL_law_154 rfl (lv_at hl 3 rfl) ?_
  refine lv_iload_n hx hb dL_law_155 rfl (lv_at hl 0 rfl) ?_
  refine lv_iconst (v := 1) hx hb dL_law_156 (by decide) ?_
  refine lv_iadd hx hb dL_law_157 ?_
  refine th_topi (y := 1) (by decide) ?_
  refine lw_sld (j := 1) hx hb hX_1 (by decide) (by decide) (by decide) dL_law_158 ?_
  refine th_Vi (A := fun q => B ≤ q) (As := [.int (xs 1)]) (rest := [.int (-1)]) E hml hl.1 (c_X12_write l D cI cS (tq B 178 186) (rq B) hWM H_1 hTM (B + 178) (xs 1) hτM g1) lk_L_17 yd_X12_write hTM hτM rfl (by decide) ⟨rfl, fun _ _ => rfl, hS_1.2.2⟩ (fun q h => h.elim) ⟨Nat.le_of_ble_eq_true rfl, Nat.le_of_ble_eq_true rfl⟩ (Nat.le_of_ble_eq_true rfl) ⟨Nat.le_of_ble_eq_true rfl, Nat.le_of_ble_eq_true rfl⟩ rfl dL_law_159 (fun r_2 H_2 locs_2 p_2 hT_2 hk_2 hS_2 => ?_)
  refine th_topi (y := (-1)) (show ((-1) : Int32) = r_2 from p_2.2).symm ?_
  have hX_2 : va_X b 4 xs s H_2 := hX_1.kept (hS_2.2.1 b (Nat.not_le.mpr hbB))
  refine lv_icmp_eq (tgt := 766) hx hb dL_law_162 (by decide) (fun c_ => ?_) (fun c_ => absurd (by decide) c_)
  exact kk H_2 locs_2 hS_2.2.2 hX_2
set_option maxHeartbeats 4000000 in
set_option maxRecDepth 100000 in
theorem w_write_1 (E : EE p s m args c cL_law RL D cI cS) (hml : c.maxLocals = 4) (hl : lv_has ls 4 [(3, .int 0), (2, .ref (B + 178)), (1, .ref (B + 0)), (0, .ref b)]) (hWX : WF (tq B 0 178) (rq B)) (hWM : WF (tq B 178 186) (rq B)) (hTX : TH D cI cS (tq B 0 178) (rq B) H) (hFX : FX D B H) (hTM : TH D cI cS (tq B 178 186) (rq B) H) (hFM : FM D B H) (hX : va_X b 4 xs s H) (hbB : b < B) (hlo : ∀ x ∈ locs, B ≤ x.base) (l1 : 32 ≤ (xs 1).toInt) (g1 : (xs 1).toInt ≤ 126) (kk : KL p l e s m args below meth c ls Q B b xs) : WL p l e s m args below meth c H locs ls Q 144 := by
  have hx := E.1
  have hb := E.2.1
  have hτX := ttX B
  have hτM := ttM B
  refine lv_aload_n hx hb dL_law_144 rfl (lv_at hl 2 rfl) ?_
  refine lv_aload_n hx hb dL_law_145 rfl (lv_at hl 3 rfl) ?_
  refine lv_iload_n hx hb dL_law_146 rfl (lv_at hl 0 rfl) ?_
  refine lv_iconst (v := 1) hx hb dL_law_147 (by decide) ?_
  refine lv_iadd hx hb dL_law_148 ?_
  refine th_topi (y := 1) (by decide) ?_
  refine lw_sld (j := 1) hx hb hX (by decide) (by decide) (by decide) dL_law_149 ?_
  refine th_Vi (A := fun q => B ≤ q) (As := [.int (xs 1)]) (rest := []) E hml hl.1 (c_X11_write_v2 l D cI cS (tq B 0 178) (rq B) hWX H hTX (B + 0) (xs 1) hτX l1 g1 hFX.1) lk_L_13 yd_X11_write hTX hτX rfl (by decide) ⟨rfl, fun _ _ => rfl, hlo⟩ (fun q h => by have h : q = rq B (rq B (B + 0) 0) 0 ∨ q = rq B (B + 0) 0 := h; simp only [qn_0_0, qn_1_0] at h; show B ≤ q; omega) ⟨Nat.le_of_ble_eq_true rfl, Nat.le_of_ble_eq_true rfl⟩ (Nat.le_of_ble_eq_true rfl) ⟨Nat.le_of_ble_eq_true rfl, Nat.le_of_ble_eq_true rfl⟩ rfl dL_law_150 (fun r_1 H_1 locs_1 p_1 hT_1 hk_1 hS_1 => ?_)
  refine th_topi (y := 1) (show (1 : Int32) = r_1 from p_1.1).symm ?_
  have kM : ∀ q, B + 178 ≤ q → H_1[q]? = H[q]? := fun q hq => hk_1 q (fun h => by have h : q = rq B (rq B (B + 0) 0) 0 ∨ q = rq B (B + 0) 0 := h; simp only [qn_0_0, qn_1_0] at h; omega)
  have hTM := hTM.same (H1 := H_1) (fun q t h => kM q (by obtain ⟨j, rfl, z1, -, -⟩ := tq_some h; omega))
  have hFM := hFM.kept (H1 := H_1) kM
  have hX_1 : va_X b 4 xs s H_1 := hX.kept (hS_1.2.1 b (Nat.not_le.mpr hbB))
  refine lv_aload_n hx hb dL_law_153 rfl (lv_at hl 1 rfl) ?_
  refine lv_aload_n hx hb dL_law_154 rfl (lv_at hl 3 rfl) ?_
  refine lv_iload_n hx hb dL_law_155 rfl (lv_at hl 0 rfl) ?_
  refine lv_iconst (v := 1) hx hb dL_law_156 (by decide) ?_
  refine lv_iadd hx hb dL_law_157 ?_
  refine th_topi (y := 1) (by decide) ?_
  refine lw_sld (j := 1) hx hb hX_1 (by decide) (by decide) (by decide) dL_law_158 ?_
  refine th_Vi (A := fun q => B ≤ q) (As := [.int (xs 1)]) (rest := [.int 1]) E hml hl.1 (c_X12_write_v2 l D cI cS (tq B 178 186) (rq B) hWM H_1 hTM (B + 178) (xs 1) hτM l1 g1 hFM.1) lk_L_17 yd_X12_write hTM hτM rfl (by decide) ⟨rfl, fun _ _ => rfl, hS_1.2.2⟩ (fun q h => by have h : q = rq B (B + 178) 4 ∨ q = B + 178 := h; simp only [qn_178_4] at h; show B ≤ q; omega) ⟨Nat.le_of_ble_eq_true rfl, Nat.le_of_ble_eq_true rfl⟩ (Nat.le_of_ble_eq_true rfl) ⟨Nat.le_of_ble_eq_true rfl, Nat.le_of_ble_eq_true rfl⟩ rfl dL_law_159 (fun r_2 H_2 locs_2 p_2 hT_2 hk_2 hS_2 => ?_)
  refine th_topi (y := 1) (show (1 : Int32) = r_2 from p_2.1).symm ?_
  have hX_2 : va_X b 4 xs s H_2 := hX_1.kept (hS_2.2.1 b (Nat.not_le.mpr hbB))
  refine lv_icmp_eq (tgt := 766) hx hb dL_law_162 (by decide) (fun c_ => ?_) (fun c_ => absurd (by decide) c_)
  exact kk H_2 locs_2 hS_2.2.2 hX_2
set_option maxHeartbeats 4000000 in
set_option maxRecDepth 100000 in
theorem w_write_2 (E : EE p s m args c cL_law RL D cI cS) (hml : c.maxLocals = 4) (hl : lv_has ls 4 [(3, .int 0), (2, .ref (B + 178)), (1, .ref (B + 0)), (0, .ref b)]) (hWX : WF (tq B 0 178) (rq B)) (hWM : WF (tq B 178 186) (rq B)) (hTX : TH D cI cS (tq B 0 178) (rq B) H) (hFX : FX D B H) (hTM : TH D cI cS (tq B 178 186) (rq B) H) (hFM : FM D B H) (hX : va_X b 4 xs s H) (hbB : b < B) (hlo : ∀ x ∈ locs, B ≤ x.base) (l1 : 127 ≤ (xs 1).toInt) (kk : KL p l e s m args below meth c ls Q B b xs) : WL p l e s m args below meth c H locs ls Q 144 := by
  have hx := E.1
  have hb := E.2.1
  have hτX := ttX B
  have hτM := ttM B
  refine lv_aload_n hx hb dL_law_144 rfl (lv_at hl 2 rfl) ?_
  refine lv_aload_n hx hb dL_law_145 rfl (lv_at hl 3 rfl) ?_
  refine lv_iload_n hx hb dL_law_146 rfl (lv_at hl 0 rfl) ?_
  refine lv_iconst (v := 1) hx hb dL_law_147 (by decide) ?_
  refine lv_iadd hx hb dL_law_148 ?_
  refine th_topi (y := 1) (by decide) ?_
  refine lw_sld (j := 1) hx hb hX (by decide) (by decide) (by decide) dL_law_149 ?_
  refine th_Vi (A := fun q => B ≤ q) (As := [.int (xs 1)]) (rest := []) E hml hl.1 (c_X11_write_v3 l D cI cS (tq B 0 178) (rq B) hWX H hTX (B + 0) (xs 1) hτX l1) lk_L_13 yd_X11_write hTX hτX rfl (by decide) ⟨rfl, fun _ _ => rfl, hlo⟩ (fun q h => h.elim) ⟨Nat.le_of_ble_eq_true rfl, Nat.le_of_ble_eq_true rfl⟩ (Nat.le_of_ble_eq_true rfl) ⟨Nat.le_of_ble_eq_true rfl, Nat.le_of_ble_eq_true rfl⟩ rfl dL_law_150 (fun r_1 H_1 locs_1 p_1 hT_1 hk_1 hS_1 => ?_)
  refine th_topi (y := (-1)) (show ((-1) : Int32) = r_1 from p_1.2).symm ?_
  have kM : ∀ q, B + 178 ≤ q → H_1[q]? = H[q]? := fun q hq => hk_1 q (fun h => h.elim)
  have hTM := hTM.same (H1 := H_1) (fun q t h => kM q (by obtain ⟨j, rfl, z1, -, -⟩ := tq_some h; omega))
  have hFM := hFM.kept (H1 := H_1) kM
  have hX_1 : va_X b 4 xs s H_1 := hX.kept (hS_1.2.1 b (Nat.not_le.mpr hbB))
  refine lv_aload_n hx hb dL_law_153 rfl (lv_at hl 1 rfl) ?_
  refine lv_aload_n hx hb dL_law_154 rfl (lv_at hl 3 rfl) ?_
  refine lv_iload_n hx hb dL_law_155 rfl (lv_at hl 0 rfl) ?_
  refine lv_iconst (v := 1) hx hb dL_law_156 (by decide) ?_
  refine lv_iadd hx hb dL_law_157 ?_
  refine th_topi (y := 1) (by decide) ?_
  refine lw_sld (j := 1) hx hb hX_1 (by decide) (by decide) (by decide) dL_law_158 ?_
  refine th_Vi (A := fun q => B ≤ q) (As := [.int (xs 1)]) (rest := [.int (-1)]) E hml hl.1 (c_X12_write_v3 l D cI cS (tq B 178 186) (rq B) hWM H_1 hTM (B + 178) (xs 1) hτM l1) lk_L_17 yd_X12_write hTM hτM rfl (by decide) ⟨rfl, fun _ _ => rfl, hS_1.2.2⟩ (fun q h => h.elim) ⟨Nat.le_of_ble_eq_true rfl, Nat.le_of_ble_eq_true rfl⟩ (Nat.le_of_ble_eq_true rfl) ⟨Nat.le_of_ble_eq_true rfl, Nat.le_of_ble_eq_true rfl⟩ rfl dL_law_159 (fun r_2 H_2 locs_2 p_2 hT_2 hk_2 hS_2 => ?_)
  refine th_topi (y := (-1)) (show ((-1) : Int32) = r_2 from p_2.2).symm ?_
  have hX_2 : va_X b 4 xs s H_2 := hX_1.kept (hS_2.2.1 b (Nat.not_le.mpr hbB))
  refine lv_icmp_eq (tgt := 766) hx hb dL_law_162 (by decide) (fun c_ => ?_) (fun c_ => absurd (by decide) c_)
  exact kk H_2 locs_2 hS_2.2.2 hX_2
theorem w_write (E : EE p s m args c cL_law RL D cI cS) (hml : c.maxLocals = 4) (hl : lv_has ls 4 [(3, .int 0), (2, .ref (B + 178)), (1, .ref (B + 0)), (0, .ref b)]) (hWX : WF (tq B 0 178) (rq B)) (hWM : WF (tq B 178 186) (rq B)) (hTX : TH D cI cS (tq B 0 178) (rq B) H) (hFX : FX D B H) (hTM : TH D cI cS (tq B 178 186) (rq B) H) (hFM : FM D B H) (hX : va_X b 4 xs s H) (hbB : b < B) (hlo : ∀ x ∈ locs, B ≤ x.base) (kk : KL p l e s m args below meth c ls Q B b xs) : WL p l e s m args below meth c H locs ls Q 144 := by
  rcases (show (xs 1).toInt ≤ 31 ∨ (32 ≤ (xs 1).toInt ∧ (xs 1).toInt ≤ 126) ∨ 127 ≤ (xs 1).toInt by omega) with g1 | ⟨l1, g1⟩ | l1
  · exact w_write_0 E hml hl hWX hWM hTX hFX hTM hFM hX hbB hlo g1 kk
  · exact w_write_1 E hml hl hWX hWM hTX hFX hTM hFM hX hbB hlo l1 g1 kk
  · exact w_write_2 E hml hl hWX hWM hTX hFX hTM hFM hX hbB hlo l1 kk
set_option maxHeartbeats 4000000 in
set_option maxRecDepth 100000 in
theorem w_wipe_0 (E : EE p s m args c cL_law RL D cI cS) (hml : c.maxLocals = 4) (hl : lv_has ls 4 [(3, .int 0), (2, .ref (B + 178)), (1, .ref (B + 0)), (0, .ref b)]) (hWX : WF (tq B 0 178) (rq B)) (hWM : WF (tq B 178 186) (rq B)) (hTX : TH D cI cS (tq B 0 178) (rq B) H) (hFX : FX D B H) (hTM : TH D cI cS (tq B 178 186) (rq B) H) (hFM : FM D B H) (hX : va_X b 4 xs s H) (hbB : b < B) (hlo : ∀ x ∈ locs, B ≤ x.base) (kk : KL p l e s m args below meth c ls Q B b xs) : WL p l e s m args below meth c H locs ls Q 167 := by
  have hx := E.1
  have hb := E.2.1
  have hτX := ttX B
  have hτM := ttM B
  refine lv_aload_n hx hb dL_law_167 rfl (lv_at hl 2 rfl) ?_
  refine th_Vi (A := fun q => B ≤ q) (As := []) (rest := []) E hml hl.1 (c_X11_wipe l D cI cS (tq B 0 178) (rq B) hWX H hTX (B + 0) hτX hFX.1) lk_L_18 yd_X11_wipe hTX hτX rfl (by decide) ⟨rfl, fun _ _ => rfl, hlo⟩ (fun q h => by have h : q = rq B (B + 0) 0 := h; simp only [qn_0_0] at h; show B ≤ q; omega) ⟨Nat.le_of_ble_eq_true rfl, Nat.le_of_ble_eq_true rfl⟩ (Nat.le_of_ble_eq_true rfl) ⟨Nat.le_of_ble_eq_true rfl, Nat.le_of_ble_eq_true rfl⟩ rfl dL_law_168 (fun r_1 H_1 locs_1 p_1 hT_1 hk_1 hS_1 => ?_)
  refine th_topi (y := 0) (show (0 : Int32) = r_1 from p_1.1).symm ?_
  have kM : ∀ q, B + 178 ≤ q → H_1[q]? = H[q]? := fun q hq => hk_1 q (fun h => by have h : q = rq B (B + 0) 0 := h; simp only [qn_0_0] at h; omega)
  have hTM := hTM.same (H1 := H_1) (fun q t h => kM q (by obtain ⟨j, rfl, z1, -, -⟩ := tq_some h; omega))
  have hFM := hFM.kept (H1 := H_1) kM
  have hX_1 : va_X b 4 xs s H_1 := hX.kept (hS_1.2.1 b (Nat.not_le.mpr hbB))
  refine lv_aload_n hx hb dL_law_171 rfl (lv_at hl 1 rfl) ?_
  refine th_Vi (A := fun q => B ≤ q) (As := []) (rest := [.int 0]) E hml hl.1 (c_X12_wipe l D cI cS (tq B 178 186) (rq B) hWM H_1 hTM (B + 178) hτM hFM.1) lk_L_22 yd_X12_wipe hTM hτM rfl (by decide) ⟨rfl, fun _ _ => rfl, hS_1.2.2⟩ (fun q h => by have h : q = B + 178 := h; show B ≤ q; omega) ⟨Nat.le_of_ble_eq_true rfl, Nat.le_of_ble_eq_true rfl⟩ (Nat.le_of_ble_eq_true rfl) ⟨Nat.le_of_ble_eq_true rfl, Nat.le_of_ble_eq_true rfl⟩ rfl dL_law_172 (fun r_2 H_2 locs_2 p_2 hT_2 hk_2 hS_2 => ?_)
  refine th_topi (y := 0) (show (0 : Int32) = r_2 from p_2.1).symm ?_
  have hX_2 : va_X b 4 xs s H_2 := hX_1.kept (hS_2.2.1 b (Nat.not_le.mpr hbB))
  refine lv_icmp_eq (tgt := 766) hx hb dL_law_175 (by decide) (fun c_ => ?_) (fun c_ => absurd (by decide) c_)
  exact kk H_2 locs_2 hS_2.2.2 hX_2
theorem w_wipe (E : EE p s m args c cL_law RL D cI cS) (hml : c.maxLocals = 4) (hl : lv_has ls 4 [(3, .int 0), (2, .ref (B + 178)), (1, .ref (B + 0)), (0, .ref b)]) (hWX : WF (tq B 0 178) (rq B)) (hWM : WF (tq B 178 186) (rq B)) (hTX : TH D cI cS (tq B 0 178) (rq B) H) (hFX : FX D B H) (hTM : TH D cI cS (tq B 178 186) (rq B) H) (hFM : FM D B H) (hX : va_X b 4 xs s H) (hbB : b < B) (hlo : ∀ x ∈ locs, B ≤ x.base) (kk : KL p l e s m args below meth c ls Q B b xs) : WL p l e s m args below meth c H locs ls Q 167 := by
  exact w_wipe_0 E hml hl hWX hWM hTX hFX hTM hFM hX hbB hlo kk
set_option maxHeartbeats 4000000 in
set_option maxRecDepth 100000 in
theorem w_fault_0 (E : EE p s m args c cL_law RL D cI cS) (hml : c.maxLocals = 4) (hl : lv_has ls 4 [(3, .int 0), (2, .ref (B + 178)), (1, .ref (B + 0)), (0, .ref b)]) (hWX : WF (tq B 0 178) (rq B)) (hWM : WF (tq B 178 186) (rq B)) (hTX : TH D cI cS (tq B 0 178) (rq B) H) (hFX : FX D B H) (hTM : TH D cI cS (tq B 178 186) (rq B) H) (hFM : FM D B H) (hX : va_X b 4 xs s H) (hbB : b < B) (hlo : ∀ x ∈ locs, B ≤ x.base) (kk : KL p l e s m args below meth c ls Q B b xs) : WL p l e s m args below meth c H locs ls Q 180 := by
  have hx := E.1
  have hb := E.2.1
  have hτX := ttX B
  have hτM := ttM B
  refine lv_aload_n hx hb dL_law_180 rfl (lv_at hl 2 rfl) ?_
  refine th_Vi (A := fun q => B ≤ q) (As := []) (rest := []) E hml hl.1 (c_X11_fault l D cI cS (tq B 0 178) (rq B) hWX H hTX (B + 0) hτX hFX.1) lk_L_23 yd_X11_fault hTX hτX rfl (by decide) ⟨rfl, fun _ _ => rfl, hlo⟩ (fun q h => by have h : q = rq B (B + 0) 1 := h; simp only [qn_0_1] at h; show B ≤ q; omega) ⟨Nat.le_of_ble_eq_true rfl, Nat.le_of_ble_eq_true rfl⟩ (Nat.le_of_ble_eq_true rfl) ⟨Nat.le_of_ble_eq_true rfl, Nat.le_of_ble_eq_true rfl⟩ rfl dL_law_181 (fun r_1 H_1 locs_1 p_1 hT_1 hk_1 hS_1 => ?_)
  refine th_topi (y := (-4)) (show ((-4) : Int32) = r_1 from p_1.1).symm ?_
  have kM : ∀ q, B + 178 ≤ q → H_1[q]? = H[q]? := fun q hq => hk_1 q (fun h => by have h : q = rq B (B + 0) 1 := h; simp only [qn_0_1] at h; omega)
  have hTM := hTM.same (H1 := H_1) (fun q t h => kM q (by obtain ⟨j, rfl, z1, -, -⟩ := tq_some h; omega))
  have hFM := hFM.kept (H1 := H_1) kM
  have hX_1 : va_X b 4 xs s H_1 := hX.kept (hS_1.2.1 b (Nat.not_le.mpr hbB))
  refine lv_aload_n hx hb dL_law_184 rfl (lv_at hl 1 rfl) ?_
  refine th_Vi (A := fun q => B ≤ q) (As := []) (rest := [.int (-4)]) E hml hl.1 (c_X12_fault l D cI cS (tq B 178 186) (rq B) hWM H_1 hTM (B + 178) hτM hFM.1) lk_L_26 yd_X12_fault hTM hτM rfl (by decide) ⟨rfl, fun _ _ => rfl, hS_1.2.2⟩ (fun q h => by have h : q = B + 178 ∨ q = rq B (B + 178) 15 := h; simp only [qn_178_15] at h; show B ≤ q; omega) ⟨Nat.le_of_ble_eq_true rfl, Nat.le_of_ble_eq_true rfl⟩ (Nat.le_of_ble_eq_true rfl) ⟨Nat.le_of_ble_eq_true rfl, Nat.le_of_ble_eq_true rfl⟩ rfl dL_law_185 (fun r_2 H_2 locs_2 p_2 hT_2 hk_2 hS_2 => ?_)
  refine th_topi (y := (-4)) (show ((-4) : Int32) = r_2 from p_2.1).symm ?_
  have hX_2 : va_X b 4 xs s H_2 := hX_1.kept (hS_2.2.1 b (Nat.not_le.mpr hbB))
  refine lv_icmp_eq (tgt := 766) hx hb dL_law_188 (by decide) (fun c_ => ?_) (fun c_ => absurd (by decide) c_)
  exact kk H_2 locs_2 hS_2.2.2 hX_2
theorem w_fault (E : EE p s m args c cL_law RL D cI cS) (hml : c.maxLocals = 4) (hl : lv_has ls 4 [(3, .int 0), (2, .ref (B + 178)), (1, .ref (B + 0)), (0, .ref b)]) (hWX : WF (tq B 0 178) (rq B)) (hWM : WF (tq B 178 186) (rq B)) (hTX : TH D cI cS (tq B 0 178) (rq B) H) (hFX : FX D B H) (hTM : TH D cI cS (tq B 178 186) (rq B) H) (hFM : FM D B H) (hX : va_X b 4 xs s H) (hbB : b < B) (hlo : ∀ x ∈ locs, B ≤ x.base) (kk : KL p l e s m args below meth c ls Q B b xs) : WL p l e s m args below meth c H locs ls Q 180 := by
  exact w_fault_0 E hml hl hWX hWM hTX hFX hTM hFM hX hbB hlo kk
set_option maxHeartbeats 4000000 in
set_option maxRecDepth 100000 in
theorem w_lay_0 (E : EE p s m args c cL_law RL D cI cS) (hml : c.maxLocals = 4) (hl : lv_has ls 4 [(3, .int 0), (2, .ref (B + 178)), (1, .ref (B + 0)), (0, .ref b)]) (hWX : WF (tq B 0 178) (rq B)) (hWM : WF (tq B 178 186) (rq B)) (hTX : TH D cI cS (tq B 0 178) (rq B) H) (hFX : FX D B H) (hTM : TH D cI cS (tq B 178 186) (rq B) H) (hFM : FM D B H) (hX : va_X b 4 xs s H) (hbB : b < B) (hlo : ∀ x ∈ locs, B ≤ x.base) (kk : KL p l e s m args below meth c ls Q B b xs) : WL p l e s m args below meth c H locs ls Q 193 := by
  have hx := E.1
  have hb := E.2.1
  have hτX := ttX B
  have hτM := ttM B
  refine lv_aload_n hx hb dL_law_193 rfl (lv_at hl 2 rfl) ?_
  refine th_Vi (A := fun q => B ≤ q) (As := []) (rest := []) E hml hl.1 (c_X11_lay l D cI cS (tq B 0 178) (rq B) hWX H hTX (B + 0) hτX hFX.1 (by rw [qx_0, qx_3]; omega) (by rw [qx_5, qx_16]; omega) (by rw [qx_5, qx_17]; omega) (by rw [qx_8, qx_9]; omega) (by rw [qx_10, qx_11]; omega) (by rw [qx_12, qx_13]; omega) (by rw [qx_4, qx_6]; omega)) lk_L_27 yd_X11_lay hTX hτX rfl (by decide) ⟨rfl, fun _ _ => rfl, hlo⟩ (fun q h => by have h : q = rq B (B + 0) 1 ∨ q = rq B (rq B (B + 0) 2) 0 ∨ q = rq B (rq B (B + 0) 2) 1 ∨ q = rq B (rq B (B + 0) 2) 2 ∨ q = rq B (rq B (B + 0) 2) 3 ∨ q = rq B (rq B (rq B (B + 0) 2) 3) 4 ∨ q = rq B (rq B (rq B (B + 0) 2) 3) 5 ∨ q = rq B (rq B (rq B (B + 0) 2) 3) 6 ∨ q = rq B (rq B (B + 0) 2) 4 ∨ q = rq B (rq B (rq B (B + 0) 2) 4) 4 ∨ q = rq B (rq B (rq B (B + 0) 2) 4) 5 ∨ q = rq B (rq B (rq B (B + 0) 2) 4) 6 ∨ q = rq B (B + 0) 2 := h; simp only [qn_0_1, qn_0_2, qn_4_0, qn_4_1, qn_4_2, qn_4_3, qn_4_4, qn_75_4, qn_75_5, qn_75_6, qn_82_4, qn_82_5, qn_82_6] at h; show B ≤ q; omega) ⟨Nat.le_of_ble_eq_true rfl, Nat.le_of_ble_eq_true rfl⟩ (Nat.le_of_ble_eq_true rfl) ⟨Nat.le_of_ble_eq_true rfl, Nat.le_of_ble_eq_true rfl⟩ rfl dL_law_194 (fun r_1 H_1 locs_1 p_1 hT_1 hk_1 hS_1 => ?_)
  refine th_topi (y := 4) (show (4 : Int32) = r_1 from p_1.1).symm ?_
  have kM : ∀ q, B + 178 ≤ q → H_1[q]? = H[q]? := fun q hq => hk_1 q (fun h => by have h : q = rq B (B + 0) 1 ∨ q = rq B (rq B (B + 0) 2) 0 ∨ q = rq B (rq B (B + 0) 2) 1 ∨ q = rq B (rq B (B + 0) 2) 2 ∨ q = rq B (rq B (B + 0) 2) 3 ∨ q = rq B (rq B (rq B (B + 0) 2) 3) 4 ∨ q = rq B (rq B (rq B (B + 0) 2) 3) 5 ∨ q = rq B (rq B (rq B (B + 0) 2) 3) 6 ∨ q = rq B (rq B (B + 0) 2) 4 ∨ q = rq B (rq B (rq B (B + 0) 2) 4) 4 ∨ q = rq B (rq B (rq B (B + 0) 2) 4) 5 ∨ q = rq B (rq B (rq B (B + 0) 2) 4) 6 ∨ q = rq B (B + 0) 2 := h; simp only [qn_0_1, qn_0_2, qn_4_0, qn_4_1, qn_4_2, qn_4_3, qn_4_4, qn_75_4, qn_75_5, qn_75_6, qn_82_4, qn_82_5, qn_82_6] at h; omega)
  have hTM := hTM.same (H1 := H_1) (fun q t h => kM q (by obtain ⟨j, rfl, z1, -, -⟩ := tq_some h; omega))
  have hFM := hFM.kept (H1 := H_1) kM
  have hX_1 : va_X b 4 xs s H_1 := hX.kept (hS_1.2.1 b (Nat.not_le.mpr hbB))
  refine lv_aload_n hx hb dL_law_197 rfl (lv_at hl 1 rfl) ?_
  refine th_Vi (A := fun q => B ≤ q) (As := []) (rest := [.int 4]) E hml hl.1 (c_X12_lay l D cI cS (tq B 178 186) (rq B) hWM H_1 hTM (B + 178) hτM hFM.1 (by rw [qx_18, qx_15]; omega) (by rw [qx_14]; omega)) lk_L_30 yd_X12_lay hTM hτM rfl (by decide) ⟨rfl, fun _ _ => rfl, hS_1.2.2⟩ (fun q h => by have h : q = B + 178 ∨ q = rq B (B + 178) 15 ∨ q = rq B (B + 178) 9 ∨ q = rq B (B + 178) 0 := h; simp only [qn_178_0, qn_178_15, qn_178_9] at h; show B ≤ q; omega) ⟨Nat.le_of_ble_eq_true rfl, Nat.le_of_ble_eq_true rfl⟩ (Nat.le_of_ble_eq_true rfl) ⟨Nat.le_of_ble_eq_true rfl, Nat.le_of_ble_eq_true rfl⟩ rfl dL_law_198 (fun r_2 H_2 locs_2 p_2 hT_2 hk_2 hS_2 => ?_)
  refine th_topi (y := 4) (show (4 : Int32) = r_2 from p_2.1).symm ?_
  have hX_2 : va_X b 4 xs s H_2 := hX_1.kept (hS_2.2.1 b (Nat.not_le.mpr hbB))
  refine lv_icmp_eq (tgt := 766) hx hb dL_law_201 (by decide) (fun c_ => ?_) (fun c_ => absurd (by decide) c_)
  exact kk H_2 locs_2 hS_2.2.2 hX_2
theorem w_lay (E : EE p s m args c cL_law RL D cI cS) (hml : c.maxLocals = 4) (hl : lv_has ls 4 [(3, .int 0), (2, .ref (B + 178)), (1, .ref (B + 0)), (0, .ref b)]) (hWX : WF (tq B 0 178) (rq B)) (hWM : WF (tq B 178 186) (rq B)) (hTX : TH D cI cS (tq B 0 178) (rq B) H) (hFX : FX D B H) (hTM : TH D cI cS (tq B 178 186) (rq B) H) (hFM : FM D B H) (hX : va_X b 4 xs s H) (hbB : b < B) (hlo : ∀ x ∈ locs, B ≤ x.base) (kk : KL p l e s m args below meth c ls Q B b xs) : WL p l e s m args below meth c H locs ls Q 193 := by
  exact w_lay_0 E hml hl hWX hWM hTX hFX hTM hFM hX hbB hlo kk
set_option maxHeartbeats 4000000 in
set_option maxRecDepth 100000 in
theorem w_open_0 (E : EE p s m args c cL_law RL D cI cS) (hml : c.maxLocals = 4) (hl : lv_has ls 4 [(3, .int 0), (2, .ref (B + 178)), (1, .ref (B + 0)), (0, .ref b)]) (hWX : WF (tq B 0 178) (rq B)) (hWM : WF (tq B 178 186) (rq B)) (hTX : TH D cI cS (tq B 0 178) (rq B) H) (hFX : FX D B H) (hTM : TH D cI cS (tq B 178 186) (rq B) H) (hFM : FM D B H) (hX : va_X b 4 xs s H) (hbB : b < B) (hlo : ∀ x ∈ locs, B ≤ x.base) (g1 : (xs 1).toInt ≤ -1) (kk : KL p l e s m args below meth c ls Q B b xs) : WL p l e s m args below meth c H locs ls Q 206 := by
  have hx := E.1
  have hb := E.2.1
  have hτX := ttX B
  have hτM := ttM B
  refine lv_aload_n hx hb dL_law_206 rfl (lv_at hl 2 rfl) ?_
  refine lv_aload_n hx hb dL_law_207 rfl (lv_at hl 3 rfl) ?_
  refine lv_iload_n hx hb dL_law_208 rfl (lv_at hl 0 rfl) ?_
  refine lv_iconst (v := 1) hx hb dL_law_209 (by decide) ?_
  refine lv_iadd hx hb dL_law_210 ?_
  refine th_topi (y := 1) (by decide) ?_
  refine lw_sld (j := 1) hx hb hX (by decide) (by decide) (by decide) dL_law_211 ?_
  refine lv_aload_n hx hb dL_law_212 rfl (lv_at hl 3 rfl) ?_
  refine lv_iload_n hx hb dL_law_213 rfl (lv_at hl 0 rfl) ?_
  refine lv_iconst (v := 2) hx hb dL_law_214 (by decide) ?_
  refine lv_iadd hx hb dL_law_215 ?_
  refine th_topi (y := 2) (by decide) ?_
  refine lw_sld (j := 2) hx hb hX (by decide) (by decide) (by decide) dL_law_216 ?_
  refine th_Vi (A := fun q => B ≤ q) (As := [.int (xs 1), .int (xs 2)]) (rest := []) E hml hl.1 (c_X11_open l D cI cS (tq B 0 178) (rq B) hWX H hTX (B + 0) (xs 1) (xs 2) hτX g1) lk_L_31 yd_X11_open hTX hτX rfl (by decide) ⟨rfl, fun _ _ => rfl, hlo⟩ (fun q h => h.elim) ⟨Nat.le_of_ble_eq_true rfl, Nat.le_of_ble_eq_true rfl⟩ (Nat.le_of_ble_eq_true rfl) ⟨Nat.le_of_ble_eq_true rfl, Nat.le_of_ble_eq_true rfl⟩ rfl dL_law_217 (fun r_1 H_1 locs_1 p_1 hT_1 hk_1 hS_1 => ?_)
  refine th_topi (y := (-1)) (show ((-1) : Int32) = r_1 from p_1.2).symm ?_
  have kM : ∀ q, B + 178 ≤ q → H_1[q]? = H[q]? := fun q hq => hk_1 q (fun h => h.elim)
  have hTM := hTM.same (H1 := H_1) (fun q t h => kM q (by obtain ⟨j, rfl, z1, -, -⟩ := tq_some h; omega))
  have hFM := hFM.kept (H1 := H_1) kM
  have hX_1 : va_X b 4 xs s H_1 := hX.kept (hS_1.2.1 b (Nat.not_le.mpr hbB))
  refine lv_aload_n hx hb dL_law_220 rfl (lv_at hl 1 rfl) ?_
  refine lv_aload_n hx hb dL_law_221 rfl (lv_at hl 3 rfl) ?_
  refine lv_iload_n hx hb dL_law_222 rfl (lv_at hl 0 rfl) ?_
  refine lv_iconst (v := 1) hx hb dL_law_223 (by decide) ?_
  refine lv_iadd hx hb dL_law_224 ?_
  refine th_topi (y := 1) (by decide) ?_
  refine lw_sld (j := 1) hx hb hX_1 (by decide) (by decide) (by decide) dL_law_225 ?_
  refine lv_aload_n hx hb dL_law_226 rfl (lv_at hl 3 rfl) ?_
  refine lv_iload_n hx hb dL_law_227 rfl (lv_at hl 0 rfl) ?_
  refine lv_iconst (v := 2) hx hb dL_law_228 (by decide) ?_
  refine lv_iadd hx hb dL_law_229 ?_
  refine th_topi (y := 2) (by decide) ?_
  refine lw_sld (j := 2) hx hb hX_1 (by decide) (by decide) (by decide) dL_law_230 ?_
  refine th_Vi (A := fun q => B ≤ q) (As := [.int (xs 1), .int (xs 2)]) (rest := [.int (-1)]) E hml hl.1 (c_X12_open l D cI cS (tq B 178 186) (rq B) hWM H_1 hTM (B + 178) (xs 1) (xs 2) hτM g1) lk_L_35 yd_X12_open hTM hτM rfl (by decide) ⟨rfl, fun _ _ => rfl, hS_1.2.2⟩ (fun q h => h.elim) ⟨Nat.le_of_ble_eq_true rfl, Nat.le_of_ble_eq_true rfl⟩ (Nat.le_of_ble_eq_true rfl) ⟨Nat.le_of_ble_eq_true rfl, Nat.le_of_ble_eq_true rfl⟩ rfl dL_law_231 (fun r_2 H_2 locs_2 p_2 hT_2 hk_2 hS_2 => ?_)
  refine th_topi (y := (-1)) (show ((-1) : Int32) = r_2 from p_2.2).symm ?_
  have hX_2 : va_X b 4 xs s H_2 := hX_1.kept (hS_2.2.1 b (Nat.not_le.mpr hbB))
  refine lv_icmp_eq (tgt := 766) hx hb dL_law_234 (by decide) (fun c_ => ?_) (fun c_ => absurd (by decide) c_)
  exact kk H_2 locs_2 hS_2.2.2 hX_2
set_option maxHeartbeats 4000000 in
set_option maxRecDepth 100000 in
theorem w_open_1 (E : EE p s m args c cL_law RL D cI cS) (hml : c.maxLocals = 4) (hl : lv_has ls 4 [(3, .int 0), (2, .ref (B + 178)), (1, .ref (B + 0)), (0, .ref b)]) (hWX : WF (tq B 0 178) (rq B)) (hWM : WF (tq B 178 186) (rq B)) (hTX : TH D cI cS (tq B 0 178) (rq B) H) (hFX : FX D B H) (hTM : TH D cI cS (tq B 178 186) (rq B) H) (hFM : FM D B H) (hX : va_X b 4 xs s H) (hbB : b < B) (hlo : ∀ x ∈ locs, B ≤ x.base) (l1 : 2 ≤ (xs 1).toInt) (kk : KL p l e s m args below meth c ls Q B b xs) : WL p l e s m args below meth c H locs ls Q 206 := by
  have hx := E.1
  have hb := E.2.1
  have hτX := ttX B
  have hτM := ttM B
  refine lv_aload_n hx hb dL_law_206 rfl (lv_at hl 2 rfl) ?_
  refine lv_aload_n hx hb dL_law_207 rfl (lv_at hl 3 rfl) ?_
  refine lv_iload_n hx hb dL_law_208 rfl (lv_at hl 0 rfl) ?_
  refine lv_iconst (v := 1) hx hb dL_law_209 (by decide) ?_
  refine lv_iadd hx hb dL_law_210 ?_
  refine th_topi (y := 1) (by decide) ?_
  refine lw_sld (j := 1) hx hb hX (by decide) (by decide) (by decide) dL_law_211 ?_
  refine lv_aload_n hx hb dL_law_212 rfl (lv_at hl 3 rfl) ?_
  refine lv_iload_n hx hb dL_law_213 rfl (lv_at hl 0 rfl) ?_
  refine lv_iconst (v := 2) hx hb dL_law_214 (by decide) ?_
  refine lv_iadd hx hb dL_law_215 ?_
  refine th_topi (y := 2) (by decide) ?_
  refine lw_sld (j := 2) hx hb hX (by decide) (by decide) (by decide) dL_law_216 ?_
  refine th_Vi (A := fun q => B ≤ q) (As := [.int (xs 1), .int (xs 2)]) (rest := []) E hml hl.1 (c_X11_open_v2 l D cI cS (tq B 0 178) (rq B) hWX H hTX (B + 0) (xs 1) (xs 2) hτX l1) lk_L_31 yd_X11_open hTX hτX rfl (by decide) ⟨rfl, fun _ _ => rfl, hlo⟩ (fun q h => h.elim) ⟨Nat.le_of_ble_eq_true rfl, Nat.le_of_ble_eq_true rfl⟩ (Nat.le_of_ble_eq_true rfl) ⟨Nat.le_of_ble_eq_true rfl, Nat.le_of_ble_eq_true rfl⟩ rfl dL_law_217 (fun r_1 H_1 locs_1 p_1 hT_1 hk_1 hS_1 => ?_)
  refine th_topi (y := (-1)) (show ((-1) : Int32) = r_1 from p_1.2).symm ?_
  have kM : ∀ q, B + 178 ≤ q → H_1[q]? = H[q]? := fun q hq => hk_1 q (fun h => h.elim)
  have hTM := hTM.same (H1 := H_1) (fun q t h => kM q (by obtain ⟨j, rfl, z1, -, -⟩ := tq_some h; omega))
  have hFM := hFM.kept (H1 := H_1) kM
  have hX_1 : va_X b 4 xs s H_1 := hX.kept (hS_1.2.1 b (Nat.not_le.mpr hbB))
  refine lv_aload_n hx hb dL_law_220 rfl (lv_at hl 1 rfl) ?_
  refine lv_aload_n hx hb dL_law_221 rfl (lv_at hl 3 rfl) ?_
  refine lv_iload_n hx hb dL_law_222 rfl (lv_at hl 0 rfl) ?_
  refine lv_iconst (v := 1) hx hb dL_law_223 (by decide) ?_
  refine lv_iadd hx hb dL_law_224 ?_
  refine th_topi (y := 1) (by decide) ?_
  refine lw_sld (j := 1) hx hb hX_1 (by decide) (by decide) (by decide) dL_law_225 ?_
  refine lv_aload_n hx hb dL_law_226 rfl (lv_at hl 3 rfl) ?_
  refine lv_iload_n hx hb dL_law_227 rfl (lv_at hl 0 rfl) ?_
  refine lv_iconst (v := 2) hx hb dL_law_228 (by decide) ?_
  refine lv_iadd hx hb dL_law_229 ?_
  refine th_topi (y := 2) (by decide) ?_
  refine lw_sld (j := 2) hx hb hX_1 (by decide) (by decide) (by decide) dL_law_230 ?_
  refine th_Vi (A := fun q => B ≤ q) (As := [.int (xs 1), .int (xs 2)]) (rest := [.int (-1)]) E hml hl.1 (c_X12_open_v2 l D cI cS (tq B 178 186) (rq B) hWM H_1 hTM (B + 178) (xs 1) (xs 2) hτM l1) lk_L_35 yd_X12_open hTM hτM rfl (by decide) ⟨rfl, fun _ _ => rfl, hS_1.2.2⟩ (fun q h => h.elim) ⟨Nat.le_of_ble_eq_true rfl, Nat.le_of_ble_eq_true rfl⟩ (Nat.le_of_ble_eq_true rfl) ⟨Nat.le_of_ble_eq_true rfl, Nat.le_of_ble_eq_true rfl⟩ rfl dL_law_231 (fun r_2 H_2 locs_2 p_2 hT_2 hk_2 hS_2 => ?_)
  refine th_topi (y := (-1)) (show ((-1) : Int32) = r_2 from p_2.2).symm ?_
  have hX_2 : va_X b 4 xs s H_2 := hX_1.kept (hS_2.2.1 b (Nat.not_le.mpr hbB))
  refine lv_icmp_eq (tgt := 766) hx hb dL_law_234 (by decide) (fun c_ => ?_) (fun c_ => absurd (by decide) c_)
  exact kk H_2 locs_2 hS_2.2.2 hX_2
set_option maxHeartbeats 4000000 in
set_option maxRecDepth 100000 in
theorem w_open_2 (E : EE p s m args c cL_law RL D cI cS) (hml : c.maxLocals = 4) (hl : lv_has ls 4 [(3, .int 0), (2, .ref (B + 178)), (1, .ref (B + 0)), (0, .ref b)]) (hWX : WF (tq B 0 178) (rq B)) (hWM : WF (tq B 178 186) (rq B)) (hTX : TH D cI cS (tq B 0 178) (rq B) H) (hFX : FX D B H) (hTM : TH D cI cS (tq B 178 186) (rq B) H) (hFM : FM D B H) (hX : va_X b 4 xs s H) (hbB : b < B) (hlo : ∀ x ∈ locs, B ≤ x.base) (h1 : xs 1 = 0) (g2 : (xs 2).toInt ≤ -1) (kk : KL p l e s m args below meth c ls Q B b xs) : WL p l e s m args below meth c H locs ls Q 206 := by
  have hx := E.1
  have hb := E.2.1
  have hτX := ttX B
  have hτM := ttM B
  refine lv_aload_n hx hb dL_law_206 rfl (lv_at hl 2 rfl) ?_
  refine lv_aload_n hx hb dL_law_207 rfl (lv_at hl 3 rfl) ?_
  refine lv_iload_n hx hb dL_law_208 rfl (lv_at hl 0 rfl) ?_
  refine lv_iconst (v := 1) hx hb dL_law_209 (by decide) ?_
  refine lv_iadd hx hb dL_law_210 ?_
  refine th_topi (y := 1) (by decide) ?_
  refine lw_sld (j := 1) hx hb hX (by decide) (by decide) (by decide) dL_law_211 ?_
  refine th_topi h1 ?_
  refine lv_aload_n hx hb dL_law_212 rfl (lv_at hl 3 rfl) ?_
  refine lv_iload_n hx hb dL_law_213 rfl (lv_at hl 0 rfl) ?_
  refine lv_iconst (v := 2) hx hb dL_law_214 (by decide) ?_
  refine lv_iadd hx hb dL_law_215 ?_
  refine th_topi (y := 2) (by decide) ?_
  refine lw_sld (j := 2) hx hb hX (by decide) (by decide) (by decide) dL_law_216 ?_
  refine th_Vi (A := fun q => B ≤ q) (As := [.int 0, .int (xs 2)]) (rest := []) E hml hl.1 (c_X11_open_v3 l D cI cS (tq B 0 178) (rq B) hWX H hTX (B + 0) (xs 2) hτX g2) lk_L_31 yd_X11_open hTX hτX rfl (by decide) ⟨rfl, fun _ _ => rfl, hlo⟩ (fun q h => h.elim) ⟨Nat.le_of_ble_eq_true rfl, Nat.le_of_ble_eq_true rfl⟩ (Nat.le_of_ble_eq_true rfl) ⟨Nat.le_of_ble_eq_true rfl, Nat.le_of_ble_eq_true rfl⟩ rfl dL_law_217 (fun r_1 H_1 locs_1 p_1 hT_1 hk_1 hS_1 => ?_)
  refine th_topi (y := (-1)) (show ((-1) : Int32) = r_1 from p_1.2).symm ?_
  have kM : ∀ q, B + 178 ≤ q → H_1[q]? = H[q]? := fun q hq => hk_1 q (fun h => h.elim)
  have hTM := hTM.same (H1 := H_1) (fun q t h => kM q (by obtain ⟨j, rfl, z1, -, -⟩ := tq_some h; omega))
  have hFM := hFM.kept (H1 := H_1) kM
  have hX_1 : va_X b 4 xs s H_1 := hX.kept (hS_1.2.1 b (Nat.not_le.mpr hbB))
  refine lv_aload_n hx hb dL_law_220 rfl (lv_at hl 1 rfl) ?_
  refine lv_aload_n hx hb dL_law_221 rfl (lv_at hl 3 rfl) ?_
  refine lv_iload_n hx hb dL_law_222 rfl (lv_at hl 0 rfl) ?_
  refine lv_iconst (v := 1) hx hb dL_law_223 (by decide) ?_
  refine lv_iadd hx hb dL_law_224 ?_
  refine th_topi (y := 1) (by decide) ?_
  refine lw_sld (j := 1) hx hb hX_1 (by decide) (by decide) (by decide) dL_law_225 ?_
  refine th_topi h1 ?_
  refine lv_aload_n hx hb dL_law_226 rfl (lv_at hl 3 rfl) ?_
  refine lv_iload_n hx hb dL_law_227 rfl (lv_at hl 0 rfl) ?_
  refine lv_iconst (v := 2) hx hb dL_law_228 (by decide) ?_
  refine lv_iadd hx hb dL_law_229 ?_
  refine th_topi (y := 2) (by decide) ?_
  refine lw_sld (j := 2) hx hb hX_1 (by decide) (by decide) (by decide) dL_law_230 ?_
  refine th_Vi (A := fun q => B ≤ q) (As := [.int 0, .int (xs 2)]) (rest := [.int (-1)]) E hml hl.1 (c_X12_open_v3 l D cI cS (tq B 178 186) (rq B) hWM H_1 hTM (B + 178) (xs 2) hτM g2) lk_L_35 yd_X12_open hTM hτM rfl (by decide) ⟨rfl, fun _ _ => rfl, hS_1.2.2⟩ (fun q h => h.elim) ⟨Nat.le_of_ble_eq_true rfl, Nat.le_of_ble_eq_true rfl⟩ (Nat.le_of_ble_eq_true rfl) ⟨Nat.le_of_ble_eq_true rfl, Nat.le_of_ble_eq_true rfl⟩ rfl dL_law_231 (fun r_2 H_2 locs_2 p_2 hT_2 hk_2 hS_2 => ?_)
  refine th_topi (y := (-1)) (show ((-1) : Int32) = r_2 from p_2.2).symm ?_
  have hX_2 : va_X b 4 xs s H_2 := hX_1.kept (hS_2.2.1 b (Nat.not_le.mpr hbB))
  refine lv_icmp_eq (tgt := 766) hx hb dL_law_234 (by decide) (fun c_ => ?_) (fun c_ => absurd (by decide) c_)
  exact kk H_2 locs_2 hS_2.2.2 hX_2
set_option maxHeartbeats 4000000 in
set_option maxRecDepth 100000 in
theorem w_open_3 (E : EE p s m args c cL_law RL D cI cS) (hml : c.maxLocals = 4) (hl : lv_has ls 4 [(3, .int 0), (2, .ref (B + 178)), (1, .ref (B + 0)), (0, .ref b)]) (hWX : WF (tq B 0 178) (rq B)) (hWM : WF (tq B 178 186) (rq B)) (hTX : TH D cI cS (tq B 0 178) (rq B) H) (hFX : FX D B H) (hTM : TH D cI cS (tq B 178 186) (rq B) H) (hFM : FM D B H) (hX : va_X b 4 xs s H) (hbB : b < B) (hlo : ∀ x ∈ locs, B ≤ x.base) (h1 : xs 1 = 0) (h2 : xs 2 = 0) (kk : KL p l e s m args below meth c ls Q B b xs) : WL p l e s m args below meth c H locs ls Q 206 := by
  have hx := E.1
  have hb := E.2.1
  have hτX := ttX B
  have hτM := ttM B
  refine lv_aload_n hx hb dL_law_206 rfl (lv_at hl 2 rfl) ?_
  refine lv_aload_n hx hb dL_law_207 rfl (lv_at hl 3 rfl) ?_
  refine lv_iload_n hx hb dL_law_208 rfl (lv_at hl 0 rfl) ?_
  refine lv_iconst (v := 1) hx hb dL_law_209 (by decide) ?_
  refine lv_iadd hx hb dL_law_210 ?_
  refine th_topi (y := 1) (by decide) ?_
  refine lw_sld (j := 1) hx hb hX (by decide) (by decide) (by decide) dL_law_211 ?_
  refine th_topi h1 ?_
  refine lv_aload_n hx hb dL_law_212 rfl (lv_at hl 3 rfl) ?_
  refine lv_iload_n hx hb dL_law_213 rfl (lv_at hl 0 rfl) ?_
  refine lv_iconst (v := 2) hx hb dL_law_214 (by decide) ?_
  refine lv_iadd hx hb dL_law_215 ?_
  refine th_topi (y := 2) (by decide) ?_
  refine lw_sld (j := 2) hx hb hX (by decide) (by decide) (by decide) dL_law_216 ?_
  refine th_topi h2 ?_
  refine th_Vi (A := fun q => B ≤ q) (As := [.int 0, .int 0]) (rest := []) E hml hl.1 (c_X11_open_v4 l D cI cS (tq B 0 178) (rq B) hWX H hTX (B + 0) hτX hFX.2.2.2.2.2.2.2.2.2.2.2.2.2.2.2.2.2.2.2.2.2.2.2.2.2.2.2.2.2.2.1 (by rw [qx_17, qx_19]) ((congrArg (fun z => fi D 10 2 H z) (qx_19.trans qx_17.symm)).trans hFX.2.2.2.2.2.2.2.2.2.1)) lk_L_31 yd_X11_open hTX hτX rfl (by decide) ⟨rfl, fun _ _ => rfl, hlo⟩ (fun q h => by have h : q = rq B (rq B (B + 0) 2) 3 ∨ q = rq B (rq B (rq B (B + 0) 2) 3) 4 ∨ q = rq B (rq B (rq B (B + 0) 2) 3) 5 ∨ q = rq B (rq B (rq B (B + 0) 2) 3) 6 := h; simp only [qn_0_2, qn_4_3, qn_75_4, qn_75_5, qn_75_6] at h; show B ≤ q; omega) ⟨Nat.le_of_ble_eq_true rfl, Nat.le_of_ble_eq_true rfl⟩ (Nat.le_of_ble_eq_true rfl) ⟨Nat.le_of_ble_eq_true rfl, Nat.le_of_ble_eq_true rfl⟩ rfl dL_law_217 (fun r_1 H_1 locs_1 p_1 hT_1 hk_1 hS_1 => ?_)
  refine th_topi (y := 0) (show (0 : Int32) = r_1 from p_1.1).symm ?_
  have kM : ∀ q, B + 178 ≤ q → H_1[q]? = H[q]? := fun q hq => hk_1 q (fun h => by have h : q = rq B (rq B (B + 0) 2) 3 ∨ q = rq B (rq B (rq B (B + 0) 2) 3) 4 ∨ q = rq B (rq B (rq B (B + 0) 2) 3) 5 ∨ q = rq B (rq B (rq B (B + 0) 2) 3) 6 := h; simp only [qn_0_2, qn_4_3, qn_75_4, qn_75_5, qn_75_6] at h; omega)
  have hTM := hTM.same (H1 := H_1) (fun q t h => kM q (by obtain ⟨j, rfl, z1, -, -⟩ := tq_some h; omega))
  have hFM := hFM.kept (H1 := H_1) kM
  have hX_1 : va_X b 4 xs s H_1 := hX.kept (hS_1.2.1 b (Nat.not_le.mpr hbB))
  refine lv_aload_n hx hb dL_law_220 rfl (lv_at hl 1 rfl) ?_
  refine lv_aload_n hx hb dL_law_221 rfl (lv_at hl 3 rfl) ?_
  refine lv_iload_n hx hb dL_law_222 rfl (lv_at hl 0 rfl) ?_
  refine lv_iconst (v := 1) hx hb dL_law_223 (by decide) ?_
  refine lv_iadd hx hb dL_law_224 ?_
  refine th_topi (y := 1) (by decide) ?_
  refine lw_sld (j := 1) hx hb hX_1 (by decide) (by decide) (by decide) dL_law_225 ?_
  refine th_topi h1 ?_
  refine lv_aload_n hx hb dL_law_226 rfl (lv_at hl 3 rfl) ?_
  refine lv_iload_n hx hb dL_law_227 rfl (lv_at hl 0 rfl) ?_
  refine lv_iconst (v := 2) hx hb dL_law_228 (by decide) ?_
  refine lv_iadd hx hb dL_law_229 ?_
  refine th_topi (y := 2) (by decide) ?_
  refine lw_sld (j := 2) hx hb hX_1 (by decide) (by decide) (by decide) dL_law_230 ?_
  refine th_topi h2 ?_
  refine th_Vi (A := fun q => B ≤ q) (As := [.int 0, .int 0]) (rest := [.int 0]) E hml hl.1 (c_X12_open_v4 l D cI cS (tq B 178 186) (rq B) hWM H_1 hTM (B + 178) hτM ((hFM.2.2.2.2.1 0 (by decide)).trans (by decide)) hFM.2.2.1 ((hFM.2.2.2.2.1 976 (by decide)).trans (by decide))) lk_L_35 yd_X12_open hTM hτM rfl (by decide) ⟨rfl, fun _ _ => rfl, hS_1.2.2⟩ (fun q h => by have h : q = rq B (B + 178) 0 := h; simp only [qn_178_0] at h; show B ≤ q; omega) ⟨Nat.le_of_ble_eq_true rfl, Nat.le_of_ble_eq_true rfl⟩ (Nat.le_of_ble_eq_true rfl) ⟨Nat.le_of_ble_eq_true rfl, Nat.le_of_ble_eq_true rfl⟩ rfl dL_law_231 (fun r_2 H_2 locs_2 p_2 hT_2 hk_2 hS_2 => ?_)
  refine th_topi (y := 0) (show (0 : Int32) = r_2 from p_2.1).symm ?_
  have hX_2 : va_X b 4 xs s H_2 := hX_1.kept (hS_2.2.1 b (Nat.not_le.mpr hbB))
  refine lv_icmp_eq (tgt := 766) hx hb dL_law_234 (by decide) (fun c_ => ?_) (fun c_ => absurd (by decide) c_)
  exact kk H_2 locs_2 hS_2.2.2 hX_2
set_option maxHeartbeats 4000000 in
set_option maxRecDepth 100000 in
theorem w_open_4 (E : EE p s m args c cL_law RL D cI cS) (hml : c.maxLocals = 4) (hl : lv_has ls 4 [(3, .int 0), (2, .ref (B + 178)), (1, .ref (B + 0)), (0, .ref b)]) (hWX : WF (tq B 0 178) (rq B)) (hWM : WF (tq B 178 186) (rq B)) (hTX : TH D cI cS (tq B 0 178) (rq B) H) (hFX : FX D B H) (hTM : TH D cI cS (tq B 178 186) (rq B) H) (hFM : FM D B H) (hX : va_X b 4 xs s H) (hbB : b < B) (hlo : ∀ x ∈ locs, B ≤ x.base) (h1 : xs 1 = 0) (h2 : xs 2 = 1) (kk : KL p l e s m args below meth c ls Q B b xs) : WL p l e s m args below meth c H locs ls Q 206 := by
  have hx := E.1
  have hb := E.2.1
  have hτX := ttX B
  have hτM := ttM B
  refine lv_aload_n hx hb dL_law_206 rfl (lv_at hl 2 rfl) ?_
  refine lv_aload_n hx hb dL_law_207 rfl (lv_at hl 3 rfl) ?_
  refine lv_iload_n hx hb dL_law_208 rfl (lv_at hl 0 rfl) ?_
  refine lv_iconst (v := 1) hx hb dL_law_209 (by decide) ?_
  refine lv_iadd hx hb dL_law_210 ?_
  refine th_topi (y := 1) (by decide) ?_
  refine lw_sld (j := 1) hx hb hX (by decide) (by decide) (by decide) dL_law_211 ?_
  refine th_topi h1 ?_
  refine lv_aload_n hx hb dL_law_212 rfl (lv_at hl 3 rfl) ?_
  refine lv_iload_n hx hb dL_law_213 rfl (lv_at hl 0 rfl) ?_
  refine lv_iconst (v := 2) hx hb dL_law_214 (by decide) ?_
  refine lv_iadd hx hb dL_law_215 ?_
  refine th_topi (y := 2) (by decide) ?_
  refine lw_sld (j := 2) hx hb hX (by decide) (by decide) (by decide) dL_law_216 ?_
  refine th_topi h2 ?_
  obtain ⟨ja0, ea0, ua0, va0, -⟩ := tq_some (hTX.ar8 (a := rq B (rq B (rq B (rq B (B + 0) 2) 3) 2) 0) (j := 0) (by rw [qx_21]; exact (tq_at (by decide) (by decide)).trans (by decide +kernel)) (by decide))
  refine th_Vi (A := fun q => B ≤ q) (As := [.int 0, .int 1]) (rest := []) E hml hl.1 (c_X11_open_v5 l D cI cS (tq B 0 178) (rq B) hWX H hTX (B + 0) hτX hFX.2.2.2.2.2.2.2.2.2.2.2.2.2.2.2.2.2.2.2.2.2.2.2.2.2.2.2.2.2.2.1 (by rw [qx_19, qx_4]; omega) (by rw [qx_19, qx_12]; omega) (by rw [qx_19, qx_10]; omega) (by rw [qx_19, qx_8]; omega) ((congrArg (fun z => fi D 10 2 H z) (qx_19.trans qx_17.symm)).trans hFX.2.2.2.2.2.2.2.2.2.1) (by rw [qx_5, qx_4]; omega) (by rw [qx_5, qx_12]; omega) (by rw [qx_5, qx_10]; omega) (by rw [qx_5, qx_8]; omega) ((congrArg (fun z => fi D 1 3 H z) (qx_5.trans qx_3.symm)).trans hFX.2.2.1) ((congrArg (fun z => fi D 1 2 H z) (qx_5.trans qx_3.symm)).trans hFX.2.2.2.1) ((congrArg (fun z => fi D 10 3 H z) (qx_19.trans qx_17.symm)).trans hFX.2.2.2.2.2.2.2.2.1) (by rw [qx_20, qx_4]; omega) (by rw [qx_20, qx_12]; omega) (by rw [qx_20, qx_10]; omega) (by rw [qx_20, qx_8]; omega) ((congrArg (fun z => fi D 0 0 H z) (qx_20.trans qx_16.symm)).trans hFX.2.2.2.2.2.2.2.2.2.2.1) (by rw [qx_17, qx_19])) lk_L_31 yd_X11_open hTX hτX rfl (by decide) ⟨rfl, fun _ _ => rfl, hlo⟩ (fun q h => by have h : q = rq B (rq B (B + 0) 2) 3 ∨ q = rq B (rq B (rq B (B + 0) 2) 3) 4 ∨ q = rq B (rq B (rq B (B + 0) 2) 3) 5 ∨ q = rq B (rq B (rq B (B + 0) 2) 3) 6 ∨ q = ar H (rq B (rq B (rq B (rq B (B + 0) 2) 3) 2) 0) 0 ∨ q = rq B (rq B (rq B (B + 0) 2) 3) 2 := h; simp only [qn_0_2, qn_4_3, qn_6_0, qn_75_2, qn_75_4, qn_75_5, qn_75_6] at h ea0; show B ≤ q; omega) ⟨Nat.le_of_ble_eq_true rfl, Nat.le_of_ble_eq_true rfl⟩ (Nat.le_of_ble_eq_true rfl) ⟨Nat.le_of_ble_eq_true rfl, Nat.le_of_ble_eq_true rfl⟩ rfl dL_law_217 (fun r_1 H_1 locs_1 p_1 hT_1 hk_1 hS_1 => ?_)
  refine th_topi (y := 1) (show (1 : Int32) = r_1 from p_1.1).symm ?_
  have kM : ∀ q, B + 178 ≤ q → H_1[q]? = H[q]? := fun q hq => hk_1 q (fun h => by have h : q = rq B (rq B (B + 0) 2) 3 ∨ q = rq B (rq B (rq B (B + 0) 2) 3) 4 ∨ q = rq B (rq B (rq B (B + 0) 2) 3) 5 ∨ q = rq B (rq B (rq B (B + 0) 2) 3) 6 ∨ q = ar H (rq B (rq B (rq B (rq B (B + 0) 2) 3) 2) 0) 0 ∨ q = rq B (rq B (rq B (B + 0) 2) 3) 2 := h; simp only [qn_0_2, qn_4_3, qn_6_0, qn_75_2, qn_75_4, qn_75_5, qn_75_6] at h ea0; omega)
  have hTM := hTM.same (H1 := H_1) (fun q t h => kM q (by obtain ⟨j, rfl, z1, -, -⟩ := tq_some h; omega))
  have hFM := hFM.kept (H1 := H_1) kM
  have hX_1 : va_X b 4 xs s H_1 := hX.kept (hS_1.2.1 b (Nat.not_le.mpr hbB))
  refine lv_aload_n hx hb dL_law_220 rfl (lv_at hl 1 rfl) ?_
  refine lv_aload_n hx hb dL_law_221 rfl (lv_at hl 3 rfl) ?_
  refine lv_iload_n hx hb dL_law_222 rfl (lv_at hl 0 rfl) ?_
  refine lv_iconst (v := 1) hx hb dL_law_223 (by decide) ?_
  refine lv_iadd hx hb dL_law_224 ?_
  refine th_topi (y := 1) (by decide) ?_
  refine lw_sld (j := 1) hx hb hX_1 (by decide) (by decide) (by decide) dL_law_225 ?_
  refine th_topi h1 ?_
  refine lv_aload_n hx hb dL_law_226 rfl (lv_at hl 3 rfl) ?_
  refine lv_iload_n hx hb dL_law_227 rfl (lv_at hl 0 rfl) ?_
  refine lv_iconst (v := 2) hx hb dL_law_228 (by decide) ?_
  refine lv_iadd hx hb dL_law_229 ?_
  refine th_topi (y := 2) (by decide) ?_
  refine lw_sld (j := 2) hx hb hX_1 (by decide) (by decide) (by decide) dL_law_230 ?_
  refine th_topi h2 ?_
  refine th_Vi (A := fun q => B ≤ q) (As := [.int 0, .int 1]) (rest := [.int 1]) E hml hl.1 (c_X12_open_v5 l D cI cS (tq B 178 186) (rq B) hWM H_1 hTM (B + 178) hτM ((hFM.2.2.2.2.1 0 (by decide)).trans (by decide)) hFM.2.2.1 (by rw [qx_15, qx_14]; omega) hFM.2.2.2.2.2.1 (by rw [qx_14, qx_22]; omega) ((hFM.2.2.2.2.1 978 (by decide)).trans (by decide)) ((hFM.2.2.2.2.1 976 (by decide)).trans (by decide)) ((hFM.2.2.2.2.1 977 (by decide)).trans (by decide))) lk_L_35 yd_X12_open hTM hτM rfl (by decide) ⟨rfl, fun _ _ => rfl, hS_1.2.2⟩ (fun q h => by have h : q = rq B (B + 178) 0 ∨ q = rq B (B + 178) 2 := h; simp only [qn_178_0, qn_178_2] at h; show B ≤ q; omega) ⟨Nat.le_of_ble_eq_true rfl, Nat.le_of_ble_eq_true rfl⟩ (Nat.le_of_ble_eq_true rfl) ⟨Nat.le_of_ble_eq_true rfl, Nat.le_of_ble_eq_true rfl⟩ rfl dL_law_231 (fun r_2 H_2 locs_2 p_2 hT_2 hk_2 hS_2 => ?_)
  refine th_topi (y := 1) (show (1 : Int32) = r_2 from p_2.1).symm ?_
  have hX_2 : va_X b 4 xs s H_2 := hX_1.kept (hS_2.2.1 b (Nat.not_le.mpr hbB))
  refine lv_icmp_eq (tgt := 766) hx hb dL_law_234 (by decide) (fun c_ => ?_) (fun c_ => absurd (by decide) c_)
  exact kk H_2 locs_2 hS_2.2.2 hX_2
set_option maxHeartbeats 4000000 in
set_option maxRecDepth 100000 in
theorem w_open_5 (E : EE p s m args c cL_law RL D cI cS) (hml : c.maxLocals = 4) (hl : lv_has ls 4 [(3, .int 0), (2, .ref (B + 178)), (1, .ref (B + 0)), (0, .ref b)]) (hWX : WF (tq B 0 178) (rq B)) (hWM : WF (tq B 178 186) (rq B)) (hTX : TH D cI cS (tq B 0 178) (rq B) H) (hFX : FX D B H) (hTM : TH D cI cS (tq B 178 186) (rq B) H) (hFM : FM D B H) (hX : va_X b 4 xs s H) (hbB : b < B) (hlo : ∀ x ∈ locs, B ≤ x.base) (h1 : xs 1 = 0) (l2 : 2 ≤ (xs 2).toInt) (kk : KL p l e s m args below meth c ls Q B b xs) : WL p l e s m args below meth c H locs ls Q 206 := by
  have hx := E.1
  have hb := E.2.1
  have hτX := ttX B
  have hτM := ttM B
  refine lv_aload_n hx hb dL_law_206 rfl (lv_at hl 2 rfl) ?_
  refine lv_aload_n hx hb dL_law_207 rfl (lv_at hl 3 rfl) ?_
  refine lv_iload_n hx hb dL_law_208 rfl (lv_at hl 0 rfl) ?_
  refine lv_iconst (v := 1) hx hb dL_law_209 (by decide) ?_
  refine lv_iadd hx hb dL_law_210 ?_
  refine th_topi (y := 1) (by decide) ?_
  refine lw_sld (j := 1) hx hb hX (by decide) (by decide) (by decide) dL_law_211 ?_
  refine th_topi h1 ?_
  refine lv_aload_n hx hb dL_law_212 rfl (lv_at hl 3 rfl) ?_
  refine lv_iload_n hx hb dL_law_213 rfl (lv_at hl 0 rfl) ?_
  refine lv_iconst (v := 2) hx hb dL_law_214 (by decide) ?_
  refine lv_iadd hx hb dL_law_215 ?_
  refine th_topi (y := 2) (by decide) ?_
  refine lw_sld (j := 2) hx hb hX (by decide) (by decide) (by decide) dL_law_216 ?_
  refine th_Vi (A := fun q => B ≤ q) (As := [.int 0, .int (xs 2)]) (rest := []) E hml hl.1 (c_X11_open_v6 l D cI cS (tq B 0 178) (rq B) hWX H hTX (B + 0) (xs 2) hτX l2) lk_L_31 yd_X11_open hTX hτX rfl (by decide) ⟨rfl, fun _ _ => rfl, hlo⟩ (fun q h => h.elim) ⟨Nat.le_of_ble_eq_true rfl, Nat.le_of_ble_eq_true rfl⟩ (Nat.le_of_ble_eq_true rfl) ⟨Nat.le_of_ble_eq_true rfl, Nat.le_of_ble_eq_true rfl⟩ rfl dL_law_217 (fun r_1 H_1 locs_1 p_1 hT_1 hk_1 hS_1 => ?_)
  refine th_topi (y := (-1)) (show ((-1) : Int32) = r_1 from p_1.2).symm ?_
  have kM : ∀ q, B + 178 ≤ q → H_1[q]? = H[q]? := fun q hq => hk_1 q (fun h => h.elim)
  have hTM := hTM.same (H1 := H_1) (fun q t h => kM q (by obtain ⟨j, rfl, z1, -, -⟩ := tq_some h; omega))
  have hFM := hFM.kept (H1 := H_1) kM
  have hX_1 : va_X b 4 xs s H_1 := hX.kept (hS_1.2.1 b (Nat.not_le.mpr hbB))
  refine lv_aload_n hx hb dL_law_220 rfl (lv_at hl 1 rfl) ?_
  refine lv_aload_n hx hb dL_law_221 rfl (lv_at hl 3 rfl) ?_
  refine lv_iload_n hx hb dL_law_222 rfl (lv_at hl 0 rfl) ?_
  refine lv_iconst (v := 1) hx hb dL_law_223 (by decide) ?_
  refine lv_iadd hx hb dL_law_224 ?_
  refine th_topi (y := 1) (by decide) ?_
  refine lw_sld (j := 1) hx hb hX_1 (by decide) (by decide) (by decide) dL_law_225 ?_
  refine th_topi h1 ?_
  refine lv_aload_n hx hb dL_law_226 rfl (lv_at hl 3 rfl) ?_
  refine lv_iload_n hx hb dL_law_227 rfl (lv_at hl 0 rfl) ?_
  refine lv_iconst (v := 2) hx hb dL_law_228 (by decide) ?_
  refine lv_iadd hx hb dL_law_229 ?_
  refine th_topi (y := 2) (by decide) ?_
  refine lw_sld (j := 2) hx hb hX_1 (by decide) (by decide) (by decide) dL_law_230 ?_
  refine th_Vi (A := fun q => B ≤ q) (As := [.int 0, .int (xs 2)]) (rest := [.int (-1)]) E hml hl.1 (c_X12_open_v6 l D cI cS (tq B 178 186) (rq B) hWM H_1 hTM (B + 178) (xs 2) hτM l2) lk_L_35 yd_X12_open hTM hτM rfl (by decide) ⟨rfl, fun _ _ => rfl, hS_1.2.2⟩ (fun q h => h.elim) ⟨Nat.le_of_ble_eq_true rfl, Nat.le_of_ble_eq_true rfl⟩ (Nat.le_of_ble_eq_true rfl) ⟨Nat.le_of_ble_eq_true rfl, Nat.le_of_ble_eq_true rfl⟩ rfl dL_law_231 (fun r_2 H_2 locs_2 p_2 hT_2 hk_2 hS_2 => ?_)
  refine th_topi (y := (-1)) (show ((-1) : Int32) = r_2 from p_2.2).symm ?_
  have hX_2 : va_X b 4 xs s H_2 := hX_1.kept (hS_2.2.1 b (Nat.not_le.mpr hbB))
  refine lv_icmp_eq (tgt := 766) hx hb dL_law_234 (by decide) (fun c_ => ?_) (fun c_ => absurd (by decide) c_)
  exact kk H_2 locs_2 hS_2.2.2 hX_2
set_option maxHeartbeats 4000000 in
set_option maxRecDepth 100000 in
theorem w_open_6 (E : EE p s m args c cL_law RL D cI cS) (hml : c.maxLocals = 4) (hl : lv_has ls 4 [(3, .int 0), (2, .ref (B + 178)), (1, .ref (B + 0)), (0, .ref b)]) (hWX : WF (tq B 0 178) (rq B)) (hWM : WF (tq B 178 186) (rq B)) (hTX : TH D cI cS (tq B 0 178) (rq B) H) (hFX : FX D B H) (hTM : TH D cI cS (tq B 178 186) (rq B) H) (hFM : FM D B H) (hX : va_X b 4 xs s H) (hbB : b < B) (hlo : ∀ x ∈ locs, B ≤ x.base) (h1 : xs 1 = 1) (g2 : (xs 2).toInt ≤ -1) (kk : KL p l e s m args below meth c ls Q B b xs) : WL p l e s m args below meth c H locs ls Q 206 := by
  have hx := E.1
  have hb := E.2.1
  have hτX := ttX B
  have hτM := ttM B
  refine lv_aload_n hx hb dL_law_206 rfl (lv_at hl 2 rfl) ?_
  refine lv_aload_n hx hb dL_law_207 rfl (lv_at hl 3 rfl) ?_
  refine lv_iload_n hx hb dL_law_208 rfl (lv_at hl 0 rfl) ?_
  refine lv_iconst (v := 1) hx hb dL_law_209 (by decide) ?_
  refine lv_iadd hx hb dL_law_210 ?_
  refine th_topi (y := 1) (by decide) ?_
  refine lw_sld (j := 1) hx hb hX (by decide) (by decide) (by decide) dL_law_211 ?_
  refine th_topi h1 ?_
  refine lv_aload_n hx hb dL_law_212 rfl (lv_at hl 3 rfl) ?_
  refine lv_iload_n hx hb dL_law_213 rfl (lv_at hl 0 rfl) ?_
  refine lv_iconst (v := 2) hx hb dL_law_214 (by decide) ?_
  refine lv_iadd hx hb dL_law_215 ?_
  refine th_topi (y := 2) (by decide) ?_
  refine lw_sld (j := 2) hx hb hX (by decide) (by decide) (by decide) dL_law_216 ?_
  refine th_Vi (A := fun q => B ≤ q) (As := [.int 1, .int (xs 2)]) (rest := []) E hml hl.1 (c_X11_open_v7 l D cI cS (tq B 0 178) (rq B) hWX H hTX (B + 0) (xs 2) hτX g2) lk_L_31 yd_X11_open hTX hτX rfl (by decide) ⟨rfl, fun _ _ => rfl, hlo⟩ (fun q h => h.elim) ⟨Nat.le_of_ble_eq_true rfl, Nat.le_of_ble_eq_true rfl⟩ (Nat.le_of_ble_eq_true rfl) ⟨Nat.le_of_ble_eq_true rfl, Nat.le_of_ble_eq_true rfl⟩ rfl dL_law_217 (fun r_1 H_1 locs_1 p_1 hT_1 hk_1 hS_1 => ?_)
  refine th_topi (y := (-1)) (show ((-1) : Int32) = r_1 from p_1.2).symm ?_
  have kM : ∀ q, B + 178 ≤ q → H_1[q]? = H[q]? := fun q hq => hk_1 q (fun h => h.elim)
  have hTM := hTM.same (H1 := H_1) (fun q t h => kM q (by obtain ⟨j, rfl, z1, -, -⟩ := tq_some h; omega))
  have hFM := hFM.kept (H1 := H_1) kM
  have hX_1 : va_X b 4 xs s H_1 := hX.kept (hS_1.2.1 b (Nat.not_le.mpr hbB))
  refine lv_aload_n hx hb dL_law_220 rfl (lv_at hl 1 rfl) ?_
  refine lv_aload_n hx hb dL_law_221 rfl (lv_at hl 3 rfl) ?_
  refine lv_iload_n hx hb dL_law_222 rfl (lv_at hl 0 rfl) ?_
  refine lv_iconst (v := 1) hx hb dL_law_223 (by decide) ?_
  refine lv_iadd hx hb dL_law_224 ?_
  refine th_topi (y := 1) (by decide) ?_
  refine lw_sld (j := 1) hx hb hX_1 (by decide) (by decide) (by decide) dL_law_225 ?_
  refine th_topi h1 ?_
  refine lv_aload_n hx hb dL_law_226 rfl (lv_at hl 3 rfl) ?_
  refine lv_iload_n hx hb dL_law_227 rfl (lv_at hl 0 rfl) ?_
  refine lv_iconst (v := 2) hx hb dL_law_228 (by decide) ?_
  refine lv_iadd hx hb dL_law_229 ?_
  refine th_topi (y := 2) (by decide) ?_
  refine lw_sld (j := 2) hx hb hX_1 (by decide) (by decide) (by decide) dL_law_230 ?_
  refine th_Vi (A := fun q => B ≤ q) (As := [.int 1, .int (xs 2)]) (rest := [.int (-1)]) E hml hl.1 (c_X12_open_v7 l D cI cS (tq B 178 186) (rq B) hWM H_1 hTM (B + 178) (xs 2) hτM g2) lk_L_35 yd_X12_open hTM hτM rfl (by decide) ⟨rfl, fun _ _ => rfl, hS_1.2.2⟩ (fun q h => h.elim) ⟨Nat.le_of_ble_eq_true rfl, Nat.le_of_ble_eq_true rfl⟩ (Nat.le_of_ble_eq_true rfl) ⟨Nat.le_of_ble_eq_true rfl, Nat.le_of_ble_eq_true rfl⟩ rfl dL_law_231 (fun r_2 H_2 locs_2 p_2 hT_2 hk_2 hS_2 => ?_)
  refine th_topi (y := (-1)) (show ((-1) : Int32) = r_2 from p_2.2).symm ?_
  have hX_2 : va_X b 4 xs s H_2 := hX_1.kept (hS_2.2.1 b (Nat.not_le.mpr hbB))
  refine lv_icmp_eq (tgt := 766) hx hb dL_law_234 (by decide) (fun c_ => ?_) (fun c_ => absurd (by decide) c_)
  exact kk H_2 locs_2 hS_2.2.2 hX_2
set_option maxHeartbeats 4000000 in
set_option maxRecDepth 100000 in
theorem w_open_7 (E : EE p s m args c cL_law RL D cI cS) (hml : c.maxLocals = 4) (hl : lv_has ls 4 [(3, .int 0), (2, .ref (B + 178)), (1, .ref (B + 0)), (0, .ref b)]) (hWX : WF (tq B 0 178) (rq B)) (hWM : WF (tq B 178 186) (rq B)) (hTX : TH D cI cS (tq B 0 178) (rq B) H) (hFX : FX D B H) (hTM : TH D cI cS (tq B 178 186) (rq B) H) (hFM : FM D B H) (hX : va_X b 4 xs s H) (hbB : b < B) (hlo : ∀ x ∈ locs, B ≤ x.base) (h1 : xs 1 = 1) (h2 : xs 2 = 0) (kk : KL p l e s m args below meth c ls Q B b xs) : WL p l e s m args below meth c H locs ls Q 206 := by
  have hx := E.1
  have hb := E.2.1
  have hτX := ttX B
  have hτM := ttM B
  refine lv_aload_n hx hb dL_law_206 rfl (lv_at hl 2 rfl) ?_
  refine lv_aload_n hx hb dL_law_207 rfl (lv_at hl 3 rfl) ?_
  refine lv_iload_n hx hb dL_law_208 rfl (lv_at hl 0 rfl) ?_
  refine lv_iconst (v := 1) hx hb dL_law_209 (by decide) ?_
  refine lv_iadd hx hb dL_law_210 ?_
  refine th_topi (y := 1) (by decide) ?_
  refine lw_sld (j := 1) hx hb hX (by decide) (by decide) (by decide) dL_law_211 ?_
  refine th_topi h1 ?_
  refine lv_aload_n hx hb dL_law_212 rfl (lv_at hl 3 rfl) ?_
  refine lv_iload_n hx hb dL_law_213 rfl (lv_at hl 0 rfl) ?_
  refine lv_iconst (v := 2) hx hb dL_law_214 (by decide) ?_
  refine lv_iadd hx hb dL_law_215 ?_
  refine th_topi (y := 2) (by decide) ?_
  refine lw_sld (j := 2) hx hb hX (by decide) (by decide) (by decide) dL_law_216 ?_
  refine th_topi h2 ?_
  refine th_Vi (A := fun q => B ≤ q) (As := [.int 1, .int 0]) (rest := []) E hml hl.1 (c_X11_open_v8 l D cI cS (tq B 0 178) (rq B) hWX H hTX (B + 0) hτX hFX.2.2.2.2.2.2.2.2.2.2.2.2.2.2.2.2.2.2.2.2.2.2.2.2.2.2.2.2.2.2.2.2.2.2.2.2.2.2.2.2.2.2.2.2.2.2.2.2.2.2.2.2.1 (by rw [qx_17, qx_23]) ((congrArg (fun z => fi D 10 2 H z) (qx_23.trans qx_17.symm)).trans hFX.2.2.2.2.2.2.2.2.2.1)) lk_L_31 yd_X11_open hTX hτX rfl (by decide) ⟨rfl, fun _ _ => rfl, hlo⟩ (fun q h => by have h : q = rq B (rq B (B + 0) 2) 4 ∨ q = rq B (rq B (rq B (B + 0) 2) 4) 4 ∨ q = rq B (rq B (rq B (B + 0) 2) 4) 5 ∨ q = rq B (rq B (rq B (B + 0) 2) 4) 6 := h; simp only [qn_0_2, qn_4_4, qn_82_4, qn_82_5, qn_82_6] at h; show B ≤ q; omega) ⟨Nat.le_of_ble_eq_true rfl, Nat.le_of_ble_eq_true rfl⟩ (Nat.le_of_ble_eq_true rfl) ⟨Nat.le_of_ble_eq_true rfl, Nat.le_of_ble_eq_true rfl⟩ rfl dL_law_217 (fun r_1 H_1 locs_1 p_1 hT_1 hk_1 hS_1 => ?_)
  refine th_topi (y := 0) (show (0 : Int32) = r_1 from p_1.1).symm ?_
  have kM : ∀ q, B + 178 ≤ q → H_1[q]? = H[q]? := fun q hq => hk_1 q (fun h => by have h : q = rq B (rq B (B + 0) 2) 4 ∨ q = rq B (rq B (rq B (B + 0) 2) 4) 4 ∨ q = rq B (rq B (rq B (B + 0) 2) 4) 5 ∨ q = rq B (rq B (rq B (B + 0) 2) 4) 6 := h; simp only [qn_0_2, qn_4_4, qn_82_4, qn_82_5, qn_82_6] at h; omega)
  have hTM := hTM.same (H1 := H_1) (fun q t h => kM q (by obtain ⟨j, rfl, z1, -, -⟩ := tq_some h; omega))
  have hFM := hFM.kept (H1 := H_1) kM
  have hX_1 : va_X b 4 xs s H_1 := hX.kept (hS_1.2.1 b (Nat.not_le.mpr hbB))
  refine lv_aload_n hx hb dL_law_220 rfl (lv_at hl 1 rfl) ?_
  refine lv_aload_n hx hb dL_law_221 rfl (lv_at hl 3 rfl) ?_
  refine lv_iload_n hx hb dL_law_222 rfl (lv_at hl 0 rfl) ?_
  refine lv_iconst (v := 1) hx hb dL_law_223 (by decide) ?_
  refine lv_iadd hx hb dL_law_224 ?_
  refine th_topi (y := 1) (by decide) ?_
  refine lw_sld (j := 1) hx hb hX_1 (by decide) (by decide) (by decide) dL_law_225 ?_
  refine th_topi h1 ?_
  refine lv_aload_n hx hb dL_law_226 rfl (lv_at hl 3 rfl) ?_
  refine lv_iload_n hx hb dL_law_227 rfl (lv_at hl 0 rfl) ?_
  refine lv_iconst (v := 2) hx hb dL_law_228 (by decide) ?_
  refine lv_iadd hx hb dL_law_229 ?_
  refine th_topi (y := 2) (by decide) ?_
  refine lw_sld (j := 2) hx hb hX_1 (by decide) (by decide) (by decide) dL_law_230 ?_
  refine th_topi h2 ?_
  refine th_Vi (A := fun q => B ≤ q) (As := [.int 1, .int 0]) (rest := [.int 0]) E hml hl.1 (c_X12_open_v8 l D cI cS (tq B 178 186) (rq B) hWM H_1 hTM (B + 178) hτM ((hFM.2.2.2.2.1 288 (by decide)).trans (by decide)) hFM.2.2.1 ((hFM.2.2.2.2.1 976 (by decide)).trans (by decide))) lk_L_35 yd_X12_open hTM hτM rfl (by decide) ⟨rfl, fun _ _ => rfl, hS_1.2.2⟩ (fun q h => by have h : q = rq B (B + 178) 0 := h; simp only [qn_178_0] at h; show B ≤ q; omega) ⟨Nat.le_of_ble_eq_true rfl, Nat.le_of_ble_eq_true rfl⟩ (Nat.le_of_ble_eq_true rfl) ⟨Nat.le_of_ble_eq_true rfl, Nat.le_of_ble_eq_true rfl⟩ rfl dL_law_231 (fun r_2 H_2 locs_2 p_2 hT_2 hk_2 hS_2 => ?_)
  refine th_topi (y := 0) (show (0 : Int32) = r_2 from p_2.1).symm ?_
  have hX_2 : va_X b 4 xs s H_2 := hX_1.kept (hS_2.2.1 b (Nat.not_le.mpr hbB))
  refine lv_icmp_eq (tgt := 766) hx hb dL_law_234 (by decide) (fun c_ => ?_) (fun c_ => absurd (by decide) c_)
  exact kk H_2 locs_2 hS_2.2.2 hX_2
set_option maxHeartbeats 4000000 in
set_option maxRecDepth 100000 in
theorem w_open_8 (E : EE p s m args c cL_law RL D cI cS) (hml : c.maxLocals = 4) (hl : lv_has ls 4 [(3, .int 0), (2, .ref (B + 178)), (1, .ref (B + 0)), (0, .ref b)]) (hWX : WF (tq B 0 178) (rq B)) (hWM : WF (tq B 178 186) (rq B)) (hTX : TH D cI cS (tq B 0 178) (rq B) H) (hFX : FX D B H) (hTM : TH D cI cS (tq B 178 186) (rq B) H) (hFM : FM D B H) (hX : va_X b 4 xs s H) (hbB : b < B) (hlo : ∀ x ∈ locs, B ≤ x.base) (h1 : xs 1 = 1) (h2 : xs 2 = 1) (kk : KL p l e s m args below meth c ls Q B b xs) : WL p l e s m args below meth c H locs ls Q 206 := by
  have hx := E.1
  have hb := E.2.1
  have hτX := ttX B
  have hτM := ttM B
  refine lv_aload_n hx hb dL_law_206 rfl (lv_at hl 2 rfl) ?_
  refine lv_aload_n hx hb dL_law_207 rfl (lv_at hl 3 rfl) ?_
  refine lv_iload_n hx hb dL_law_208 rfl (lv_at hl 0 rfl) ?_
  refine lv_iconst (v := 1) hx hb dL_law_209 (by decide) ?_
  refine lv_iadd hx hb dL_law_210 ?_
  refine th_topi (y := 1) (by decide) ?_
  refine lw_sld (j := 1) hx hb hX (by decide) (by decide) (by decide) dL_law_211 ?_
  refine th_topi h1 ?_
  refine lv_aload_n hx hb dL_law_212 rfl (lv_at hl 3 rfl) ?_
  refine lv_iload_n hx hb dL_law_213 rfl (lv_at hl 0 rfl) ?_
  refine lv_iconst (v := 2) hx hb dL_law_214 (by decide) ?_
  refine lv_iadd hx hb dL_law_215 ?_
  refine th_topi (y := 2) (by decide) ?_
  refine lw_sld (j := 2) hx hb hX (by decide) (by decide) (by decide) dL_law_216 ?_
  refine th_topi h2 ?_
  obtain ⟨ja0, ea0, ua0, va0, -⟩ := tq_some (hTX.ar8 (a := rq B (rq B (rq B (rq B (B + 0) 2) 4) 2) 0) (j := 0) (by rw [qx_25]; exact (tq_at (by decide) (by decide)).trans (by decide +kernel)) (by decide))
  refine th_Vi (A := fun q => B ≤ q) (As := [.int 1, .int 1]) (rest := []) E hml hl.1 (c_X11_open_v9 l D cI cS (tq B 0 178) (rq B) hWX H hTX (B + 0) hτX hFX.2.2.2.2.2.2.2.2.2.2.2.2.2.2.2.2.2.2.2.2.2.2.2.2.2.2.2.2.2.2.2.2.2.2.2.2.2.2.2.2.2.2.2.2.2.2.2.2.2.2.2.2.1 (by rw [qx_23, qx_6]; omega) (by rw [qx_23, qx_13]; omega) (by rw [qx_23, qx_11]; omega) (by rw [qx_23, qx_9]; omega) ((congrArg (fun z => fi D 10 2 H z) (qx_23.trans qx_17.symm)).trans hFX.2.2.2.2.2.2.2.2.2.1) (by rw [qx_7, qx_6]; omega) (by rw [qx_7, qx_13]; omega) (by rw [qx_7, qx_11]; omega) (by rw [qx_7, qx_9]; omega) ((congrArg (fun z => fi D 1 3 H z) (qx_7.trans qx_3.symm)).trans hFX.2.2.1) ((congrArg (fun z => fi D 1 2 H z) (qx_7.trans qx_3.symm)).trans hFX.2.2.2.1) ((congrArg (fun z => fi D 10 3 H z) (qx_23.trans qx_17.symm)).trans hFX.2.2.2.2.2.2.2.2.1) (by rw [qx_24, qx_6]; omega) (by rw [qx_24, qx_13]; omega) (by rw [qx_24, qx_11]; omega) (by rw [qx_24, qx_9]; omega) ((congrArg (fun z => fi D 0 0 H z) (qx_24.trans qx_16.symm)).trans hFX.2.2.2.2.2.2.2.2.2.2.1) (by rw [qx_17, qx_23])) lk_L_31 yd_X11_open hTX hτX rfl (by decide) ⟨rfl, fun _ _ => rfl, hlo⟩ (fun q h => by have h : q = rq B (rq B (B + 0) 2) 4 ∨ q = rq B (rq B (rq B (B + 0) 2) 4) 4 ∨ q = rq B (rq B (rq B (B + 0) 2) 4) 5 ∨ q = rq B (rq B (rq B (B + 0) 2) 4) 6 ∨ q = ar H (rq B (rq B (rq B (rq B (B + 0) 2) 4) 2) 0) 0 ∨ q = rq B (rq B (rq B (B + 0) 2) 4) 2 := h; simp only [qn_0_2, qn_4_4, qn_6_0, qn_82_2, qn_82_4, qn_82_5, qn_82_6] at h ea0; show B ≤ q; omega) ⟨Nat.le_of_ble_eq_true rfl, Nat.le_of_ble_eq_true rfl⟩ (Nat.le_of_ble_eq_true rfl) ⟨Nat.le_of_ble_eq_true rfl, Nat.le_of_ble_eq_true rfl⟩ rfl dL_law_217 (fun r_1 H_1 locs_1 p_1 hT_1 hk_1 hS_1 => ?_)
  refine th_topi (y := 1) (show (1 : Int32) = r_1 from p_1.1).symm ?_
  have kM : ∀ q, B + 178 ≤ q → H_1[q]? = H[q]? := fun q hq => hk_1 q (fun h => by have h : q = rq B (rq B (B + 0) 2) 4 ∨ q = rq B (rq B (rq B (B + 0) 2) 4) 4 ∨ q = rq B (rq B (rq B (B + 0) 2) 4) 5 ∨ q = rq B (rq B (rq B (B + 0) 2) 4) 6 ∨ q = ar H (rq B (rq B (rq B (rq B (B + 0) 2) 4) 2) 0) 0 ∨ q = rq B (rq B (rq B (B + 0) 2) 4) 2 := h; simp only [qn_0_2, qn_4_4, qn_6_0, qn_82_2, qn_82_4, qn_82_5, qn_82_6] at h ea0; omega)
  have hTM := hTM.same (H1 := H_1) (fun q t h => kM q (by obtain ⟨j, rfl, z1, -, -⟩ := tq_some h; omega))
  have hFM := hFM.kept (H1 := H_1) kM
  have hX_1 : va_X b 4 xs s H_1 := hX.kept (hS_1.2.1 b (Nat.not_le.mpr hbB))
  refine lv_aload_n hx hb dL_law_220 rfl (lv_at hl 1 rfl) ?_
  refine lv_aload_n hx hb dL_law_221 rfl (lv_at hl 3 rfl) ?_
  refine lv_iload_n hx hb dL_law_222 rfl (lv_at hl 0 rfl) ?_
  refine lv_iconst (v := 1) hx hb dL_law_223 (by decide) ?_
  refine lv_iadd hx hb dL_law_224 ?_
  refine th_topi (y := 1) (by decide) ?_
  refine lw_sld (j := 1) hx hb hX_1 (by decide) (by decide) (by decide) dL_law_225 ?_
  refine th_topi h1 ?_
  refine lv_aload_n hx hb dL_law_226 rfl (lv_at hl 3 rfl) ?_
  refine lv_iload_n hx hb dL_law_227 rfl (lv_at hl 0 rfl) ?_
  refine lv_iconst (v := 2) hx hb dL_law_228 (by decide) ?_
  refine lv_iadd hx hb dL_law_229 ?_
  refine th_topi (y := 2) (by decide) ?_
  refine lw_sld (j := 2) hx hb hX_1 (by decide) (by decide) (by decide) dL_law_230 ?_
  refine th_topi h2 ?_
  refine th_Vi (A := fun q => B ≤ q) (As := [.int 1, .int 1]) (rest := [.int 1]) E hml hl.1 (c_X12_open_v9 l D cI cS (tq B 178 186) (rq B) hWM H_1 hTM (B + 178) hτM ((hFM.2.2.2.2.1 288 (by decide)).trans (by decide)) hFM.2.2.1 (by rw [qx_15, qx_14]; omega) hFM.2.2.2.2.2.2 (by rw [qx_14, qx_22]; omega) ((hFM.2.2.2.2.1 978 (by decide)).trans (by decide)) ((hFM.2.2.2.2.1 976 (by decide)).trans (by decide)) ((hFM.2.2.2.2.1 977 (by decide)).trans (by decide))) lk_L_35 yd_X12_open hTM hτM rfl (by decide) ⟨rfl, fun _ _ => rfl, hS_1.2.2⟩ (fun q h => by have h : q = rq B (B + 178) 0 ∨ q = rq B (B + 178) 2 := h; simp only [qn_178_0, qn_178_2] at h; show B ≤ q; omega) ⟨Nat.le_of_ble_eq_true rfl, Nat.le_of_ble_eq_true rfl⟩ (Nat.le_of_ble_eq_true rfl) ⟨Nat.le_of_ble_eq_true rfl, Nat.le_of_ble_eq_true rfl⟩ rfl dL_law_231 (fun r_2 H_2 locs_2 p_2 hT_2 hk_2 hS_2 => ?_)
  refine th_topi (y := 1) (show (1 : Int32) = r_2 from p_2.1).symm ?_
  have hX_2 : va_X b 4 xs s H_2 := hX_1.kept (hS_2.2.1 b (Nat.not_le.mpr hbB))
  refine lv_icmp_eq (tgt := 766) hx hb dL_law_234 (by decide) (fun c_ => ?_) (fun c_ => absurd (by decide) c_)
  exact kk H_2 locs_2 hS_2.2.2 hX_2
set_option maxHeartbeats 4000000 in
set_option maxRecDepth 100000 in
theorem w_open_9 (E : EE p s m args c cL_law RL D cI cS) (hml : c.maxLocals = 4) (hl : lv_has ls 4 [(3, .int 0), (2, .ref (B + 178)), (1, .ref (B + 0)), (0, .ref b)]) (hWX : WF (tq B 0 178) (rq B)) (hWM : WF (tq B 178 186) (rq B)) (hTX : TH D cI cS (tq B 0 178) (rq B) H) (hFX : FX D B H) (hTM : TH D cI cS (tq B 178 186) (rq B) H) (hFM : FM D B H) (hX : va_X b 4 xs s H) (hbB : b < B) (hlo : ∀ x ∈ locs, B ≤ x.base) (h1 : xs 1 = 1) (l2 : 2 ≤ (xs 2).toInt) (kk : KL p l e s m args below meth c ls Q B b xs) : WL p l e s m args below meth c H locs ls Q 206 := by
  have hx := E.1
  have hb := E.2.1
  have hτX := ttX B
  have hτM := ttM B
  refine lv_aload_n hx hb dL_law_206 rfl (lv_at hl 2 rfl) ?_
  refine lv_aload_n hx hb dL_law_207 rfl (lv_at hl 3 rfl) ?_
  refine lv_iload_n hx hb dL_law_208 rfl (lv_at hl 0 rfl) ?_
  refine lv_iconst (v := 1) hx hb dL_law_209 (by decide) ?_
  refine lv_iadd hx hb dL_law_210 ?_
  refine th_topi (y := 1) (by decide) ?_
  refine lw_sld (j := 1) hx hb hX (by decide) (by decide) (by decide) dL_law_211 ?_
  refine th_topi h1 ?_
  refine lv_aload_n hx hb dL_law_212 rfl (lv_at hl 3 rfl) ?_
  refine lv_iload_n hx hb dL_law_213 rfl (lv_at hl 0 rfl) ?_
  refine lv_iconst (v := 2) hx hb dL_law_214 (by decide) ?_
  refine lv_iadd hx hb dL_law_215 ?_
  refine th_topi (y := 2) (by decide) ?_
  refine lw_sld (j := 2) hx hb hX (by decide) (by decide) (by decide) dL_law_216 ?_
  refine th_Vi (A := fun q => B ≤ q) (As := [.int 1, .int (xs 2)]) (rest := []) E hml hl.1 (c_X11_open_v10 l D cI cS (tq B 0 178) (rq B) hWX H hTX (B + 0) (xs 2) hτX l2) lk_L_31 yd_X11_open hTX hτX rfl (by decide) ⟨rfl, fun _ _ => rfl, hlo⟩ (fun q h => h.elim) ⟨Nat.le_of_ble_eq_true rfl, Nat.le_of_ble_eq_true rfl⟩ (Nat.le_of_ble_eq_true rfl) ⟨Nat.le_of_ble_eq_true rfl, Nat.le_of_ble_eq_true rfl⟩ rfl dL_law_217 (fun r_1 H_1 locs_1 p_1 hT_1 hk_1 hS_1 => ?_)
  refine th_topi (y := (-1)) (show ((-1) : Int32) = r_1 from p_1.2).symm ?_
  have kM : ∀ q, B + 178 ≤ q → H_1[q]? = H[q]? := fun q hq => hk_1 q (fun h => h.elim)
  have hTM := hTM.same (H1 := H_1) (fun q t h => kM q (by obtain ⟨j, rfl, z1, -, -⟩ := tq_some h; omega))
  have hFM := hFM.kept (H1 := H_1) kM
  have hX_1 : va_X b 4 xs s H_1 := hX.kept (hS_1.2.1 b (Nat.not_le.mpr hbB))
  refine lv_aload_n hx hb dL_law_220 rfl (lv_at hl 1 rfl) ?_
  refine lv_aload_n hx hb dL_law_221 rfl (lv_at hl 3 rfl) ?_
  refine lv_iload_n hx hb dL_law_222 rfl (lv_at hl 0 rfl) ?_
  refine lv_iconst (v := 1) hx hb dL_law_223 (by decide) ?_
  refine lv_iadd hx hb dL_law_224 ?_
  refine th_topi (y := 1) (by decide) ?_
  refine lw_sld (j := 1) hx hb hX_1 (by decide) (by decide) (by decide) dL_law_225 ?_
  refine th_topi h1 ?_
  refine lv_aload_n hx hb dL_law_226 rfl (lv_at hl 3 rfl) ?_
  refine lv_iload_n hx hb dL_law_227 rfl (lv_at hl 0 rfl) ?_
  refine lv_iconst (v := 2) hx hb dL_law_228 (by decide) ?_
  refine lv_iadd hx hb dL_law_229 ?_
  refine th_topi (y := 2) (by decide) ?_
  refine lw_sld (j := 2) hx hb hX_1 (by decide) (by decide) (by decide) dL_law_230 ?_
  refine th_Vi (A := fun q => B ≤ q) (As := [.int 1, .int (xs 2)]) (rest := [.int (-1)]) E hml hl.1 (c_X12_open_v10 l D cI cS (tq B 178 186) (rq B) hWM H_1 hTM (B + 178) (xs 2) hτM l2) lk_L_35 yd_X12_open hTM hτM rfl (by decide) ⟨rfl, fun _ _ => rfl, hS_1.2.2⟩ (fun q h => h.elim) ⟨Nat.le_of_ble_eq_true rfl, Nat.le_of_ble_eq_true rfl⟩ (Nat.le_of_ble_eq_true rfl) ⟨Nat.le_of_ble_eq_true rfl, Nat.le_of_ble_eq_true rfl⟩ rfl dL_law_231 (fun r_2 H_2 locs_2 p_2 hT_2 hk_2 hS_2 => ?_)
  refine th_topi (y := (-1)) (show ((-1) : Int32) = r_2 from p_2.2).symm ?_
  have hX_2 : va_X b 4 xs s H_2 := hX_1.kept (hS_2.2.1 b (Nat.not_le.mpr hbB))
  refine lv_icmp_eq (tgt := 766) hx hb dL_law_234 (by decide) (fun c_ => ?_) (fun c_ => absurd (by decide) c_)
  exact kk H_2 locs_2 hS_2.2.2 hX_2
theorem w_open (E : EE p s m args c cL_law RL D cI cS) (hml : c.maxLocals = 4) (hl : lv_has ls 4 [(3, .int 0), (2, .ref (B + 178)), (1, .ref (B + 0)), (0, .ref b)]) (hWX : WF (tq B 0 178) (rq B)) (hWM : WF (tq B 178 186) (rq B)) (hTX : TH D cI cS (tq B 0 178) (rq B) H) (hFX : FX D B H) (hTM : TH D cI cS (tq B 178 186) (rq B) H) (hFM : FM D B H) (hX : va_X b 4 xs s H) (hbB : b < B) (hlo : ∀ x ∈ locs, B ≤ x.base) (kk : KL p l e s m args below meth c ls Q B b xs) : WL p l e s m args below meth c H locs ls Q 206 := by
  rcases (show (xs 1).toInt ≤ -1 ∨ 2 ≤ (xs 1).toInt ∨ (xs 1).toInt = 0 ∨ (xs 1).toInt = 1 by omega) with g1 | l1 | t1 | t1
  · exact w_open_0 E hml hl hWX hWM hTX hFX hTM hFM hX hbB hlo g1 kk
  · exact w_open_1 E hml hl hWX hWM hTX hFX hTM hFM hX hbB hlo l1 kk
  · have h1 : xs 1 = 0 := i_eq t1 (by decide)
    rcases (show (xs 2).toInt ≤ -1 ∨ (xs 2).toInt = 0 ∨ (xs 2).toInt = 1 ∨ 2 ≤ (xs 2).toInt by omega) with g2 | t2 | t2 | l2
    · exact w_open_2 E hml hl hWX hWM hTX hFX hTM hFM hX hbB hlo h1 g2 kk
    · have h2 : xs 2 = 0 := i_eq t2 (by decide)
      exact w_open_3 E hml hl hWX hWM hTX hFX hTM hFM hX hbB hlo h1 h2 kk
    · have h2 : xs 2 = 1 := i_eq t2 (by decide)
      exact w_open_4 E hml hl hWX hWM hTX hFX hTM hFM hX hbB hlo h1 h2 kk
    · exact w_open_5 E hml hl hWX hWM hTX hFX hTM hFM hX hbB hlo h1 l2 kk
  · have h1 : xs 1 = 1 := i_eq t1 (by decide)
    rcases (show (xs 2).toInt ≤ -1 ∨ (xs 2).toInt = 0 ∨ (xs 2).toInt = 1 ∨ 2 ≤ (xs 2).toInt by omega) with g2 | t2 | t2 | l2
    · exact w_open_6 E hml hl hWX hWM hTX hFX hTM hFM hX hbB hlo h1 g2 kk
    · have h2 : xs 2 = 0 := i_eq t2 (by decide)
      exact w_open_7 E hml hl hWX hWM hTX hFX hTM hFM hX hbB hlo h1 h2 kk
    · have h2 : xs 2 = 1 := i_eq t2 (by decide)
      exact w_open_8 E hml hl hWX hWM hTX hFX hTM hFM hX hbB hlo h1 h2 kk
    · exact w_open_9 E hml hl hWX hWM hTX hFX hTM hFM hX hbB hlo h1 l2 kk
set_option maxHeartbeats 4000000 in
set_option maxRecDepth 100000 in
theorem w_say_0 (E : EE p s m args c cL_law RL D cI cS) (hml : c.maxLocals = 4) (hl : lv_has ls 4 [(3, .int 0), (2, .ref (B + 178)), (1, .ref (B + 0)), (0, .ref b)]) (hWX : WF (tq B 0 178) (rq B)) (hWM : WF (tq B 178 186) (rq B)) (hTX : TH D cI cS (tq B 0 178) (rq B) H) (hFX : FX D B H) (hTM : TH D cI cS (tq B 178 186) (rq B) H) (hFM : FM D B H) (hX : va_X b 4 xs s H) (hbB : b < B) (hlo : ∀ x ∈ locs, B ≤ x.base) (g1 : (xs 1).toInt ≤ -1) (kk : KL p l e s m args below meth c ls Q B b xs) : WL p l e s m args below meth c H locs ls Q 239 := by
  have hx := E.1
  have hb := E.2.1
  have hτX := ttX B
  have hτM := ttM B
  refine lv_aload_n hx hb dL_law_239 rfl (lv_at hl 2 rfl) ?_
  refine lv_aload_n hx hb dL_law_240 rfl (lv_at hl 3 rfl) ?_
  refine lv_iload_n hx hb dL_law_241 rfl (lv_at hl 0 rfl) ?_
  refine lv_iconst (v := 1) hx hb dL_law_242 (by decide) ?_
  refine lv_iadd hx hb dL_law_243 ?_
  refine th_topi (y := 1) (by decide) ?_
  refine lw_sld (j := 1) hx hb hX (by decide) (by decide) (by decide) dL_law_244 ?_
  refine lv_aload_n hx hb dL_law_245 rfl (lv_at hl 3 rfl) ?_
  refine lv_iload_n hx hb dL_law_246 rfl (lv_at hl 0 rfl) ?_
  refine lv_iconst (v := 2) hx hb dL_law_247 (by decide) ?_
  refine lv_iadd hx hb dL_law_248 ?_
  refine th_topi (y := 2) (by decide) ?_
  refine lw_sld (j := 2) hx hb hX (by decide) (by decide) (by decide) dL_law_249 ?_
  refine th_Vi (A := fun q => B ≤ q) (As := [.int (xs 1), .int (xs 2)]) (rest := []) E hml hl.1 (c_X11_say l D cI cS (tq B 0 178) (rq B) hWX H hTX (B + 0) (xs 1) (xs 2) hτX g1) lk_L_36 yd_X11_say hTX hτX rfl (by decide) ⟨rfl, fun _ _ => rfl, hlo⟩ (fun q h => h.elim) ⟨Nat.le_of_ble_eq_true rfl, Nat.le_of_ble_eq_true rfl⟩ (Nat.le_of_ble_eq_true rfl) ⟨Nat.le_of_ble_eq_true rfl, Nat.le_of_ble_eq_true rfl⟩ rfl dL_law_250 (fun r_1 H_1 locs_1 p_1 hT_1 hk_1 hS_1 => ?_)
  refine th_topi (y := (-1)) (show ((-1) : Int32) = r_1 from p_1.2).symm ?_
  have kM : ∀ q, B + 178 ≤ q → H_1[q]? = H[q]? := fun q hq => hk_1 q (fun h => h.elim)
  have hTM := hTM.same (H1 := H_1) (fun q t h => kM q (by obtain ⟨j, rfl, z1, -, -⟩ := tq_some h; omega))
  have hFM := hFM.kept (H1 := H_1) kM
  have hX_1 : va_X b 4 xs s H_1 := hX.kept (hS_1.2.1 b (Nat.not_le.mpr hbB))
  refine lv_aload_n hx hb dL_law_253 rfl (lv_at hl 1 rfl) ?_
  refine lv_aload_n hx hb dL_law_254 rfl (lv_at hl 3 rfl) ?_
  refine lv_iload_n hx hb dL_law_255 rfl (lv_at hl 0 rfl) ?_
  refine lv_iconst (v := 1) hx hb dL_law_256 (by decide) ?_
  refine lv_iadd hx hb dL_law_257 ?_
  refine th_topi (y := 1) (by decide) ?_
  refine lw_sld (j := 1) hx hb hX_1 (by decide) (by decide) (by decide) dL_law_258 ?_
  refine lv_aload_n hx hb dL_law_259 rfl (lv_at hl 3 rfl) ?_
  refine lv_iload_n hx hb dL_law_260 rfl (lv_at hl 0 rfl) ?_
  refine lv_iconst (v := 2) hx hb dL_law_261 (by decide) ?_
  refine lv_iadd hx hb dL_law_262 ?_
  refine th_topi (y := 2) (by decide) ?_
  refine lw_sld (j := 2) hx hb hX_1 (by decide) (by decide) (by decide) dL_law_263 ?_
  refine th_Vi (A := fun q => B ≤ q) (As := [.int (xs 1), .int (xs 2)]) (rest := [.int (-1)]) E hml hl.1 (c_X12_say l D cI cS (tq B 178 186) (rq B) hWM H_1 hTM (B + 178) (xs 1) (xs 2) hτM g1) lk_L_39 yd_X12_say hTM hτM rfl (by decide) ⟨rfl, fun _ _ => rfl, hS_1.2.2⟩ (fun q h => h.elim) ⟨Nat.le_of_ble_eq_true rfl, Nat.le_of_ble_eq_true rfl⟩ (Nat.le_of_ble_eq_true rfl) ⟨Nat.le_of_ble_eq_true rfl, Nat.le_of_ble_eq_true rfl⟩ rfl dL_law_264 (fun r_2 H_2 locs_2 p_2 hT_2 hk_2 hS_2 => ?_)
  refine th_topi (y := (-1)) (show ((-1) : Int32) = r_2 from p_2.2).symm ?_
  have hX_2 : va_X b 4 xs s H_2 := hX_1.kept (hS_2.2.1 b (Nat.not_le.mpr hbB))
  refine lv_icmp_eq (tgt := 766) hx hb dL_law_267 (by decide) (fun c_ => ?_) (fun c_ => absurd (by decide) c_)
  exact kk H_2 locs_2 hS_2.2.2 hX_2
set_option maxHeartbeats 4000000 in
set_option maxRecDepth 100000 in
theorem w_say_1 (E : EE p s m args c cL_law RL D cI cS) (hml : c.maxLocals = 4) (hl : lv_has ls 4 [(3, .int 0), (2, .ref (B + 178)), (1, .ref (B + 0)), (0, .ref b)]) (hWX : WF (tq B 0 178) (rq B)) (hWM : WF (tq B 178 186) (rq B)) (hTX : TH D cI cS (tq B 0 178) (rq B) H) (hFX : FX D B H) (hTM : TH D cI cS (tq B 178 186) (rq B) H) (hFM : FM D B H) (hX : va_X b 4 xs s H) (hbB : b < B) (hlo : ∀ x ∈ locs, B ≤ x.base) (l1 : 2 ≤ (xs 1).toInt) (kk : KL p l e s m args below meth c ls Q B b xs) : WL p l e s m args below meth c H locs ls Q 239 := by
  have hx := E.1
  have hb := E.2.1
  have hτX := ttX B
  have hτM := ttM B
  refine lv_aload_n hx hb dL_law_239 rfl (lv_at hl 2 rfl) ?_
  refine lv_aload_n hx hb dL_law_240 rfl (lv_at hl 3 rfl) ?_
  refine lv_iload_n hx hb dL_law_241 rfl (lv_at hl 0 rfl) ?_
  refine lv_iconst (v := 1) hx hb dL_law_242 (by decide) ?_
  refine lv_iadd hx hb dL_law_243 ?_
  refine th_topi (y := 1) (by decide) ?_
  refine lw_sld (j := 1) hx hb hX (by decide) (by decide) (by decide) dL_law_244 ?_
  refine lv_aload_n hx hb dL_law_245 rfl (lv_at hl 3 rfl) ?_
  refine lv_iload_n hx hb dL_law_246 rfl (lv_at hl 0 rfl) ?_
  refine lv_iconst (v := 2) hx hb dL_law_247 (by decide) ?_
  refine lv_iadd hx hb dL_law_248 ?_
  refine th_topi (y := 2) (by decide) ?_
  refine lw_sld (j := 2) hx hb hX (by decide) (by decide) (by decide) dL_law_249 ?_
  refine th_Vi (A := fun q => B ≤ q) (As := [.int (xs 1), .int (xs 2)]) (rest := []) E hml hl.1 (c_X11_say_v2 l D cI cS (tq B 0 178) (rq B) hWX H hTX (B + 0) (xs 1) (xs 2) hτX l1) lk_L_36 yd_X11_say hTX hτX rfl (by decide) ⟨rfl, fun _ _ => rfl, hlo⟩ (fun q h => h.elim) ⟨Nat.le_of_ble_eq_true rfl, Nat.le_of_ble_eq_true rfl⟩ (Nat.le_of_ble_eq_true rfl) ⟨Nat.le_of_ble_eq_true rfl, Nat.le_of_ble_eq_true rfl⟩ rfl dL_law_250 (fun r_1 H_1 locs_1 p_1 hT_1 hk_1 hS_1 => ?_)
  refine th_topi (y := (-1)) (show ((-1) : Int32) = r_1 from p_1.2).symm ?_
  have kM : ∀ q, B + 178 ≤ q → H_1[q]? = H[q]? := fun q hq => hk_1 q (fun h => h.elim)
  have hTM := hTM.same (H1 := H_1) (fun q t h => kM q (by obtain ⟨j, rfl, z1, -, -⟩ := tq_some h; omega))
  have hFM := hFM.kept (H1 := H_1) kM
  have hX_1 : va_X b 4 xs s H_1 := hX.kept (hS_1.2.1 b (Nat.not_le.mpr hbB))
  refine lv_aload_n hx hb dL_law_253 rfl (lv_at hl 1 rfl) ?_
  refine lv_aload_n hx hb dL_law_254 rfl (lv_at hl 3 rfl) ?_
  refine lv_iload_n hx hb dL_law_255 rfl (lv_at hl 0 rfl) ?_
  refine lv_iconst (v := 1) hx hb dL_law_256 (by decide) ?_
  refine lv_iadd hx hb dL_law_257 ?_
  refine th_topi (y := 1) (by decide) ?_
  refine lw_sld (j := 1) hx hb hX_1 (by decide) (by decide) (by decide) dL_law_258 ?_
  refine lv_aload_n hx hb dL_law_259 rfl (lv_at hl 3 rfl) ?_
  refine lv_iload_n hx hb dL_law_260 rfl (lv_at hl 0 rfl) ?_
  refine lv_iconst (v := 2) hx hb dL_law_261 (by decide) ?_
  refine lv_iadd hx hb dL_law_262 ?_
  refine th_topi (y := 2) (by decide) ?_
  refine lw_sld (j := 2) hx hb hX_1 (by decide) (by decide) (by decide) dL_law_263 ?_
  refine th_Vi (A := fun q => B ≤ q) (As := [.int (xs 1), .int (xs 2)]) (rest := [.int (-1)]) E hml hl.1 (c_X12_say_v2 l D cI cS (tq B 178 186) (rq B) hWM H_1 hTM (B + 178) (xs 1) (xs 2) hτM l1) lk_L_39 yd_X12_say hTM hτM rfl (by decide) ⟨rfl, fun _ _ => rfl, hS_1.2.2⟩ (fun q h => h.elim) ⟨Nat.le_of_ble_eq_true rfl, Nat.le_of_ble_eq_true rfl⟩ (Nat.le_of_ble_eq_true rfl) ⟨Nat.le_of_ble_eq_true rfl, Nat.le_of_ble_eq_true rfl⟩ rfl dL_law_264 (fun r_2 H_2 locs_2 p_2 hT_2 hk_2 hS_2 => ?_)
  refine th_topi (y := (-1)) (show ((-1) : Int32) = r_2 from p_2.2).symm ?_
  have hX_2 : va_X b 4 xs s H_2 := hX_1.kept (hS_2.2.1 b (Nat.not_le.mpr hbB))
  refine lv_icmp_eq (tgt := 766) hx hb dL_law_267 (by decide) (fun c_ => ?_) (fun c_ => absurd (by decide) c_)
  exact kk H_2 locs_2 hS_2.2.2 hX_2
set_option maxHeartbeats 4000000 in
set_option maxRecDepth 100000 in
theorem w_say_2 (E : EE p s m args c cL_law RL D cI cS) (hml : c.maxLocals = 4) (hl : lv_has ls 4 [(3, .int 0), (2, .ref (B + 178)), (1, .ref (B + 0)), (0, .ref b)]) (hWX : WF (tq B 0 178) (rq B)) (hWM : WF (tq B 178 186) (rq B)) (hTX : TH D cI cS (tq B 0 178) (rq B) H) (hFX : FX D B H) (hTM : TH D cI cS (tq B 178 186) (rq B) H) (hFM : FM D B H) (hX : va_X b 4 xs s H) (hbB : b < B) (hlo : ∀ x ∈ locs, B ≤ x.base) (h1 : xs 1 = 0) (g2 : (xs 2).toInt ≤ -1) (kk : KL p l e s m args below meth c ls Q B b xs) : WL p l e s m args below meth c H locs ls Q 239 := by
  have hx := E.1
  have hb := E.2.1
  have hτX := ttX B
  have hτM := ttM B
  refine lv_aload_n hx hb dL_law_239 rfl (lv_at hl 2 rfl) ?_
  refine lv_aload_n hx hb dL_law_240 rfl (lv_at hl 3 rfl) ?_
  refine lv_iload_n hx hb dL_law_241 rfl (lv_at hl 0 rfl) ?_
  refine lv_iconst (v := 1) hx hb dL_law_242 (by decide) ?_
  refine lv_iadd hx hb dL_law_243 ?_
  refine th_topi (y := 1) (by decide) ?_
  refine lw_sld (j := 1) hx hb hX (by decide) (by decide) (by decide) dL_law_244 ?_
  refine th_topi h1 ?_
  refine lv_aload_n hx hb dL_law_245 rfl (lv_at hl 3 rfl) ?_
  refine lv_iload_n hx hb dL_law_246 rfl (lv_at hl 0 rfl) ?_
  refine lv_iconst (v := 2) hx hb dL_law_247 (by decide) ?_
  refine lv_iadd hx hb dL_law_248 ?_
  refine th_topi (y := 2) (by decide) ?_
  refine lw_sld (j := 2) hx hb hX (by decide) (by decide) (by decide) dL_law_249 ?_
  refine th_Vi (A := fun q => B ≤ q) (As := [.int 0, .int (xs 2)]) (rest := []) E hml hl.1 (c_X11_say_v3 l D cI cS (tq B 0 178) (rq B) hWX H hTX (B + 0) (xs 2) hτX g2) lk_L_36 yd_X11_say hTX hτX rfl (by decide) ⟨rfl, fun _ _ => rfl, hlo⟩ (fun q h => h.elim) ⟨Nat.le_of_ble_eq_true rfl, Nat.le_of_ble_eq_true rfl⟩ (Nat.le_of_ble_eq_true rfl) ⟨Nat.le_of_ble_eq_true rfl, Nat.le_of_ble_eq_true rfl⟩ rfl dL_law_250 (fun r_1 H_1 locs_1 p_1 hT_1 hk_1 hS_1 => ?_)
  refine th_topi (y := (-1)) (show ((-1) : Int32) = r_1 from p_1.2).symm ?_
  have kM : ∀ q, B + 178 ≤ q → H_1[q]? = H[q]? := fun q hq => hk_1 q (fun h => h.elim)
  have hTM := hTM.same (H1 := H_1) (fun q t h => kM q (by obtain ⟨j, rfl, z1, -, -⟩ := tq_some h; omega))
  have hFM := hFM.kept (H1 := H_1) kM
  have hX_1 : va_X b 4 xs s H_1 := hX.kept (hS_1.2.1 b (Nat.not_le.mpr hbB))
  refine lv_aload_n hx hb dL_law_253 rfl (lv_at hl 1 rfl) ?_
  refine lv_aload_n hx hb dL_law_254 rfl (lv_at hl 3 rfl) ?_
  refine lv_iload_n hx hb dL_law_255 rfl (lv_at hl 0 rfl) ?_
  refine lv_iconst (v := 1) hx hb dL_law_256 (by decide) ?_
  refine lv_iadd hx hb dL_law_257 ?_
  refine th_topi (y := 1) (by decide) ?_
  refine lw_sld (j := 1) hx hb hX_1 (by decide) (by decide) (by decide) dL_law_258 ?_
  refine th_topi h1 ?_
  refine lv_aload_n hx hb dL_law_259 rfl (lv_at hl 3 rfl) ?_
  refine lv_iload_n hx hb dL_law_260 rfl (lv_at hl 0 rfl) ?_
  refine lv_iconst (v := 2) hx hb dL_law_261 (by decide) ?_
  refine lv_iadd hx hb dL_law_262 ?_
  refine th_topi (y := 2) (by decide) ?_
  refine lw_sld (j := 2) hx hb hX_1 (by decide) (by decide) (by decide) dL_law_263 ?_
  refine th_Vi (A := fun q => B ≤ q) (As := [.int 0, .int (xs 2)]) (rest := [.int (-1)]) E hml hl.1 (c_X12_say_v3 l D cI cS (tq B 178 186) (rq B) hWM H_1 hTM (B + 178) (xs 2) hτM g2) lk_L_39 yd_X12_say hTM hτM rfl (by decide) ⟨rfl, fun _ _ => rfl, hS_1.2.2⟩ (fun q h => h.elim) ⟨Nat.le_of_ble_eq_true rfl, Nat.le_of_ble_eq_true rfl⟩ (Nat.le_of_ble_eq_true rfl) ⟨Nat.le_of_ble_eq_true rfl, Nat.le_of_ble_eq_true rfl⟩ rfl dL_law_264 (fun r_2 H_2 locs_2 p_2 hT_2 hk_2 hS_2 => ?_)
  refine th_topi (y := (-1)) (show ((-1) : Int32) = r_2 from p_2.2).symm ?_
  have hX_2 : va_X b 4 xs s H_2 := hX_1.kept (hS_2.2.1 b (Nat.not_le.mpr hbB))
  refine lv_icmp_eq (tgt := 766) hx hb dL_law_267 (by decide) (fun c_ => ?_) (fun c_ => absurd (by decide) c_)
  exact kk H_2 locs_2 hS_2.2.2 hX_2
set_option maxHeartbeats 4000000 in
set_option maxRecDepth 100000 in
theorem w_say_3 (E : EE p s m args c cL_law RL D cI cS) (hml : c.maxLocals = 4) (hl : lv_has ls 4 [(3, .int 0), (2, .ref (B + 178)), (1, .ref (B + 0)), (0, .ref b)]) (hWX : WF (tq B 0 178) (rq B)) (hWM : WF (tq B 178 186) (rq B)) (hTX : TH D cI cS (tq B 0 178) (rq B) H) (hFX : FX D B H) (hTM : TH D cI cS (tq B 178 186) (rq B) H) (hFM : FM D B H) (hX : va_X b 4 xs s H) (hbB : b < B) (hlo : ∀ x ∈ locs, B ≤ x.base) (h1 : xs 1 = 0) (l2 : 0 ≤ (xs 2).toInt) (g2 : (xs 2).toInt ≤ 255) (kk : KL p l e s m args below meth c ls Q B b xs) : WL p l e s m args below meth c H locs ls Q 239 := by
  have hx := E.1
  have hb := E.2.1
  have hτX := ttX B
  have hτM := ttM B
  refine lv_aload_n hx hb dL_law_239 rfl (lv_at hl 2 rfl) ?_
  refine lv_aload_n hx hb dL_law_240 rfl (lv_at hl 3 rfl) ?_
  refine lv_iload_n hx hb dL_law_241 rfl (lv_at hl 0 rfl) ?_
  refine lv_iconst (v := 1) hx hb dL_law_242 (by decide) ?_
  refine lv_iadd hx hb dL_law_243 ?_
  refine th_topi (y := 1) (by decide) ?_
  refine lw_sld (j := 1) hx hb hX (by decide) (by decide) (by decide) dL_law_244 ?_
  refine th_topi h1 ?_
  refine lv_aload_n hx hb dL_law_245 rfl (lv_at hl 3 rfl) ?_
  refine lv_iload_n hx hb dL_law_246 rfl (lv_at hl 0 rfl) ?_
  refine lv_iconst (v := 2) hx hb dL_law_247 (by decide) ?_
  refine lv_iadd hx hb dL_law_248 ?_
  refine th_topi (y := 2) (by decide) ?_
  refine lw_sld (j := 2) hx hb hX (by decide) (by decide) (by decide) dL_law_249 ?_
  refine th_Vi (A := fun q => B ≤ q) (As := [.int 0, .int (xs 2)]) (rest := []) E hml hl.1 (c_X11_say_v4 l D cI cS (tq B 0 178) (rq B) hWX H hTX (B + 0) (xs 2) hτX l2 g2 hFX.2.2.2.2.2.2.2.2.2.2.2.2.2.2.2.2.2.2.2.2.2.2.2.2.2.2.2.2.2.2.1) lk_L_36 yd_X11_say hTX hτX rfl (by decide) ⟨rfl, fun _ _ => rfl, hlo⟩ (fun q h => h.elim) ⟨Nat.le_of_ble_eq_true rfl, Nat.le_of_ble_eq_true rfl⟩ (Nat.le_of_ble_eq_true rfl) ⟨Nat.le_of_ble_eq_true rfl, Nat.le_of_ble_eq_true rfl⟩ rfl dL_law_250 (fun r_1 H_1 locs_1 p_1 hT_1 hk_1 hS_1 => ?_)
  refine th_topi (y := (-2)) (show ((-2) : Int32) = r_1 from p_1.2).symm ?_
  have kM : ∀ q, B + 178 ≤ q → H_1[q]? = H[q]? := fun q hq => hk_1 q (fun h => h.elim)
  have hTM := hTM.same (H1 := H_1) (fun q t h => kM q (by obtain ⟨j, rfl, z1, -, -⟩ := tq_some h; omega))
  have hFM := hFM.kept (H1 := H_1) kM
  have hX_1 : va_X b 4 xs s H_1 := hX.kept (hS_1.2.1 b (Nat.not_le.mpr hbB))
  refine lv_aload_n hx hb dL_law_253 rfl (lv_at hl 1 rfl) ?_
  refine lv_aload_n hx hb dL_law_254 rfl (lv_at hl 3 rfl) ?_
  refine lv_iload_n hx hb dL_law_255 rfl (lv_at hl 0 rfl) ?_
  refine lv_iconst (v := 1) hx hb dL_law_256 (by decide) ?_
  refine lv_iadd hx hb dL_law_257 ?_
  refine th_topi (y := 1) (by decide) ?_
  refine lw_sld (j := 1) hx hb hX_1 (by decide) (by decide) (by decide) dL_law_258 ?_
  refine th_topi h1 ?_
  refine lv_aload_n hx hb dL_law_259 rfl (lv_at hl 3 rfl) ?_
  refine lv_iload_n hx hb dL_law_260 rfl (lv_at hl 0 rfl) ?_
  refine lv_iconst (v := 2) hx hb dL_law_261 (by decide) ?_
  refine lv_iadd hx hb dL_law_262 ?_
  refine th_topi (y := 2) (by decide) ?_
  refine lw_sld (j := 2) hx hb hX_1 (by decide) (by decide) (by decide) dL_law_263 ?_
  refine th_Vi (A := fun q => B ≤ q) (As := [.int 0, .int (xs 2)]) (rest := [.int (-2)]) E hml hl.1 (c_X12_say_v4 l D cI cS (tq B 178 186) (rq B) hWM H_1 hTM (B + 178) (xs 2) hτM l2 g2 ((hFM.2.2.2.2.1 0 (by decide)).trans (by decide))) lk_L_39 yd_X12_say hTM hτM rfl (by decide) ⟨rfl, fun _ _ => rfl, hS_1.2.2⟩ (fun q h => h.elim) ⟨Nat.le_of_ble_eq_true rfl, Nat.le_of_ble_eq_true rfl⟩ (Nat.le_of_ble_eq_true rfl) ⟨Nat.le_of_ble_eq_true rfl, Nat.le_of_ble_eq_true rfl⟩ rfl dL_law_264 (fun r_2 H_2 locs_2 p_2 hT_2 hk_2 hS_2 => ?_)
  refine th_topi (y := (-2)) (show ((-2) : Int32) = r_2 from p_2.2).symm ?_
  have hX_2 : va_X b 4 xs s H_2 := hX_1.kept (hS_2.2.1 b (Nat.not_le.mpr hbB))
  refine lv_icmp_eq (tgt := 766) hx hb dL_law_267 (by decide) (fun c_ => ?_) (fun c_ => absurd (by decide) c_)
  exact kk H_2 locs_2 hS_2.2.2 hX_2
set_option maxHeartbeats 4000000 in
set_option maxRecDepth 100000 in
theorem w_say_4 (E : EE p s m args c cL_law RL D cI cS) (hml : c.maxLocals = 4) (hl : lv_has ls 4 [(3, .int 0), (2, .ref (B + 178)), (1, .ref (B + 0)), (0, .ref b)]) (hWX : WF (tq B 0 178) (rq B)) (hWM : WF (tq B 178 186) (rq B)) (hTX : TH D cI cS (tq B 0 178) (rq B) H) (hFX : FX D B H) (hTM : TH D cI cS (tq B 178 186) (rq B) H) (hFM : FM D B H) (hX : va_X b 4 xs s H) (hbB : b < B) (hlo : ∀ x ∈ locs, B ≤ x.base) (h1 : xs 1 = 0) (l2 : 256 ≤ (xs 2).toInt) (kk : KL p l e s m args below meth c ls Q B b xs) : WL p l e s m args below meth c H locs ls Q 239 := by
  have hx := E.1
  have hb := E.2.1
  have hτX := ttX B
  have hτM := ttM B
  refine lv_aload_n hx hb dL_law_239 rfl (lv_at hl 2 rfl) ?_
  refine lv_aload_n hx hb dL_law_240 rfl (lv_at hl 3 rfl) ?_
  refine lv_iload_n hx hb dL_law_241 rfl (lv_at hl 0 rfl) ?_
  refine lv_iconst (v := 1) hx hb dL_law_242 (by decide) ?_
  refine lv_iadd hx hb dL_law_243 ?_
  refine th_topi (y := 1) (by decide) ?_
  refine lw_sld (j := 1) hx hb hX (by decide) (by decide) (by decide) dL_law_244 ?_
  refine th_topi h1 ?_
  refine lv_aload_n hx hb dL_law_245 rfl (lv_at hl 3 rfl) ?_
  refine lv_iload_n hx hb dL_law_246 rfl (lv_at hl 0 rfl) ?_
  refine lv_iconst (v := 2) hx hb dL_law_247 (by decide) ?_
  refine lv_iadd hx hb dL_law_248 ?_
  refine th_topi (y := 2) (by decide) ?_
  refine lw_sld (j := 2) hx hb hX (by decide) (by decide) (by decide) dL_law_249 ?_
  refine th_Vi (A := fun q => B ≤ q) (As := [.int 0, .int (xs 2)]) (rest := []) E hml hl.1 (c_X11_say_v5 l D cI cS (tq B 0 178) (rq B) hWX H hTX (B + 0) (xs 2) hτX l2) lk_L_36 yd_X11_say hTX hτX rfl (by decide) ⟨rfl, fun _ _ => rfl, hlo⟩ (fun q h => h.elim) ⟨Nat.le_of_ble_eq_true rfl, Nat.le_of_ble_eq_true rfl⟩ (Nat.le_of_ble_eq_true rfl) ⟨Nat.le_of_ble_eq_true rfl, Nat.le_of_ble_eq_true rfl⟩ rfl dL_law_250 (fun r_1 H_1 locs_1 p_1 hT_1 hk_1 hS_1 => ?_)
  refine th_topi (y := (-1)) (show ((-1) : Int32) = r_1 from p_1.2).symm ?_
  have kM : ∀ q, B + 178 ≤ q → H_1[q]? = H[q]? := fun q hq => hk_1 q (fun h => h.elim)
  have hTM := hTM.same (H1 := H_1) (fun q t h => kM q (by obtain ⟨j, rfl, z1, -, -⟩ := tq_some h; omega))
  have hFM := hFM.kept (H1 := H_1) kM
  have hX_1 : va_X b 4 xs s H_1 := hX.kept (hS_1.2.1 b (Nat.not_le.mpr hbB))
  refine lv_aload_n hx hb dL_law_253 rfl (lv_at hl 1 rfl) ?_
  refine lv_aload_n hx hb dL_law_254 rfl (lv_at hl 3 rfl) ?_
  refine lv_iload_n hx hb dL_law_255 rfl (lv_at hl 0 rfl) ?_
  refine lv_iconst (v := 1) hx hb dL_law_256 (by decide) ?_
  refine lv_iadd hx hb dL_law_257 ?_
  refine th_topi (y := 1) (by decide) ?_
  refine lw_sld (j := 1) hx hb hX_1 (by decide) (by decide) (by decide) dL_law_258 ?_
  refine th_topi h1 ?_
  refine lv_aload_n hx hb dL_law_259 rfl (lv_at hl 3 rfl) ?_
  refine lv_iload_n hx hb dL_law_260 rfl (lv_at hl 0 rfl) ?_
  refine lv_iconst (v := 2) hx hb dL_law_261 (by decide) ?_
  refine lv_iadd hx hb dL_law_262 ?_
  refine th_topi (y := 2) (by decide) ?_
  refine lw_sld (j := 2) hx hb hX_1 (by decide) (by decide) (by decide) dL_law_263 ?_
  refine th_Vi (A := fun q => B ≤ q) (As := [.int 0, .int (xs 2)]) (rest := [.int (-1)]) E hml hl.1 (c_X12_say_v5 l D cI cS (tq B 178 186) (rq B) hWM H_1 hTM (B + 178) (xs 2) hτM l2) lk_L_39 yd_X12_say hTM hτM rfl (by decide) ⟨rfl, fun _ _ => rfl, hS_1.2.2⟩ (fun q h => h.elim) ⟨Nat.le_of_ble_eq_true rfl, Nat.le_of_ble_eq_true rfl⟩ (Nat.le_of_ble_eq_true rfl) ⟨Nat.le_of_ble_eq_true rfl, Nat.le_of_ble_eq_true rfl⟩ rfl dL_law_264 (fun r_2 H_2 locs_2 p_2 hT_2 hk_2 hS_2 => ?_)
  refine th_topi (y := (-1)) (show ((-1) : Int32) = r_2 from p_2.2).symm ?_
  have hX_2 : va_X b 4 xs s H_2 := hX_1.kept (hS_2.2.1 b (Nat.not_le.mpr hbB))
  refine lv_icmp_eq (tgt := 766) hx hb dL_law_267 (by decide) (fun c_ => ?_) (fun c_ => absurd (by decide) c_)
  exact kk H_2 locs_2 hS_2.2.2 hX_2
set_option maxHeartbeats 4000000 in
set_option maxRecDepth 100000 in
theorem w_say_5 (E : EE p s m args c cL_law RL D cI cS) (hml : c.maxLocals = 4) (hl : lv_has ls 4 [(3, .int 0), (2, .ref (B + 178)), (1, .ref (B + 0)), (0, .ref b)]) (hWX : WF (tq B 0 178) (rq B)) (hWM : WF (tq B 178 186) (rq B)) (hTX : TH D cI cS (tq B 0 178) (rq B) H) (hFX : FX D B H) (hTM : TH D cI cS (tq B 178 186) (rq B) H) (hFM : FM D B H) (hX : va_X b 4 xs s H) (hbB : b < B) (hlo : ∀ x ∈ locs, B ≤ x.base) (h1 : xs 1 = 1) (g2 : (xs 2).toInt ≤ -1) (kk : KL p l e s m args below meth c ls Q B b xs) : WL p l e s m args below meth c H locs ls Q 239 := by
  have hx := E.1
  have hb := E.2.1
  have hτX := ttX B
  have hτM := ttM B
  refine lv_aload_n hx hb dL_law_239 rfl (lv_at hl 2 rfl) ?_
  refine lv_aload_n hx hb dL_law_240 rfl (lv_at hl 3 rfl) ?_
  refine lv_iload_n hx hb dL_law_241 rfl (lv_at hl 0 rfl) ?_
  refine lv_iconst (v := 1) hx hb dL_law_242 (by decide) ?_
  refine lv_iadd hx hb dL_law_243 ?_
  refine th_topi (y := 1) (by decide) ?_
  refine lw_sld (j := 1) hx hb hX (by decide) (by decide) (by decide) dL_law_244 ?_
  refine th_topi h1 ?_
  refine lv_aload_n hx hb dL_law_245 rfl (lv_at hl 3 rfl) ?_
  refine lv_iload_n hx hb dL_law_246 rfl (lv_at hl 0 rfl) ?_
  refine lv_iconst (v := 2) hx hb dL_law_247 (by decide) ?_
  refine lv_iadd hx hb dL_law_248 ?_
  refine th_topi (y := 2) (by decide) ?_
  refine lw_sld (j := 2) hx hb hX (by decide) (by decide) (by decide) dL_law_249 ?_
  refine th_Vi (A := fun q => B ≤ q) (As := [.int 1, .int (xs 2)]) (rest := []) E hml hl.1 (c_X11_say_v6 l D cI cS (tq B 0 178) (rq B) hWX H hTX (B + 0) (xs 2) hτX g2) lk_L_36 yd_X11_say hTX hτX rfl (by decide) ⟨rfl, fun _ _ => rfl, hlo⟩ (fun q h => h.elim) ⟨Nat.le_of_ble_eq_true rfl, Nat.le_of_ble_eq_true rfl⟩ (Nat.le_of_ble_eq_true rfl) ⟨Nat.le_of_ble_eq_true rfl, Nat.le_of_ble_eq_true rfl⟩ rfl dL_law_250 (fun r_1 H_1 locs_1 p_1 hT_1 hk_1 hS_1 => ?_)
  refine th_topi (y := (-1)) (show ((-1) : Int32) = r_1 from p_1.2).symm ?_
  have kM : ∀ q, B + 178 ≤ q → H_1[q]? = H[q]? := fun q hq => hk_1 q (fun h => h.elim)
  have hTM := hTM.same (H1 := H_1) (fun q t h => kM q (by obtain ⟨j, rfl, z1, -, -⟩ := tq_some h; omega))
  have hFM := hFM.kept (H1 := H_1) kM
  have hX_1 : va_X b 4 xs s H_1 := hX.kept (hS_1.2.1 b (Nat.not_le.mpr hbB))
  refine lv_aload_n hx hb dL_law_253 rfl (lv_at hl 1 rfl) ?_
  refine lv_aload_n hx hb dL_law_254 rfl (lv_at hl 3 rfl) ?_
  refine lv_iload_n hx hb dL_law_255 rfl (lv_at hl 0 rfl) ?_
  refine lv_iconst (v := 1) hx hb dL_law_256 (by decide) ?_
  refine lv_iadd hx hb dL_law_257 ?_
  refine th_topi (y := 1) (by decide) ?_
  refine lw_sld (j := 1) hx hb hX_1 (by decide) (by decide) (by decide) dL_law_258 ?_
  refine th_topi h1 ?_
  refine lv_aload_n hx hb dL_law_259 rfl (lv_at hl 3 rfl) ?_
  refine lv_iload_n hx hb dL_law_260 rfl (lv_at hl 0 rfl) ?_
  refine lv_iconst (v := 2) hx hb dL_law_261 (by decide) ?_
  refine lv_iadd hx hb dL_law_262 ?_
  refine th_topi (y := 2) (by decide) ?_
  refine lw_sld (j := 2) hx hb hX_1 (by decide) (by decide) (by decide) dL_law_263 ?_
  refine th_Vi (A := fun q => B ≤ q) (As := [.int 1, .int (xs 2)]) (rest := [.int (-1)]) E hml hl.1 (c_X12_say_v6 l D cI cS (tq B 178 186) (rq B) hWM H_1 hTM (B + 178) (xs 2) hτM g2) lk_L_39 yd_X12_say hTM hτM rfl (by decide) ⟨rfl, fun _ _ => rfl, hS_1.2.2⟩ (fun q h => h.elim) ⟨Nat.le_of_ble_eq_true rfl, Nat.le_of_ble_eq_true rfl⟩ (Nat.le_of_ble_eq_true rfl) ⟨Nat.le_of_ble_eq_true rfl, Nat.le_of_ble_eq_true rfl⟩ rfl dL_law_264 (fun r_2 H_2 locs_2 p_2 hT_2 hk_2 hS_2 => ?_)
  refine th_topi (y := (-1)) (show ((-1) : Int32) = r_2 from p_2.2).symm ?_
  have hX_2 : va_X b 4 xs s H_2 := hX_1.kept (hS_2.2.1 b (Nat.not_le.mpr hbB))
  refine lv_icmp_eq (tgt := 766) hx hb dL_law_267 (by decide) (fun c_ => ?_) (fun c_ => absurd (by decide) c_)
  exact kk H_2 locs_2 hS_2.2.2 hX_2
set_option maxHeartbeats 4000000 in
set_option maxRecDepth 100000 in
theorem w_say_6 (E : EE p s m args c cL_law RL D cI cS) (hml : c.maxLocals = 4) (hl : lv_has ls 4 [(3, .int 0), (2, .ref (B + 178)), (1, .ref (B + 0)), (0, .ref b)]) (hWX : WF (tq B 0 178) (rq B)) (hWM : WF (tq B 178 186) (rq B)) (hTX : TH D cI cS (tq B 0 178) (rq B) H) (hFX : FX D B H) (hTM : TH D cI cS (tq B 178 186) (rq B) H) (hFM : FM D B H) (hX : va_X b 4 xs s H) (hbB : b < B) (hlo : ∀ x ∈ locs, B ≤ x.base) (h1 : xs 1 = 1) (l2 : 0 ≤ (xs 2).toInt) (g2 : (xs 2).toInt ≤ 255) (kk : KL p l e s m args below meth c ls Q B b xs) : WL p l e s m args below meth c H locs ls Q 239 := by
  have hx := E.1
  have hb := E.2.1
  have hτX := ttX B
  have hτM := ttM B
  refine lv_aload_n hx hb dL_law_239 rfl (lv_at hl 2 rfl) ?_
  refine lv_aload_n hx hb dL_law_240 rfl (lv_at hl 3 rfl) ?_
  refine lv_iload_n hx hb dL_law_241 rfl (lv_at hl 0 rfl) ?_
  refine lv_iconst (v := 1) hx hb dL_law_242 (by decide) ?_
  refine lv_iadd hx hb dL_law_243 ?_
  refine th_topi (y := 1) (by decide) ?_
  refine lw_sld (j := 1) hx hb hX (by decide) (by decide) (by decide) dL_law_244 ?_
  refine th_topi h1 ?_
  refine lv_aload_n hx hb dL_law_245 rfl (lv_at hl 3 rfl) ?_
  refine lv_iload_n hx hb dL_law_246 rfl (lv_at hl 0 rfl) ?_
  refine lv_iconst (v := 2) hx hb dL_law_247 (by decide) ?_
  refine lv_iadd hx hb dL_law_248 ?_
  refine th_topi (y := 2) (by decide) ?_
  refine lw_sld (j := 2) hx hb hX (by decide) (by decide) (by decide) dL_law_249 ?_
  refine th_Vi (A := fun q => B ≤ q) (As := [.int 1, .int (xs 2)]) (rest := []) E hml hl.1 (c_X11_say_v7 l D cI cS (tq B 0 178) (rq B) hWX H hTX (B + 0) (xs 2) hτX l2 g2 hFX.2.2.2.2.2.2.2.2.2.2.2.2.2.2.2.2.2.2.2.2.2.2.2.2.2.2.2.2.2.2.2.2.2.2.2.2.2.2.2.2.2.2.2.2.2.2.2.2.2.2.2.2.1) lk_L_36 yd_X11_say hTX hτX rfl (by decide) ⟨rfl, fun _ _ => rfl, hlo⟩ (fun q h => h.elim) ⟨Nat.le_of_ble_eq_true rfl, Nat.le_of_ble_eq_true rfl⟩ (Nat.le_of_ble_eq_true rfl) ⟨Nat.le_of_ble_eq_true rfl, Nat.le_of_ble_eq_true rfl⟩ rfl dL_law_250 (fun r_1 H_1 locs_1 p_1 hT_1 hk_1 hS_1 => ?_)
  refine th_topi (y := (-2)) (show ((-2) : Int32) = r_1 from p_1.2).symm ?_
  have kM : ∀ q, B + 178 ≤ q → H_1[q]? = H[q]? := fun q hq => hk_1 q (fun h => h.elim)
  have hTM := hTM.same (H1 := H_1) (fun q t h => kM q (by obtain ⟨j, rfl, z1, -, -⟩ := tq_some h; omega))
  have hFM := hFM.kept (H1 := H_1) kM
  have hX_1 : va_X b 4 xs s H_1 := hX.kept (hS_1.2.1 b (Nat.not_le.mpr hbB))
  refine lv_aload_n hx hb dL_law_253 rfl (lv_at hl 1 rfl) ?_
  refine lv_aload_n hx hb dL_law_254 rfl (lv_at hl 3 rfl) ?_
  refine lv_iload_n hx hb dL_law_255 rfl (lv_at hl 0 rfl) ?_
  refine lv_iconst (v := 1) hx hb dL_law_256 (by decide) ?_
  refine lv_iadd hx hb dL_law_257 ?_
  refine th_topi (y := 1) (by decide) ?_
  refine lw_sld (j := 1) hx hb hX_1 (by decide) (by decide) (by decide) dL_law_258 ?_
  refine th_topi h1 ?_
  refine lv_aload_n hx hb dL_law_259 rfl (lv_at hl 3 rfl) ?_
  refine lv_iload_n hx hb dL_law_260 rfl (lv_at hl 0 rfl) ?_
  refine lv_iconst (v := 2) hx hb dL_law_261 (by decide) ?_
  refine lv_iadd hx hb dL_law_262 ?_
  refine th_topi (y := 2) (by decide) ?_
  refine lw_sld (j := 2) hx hb hX_1 (by decide) (by decide) (by decide) dL_law_263 ?_
  refine th_Vi (A := fun q => B ≤ q) (As := [.int 1, .int (xs 2)]) (rest := [.int (-2)]) E hml hl.1 (c_X12_say_v7 l D cI cS (tq B 178 186) (rq B) hWM H_1 hTM (B + 178) (xs 2) hτM l2 g2 ((hFM.2.2.2.2.1 288 (by decide)).trans (by decide))) lk_L_39 yd_X12_say hTM hτM rfl (by decide) ⟨rfl, fun _ _ => rfl, hS_1.2.2⟩ (fun q h => h.elim) ⟨Nat.le_of_ble_eq_true rfl, Nat.le_of_ble_eq_true rfl⟩ (Nat.le_of_ble_eq_true rfl) ⟨Nat.le_of_ble_eq_true rfl, Nat.le_of_ble_eq_true rfl⟩ rfl dL_law_264 (fun r_2 H_2 locs_2 p_2 hT_2 hk_2 hS_2 => ?_)
  refine th_topi (y := (-2)) (show ((-2) : Int32) = r_2 from p_2.2).symm ?_
  have hX_2 : va_X b 4 xs s H_2 := hX_1.kept (hS_2.2.1 b (Nat.not_le.mpr hbB))
  refine lv_icmp_eq (tgt := 766) hx hb dL_law_267 (by decide) (fun c_ => ?_) (fun c_ => absurd (by decide) c_)
  exact kk H_2 locs_2 hS_2.2.2 hX_2
set_option maxHeartbeats 4000000 in
set_option maxRecDepth 100000 in
theorem w_say_7 (E : EE p s m args c cL_law RL D cI cS) (hml : c.maxLocals = 4) (hl : lv_has ls 4 [(3, .int 0), (2, .ref (B + 178)), (1, .ref (B + 0)), (0, .ref b)]) (hWX : WF (tq B 0 178) (rq B)) (hWM : WF (tq B 178 186) (rq B)) (hTX : TH D cI cS (tq B 0 178) (rq B) H) (hFX : FX D B H) (hTM : TH D cI cS (tq B 178 186) (rq B) H) (hFM : FM D B H) (hX : va_X b 4 xs s H) (hbB : b < B) (hlo : ∀ x ∈ locs, B ≤ x.base) (h1 : xs 1 = 1) (l2 : 256 ≤ (xs 2).toInt) (kk : KL p l e s m args below meth c ls Q B b xs) : WL p l e s m args below meth c H locs ls Q 239 := by
  have hx := E.1
  have hb := E.2.1
  have hτX := ttX B
  have hτM := ttM B
  refine lv_aload_n hx hb dL_law_239 rfl (lv_at hl 2 rfl) ?_
  refine lv_aload_n hx hb dL_law_240 rfl (lv_at hl 3 rfl) ?_
  refine lv_iload_n hx hb dL_law_241 rfl (lv_at hl 0 rfl) ?_
  refine lv_iconst (v := 1) hx hb dL_law_242 (by decide) ?_
  refine lv_iadd hx hb dL_law_243 ?_
  refine th_topi (y := 1) (by decide) ?_
  refine lw_sld (j := 1) hx hb hX (by decide) (by decide) (by decide) dL_law_244 ?_
  refine th_topi h1 ?_
  refine lv_aload_n hx hb dL_law_245 rfl (lv_at hl 3 rfl) ?_
  refine lv_iload_n hx hb dL_law_246 rfl (lv_at hl 0 rfl) ?_
  refine lv_iconst (v := 2) hx hb dL_law_247 (by decide) ?_
  refine lv_iadd hx hb dL_law_248 ?_
  refine th_topi (y := 2) (by decide) ?_
  refine lw_sld (j := 2) hx hb hX (by decide) (by decide) (by decide) dL_law_249 ?_
  refine th_Vi (A := fun q => B ≤ q) (As := [.int 1, .int (xs 2)]) (rest := []) E hml hl.1 (c_X11_say_v8 l D cI cS (tq B 0 178) (rq B) hWX H hTX (B + 0) (xs 2) hτX l2) lk_L_36 yd_X11_say hTX hτX rfl (by decide) ⟨rfl, fun _ _ => rfl, hlo⟩ (fun q h => h.elim) ⟨Nat.le_of_ble_eq_true rfl, Nat.le_of_ble_eq_true rfl⟩ (Nat.le_of_ble_eq_true rfl) ⟨Nat.le_of_ble_eq_true rfl, Nat.le_of_ble_eq_true rfl⟩ rfl dL_law_250 (fun r_1 H_1 locs_1 p_1 hT_1 hk_1 hS_1 => ?_)
  refine th_topi (y := (-1)) (show ((-1) : Int32) = r_1 from p_1.2).symm ?_
  have kM : ∀ q, B + 178 ≤ q → H_1[q]? = H[q]? := fun q hq => hk_1 q (fun h => h.elim)
  have hTM := hTM.same (H1 := H_1) (fun q t h => kM q (by obtain ⟨j, rfl, z1, -, -⟩ := tq_some h; omega))
  have hFM := hFM.kept (H1 := H_1) kM
  have hX_1 : va_X b 4 xs s H_1 := hX.kept (hS_1.2.1 b (Nat.not_le.mpr hbB))
  refine lv_aload_n hx hb dL_law_253 rfl (lv_at hl 1 rfl) ?_
  refine lv_aload_n hx hb dL_law_254 rfl (lv_at hl 3 rfl) ?_
  refine lv_iload_n hx hb dL_law_255 rfl (lv_at hl 0 rfl) ?_
  refine lv_iconst (v := 1) hx hb dL_law_256 (by decide) ?_
  refine lv_iadd hx hb dL_law_257 ?_
  refine th_topi (y := 1) (by decide) ?_
  refine lw_sld (j := 1) hx hb hX_1 (by decide) (by decide) (by decide) dL_law_258 ?_
  refine th_topi h1 ?_
  refine lv_aload_n hx hb dL_law_259 rfl (lv_at hl 3 rfl) ?_
  refine lv_iload_n hx hb dL_law_260 rfl (lv_at hl 0 rfl) ?_
  refine lv_iconst (v := 2) hx hb dL_law_261 (by decide) ?_
  refine lv_iadd hx hb dL_law_262 ?_
  refine th_topi (y := 2) (by decide) ?_
  refine lw_sld (j := 2) hx hb hX_1 (by decide) (by decide) (by decide) dL_law_263 ?_
  refine th_Vi (A := fun q => B ≤ q) (As := [.int 1, .int (xs 2)]) (rest := [.int (-1)]) E hml hl.1 (c_X12_say_v8 l D cI cS (tq B 178 186) (rq B) hWM H_1 hTM (B + 178) (xs 2) hτM l2) lk_L_39 yd_X12_say hTM hτM rfl (by decide) ⟨rfl, fun _ _ => rfl, hS_1.2.2⟩ (fun q h => h.elim) ⟨Nat.le_of_ble_eq_true rfl, Nat.le_of_ble_eq_true rfl⟩ (Nat.le_of_ble_eq_true rfl) ⟨Nat.le_of_ble_eq_true rfl, Nat.le_of_ble_eq_true rfl⟩ rfl dL_law_264 (fun r_2 H_2 locs_2 p_2 hT_2 hk_2 hS_2 => ?_)
  refine th_topi (y := (-1)) (show ((-1) : Int32) = r_2 from p_2.2).symm ?_
  have hX_2 : va_X b 4 xs s H_2 := hX_1.kept (hS_2.2.1 b (Nat.not_le.mpr hbB))
  refine lv_icmp_eq (tgt := 766) hx hb dL_law_267 (by decide) (fun c_ => ?_) (fun c_ => absurd (by decide) c_)
  exact kk H_2 locs_2 hS_2.2.2 hX_2
theorem w_say (E : EE p s m args c cL_law RL D cI cS) (hml : c.maxLocals = 4) (hl : lv_has ls 4 [(3, .int 0), (2, .ref (B + 178)), (1, .ref (B + 0)), (0, .ref b)]) (hWX : WF (tq B 0 178) (rq B)) (hWM : WF (tq B 178 186) (rq B)) (hTX : TH D cI cS (tq B 0 178) (rq B) H) (hFX : FX D B H) (hTM : TH D cI cS (tq B 178 186) (rq B) H) (hFM : FM D B H) (hX : va_X b 4 xs s H) (hbB : b < B) (hlo : ∀ x ∈ locs, B ≤ x.base) (kk : KL p l e s m args below meth c ls Q B b xs) : WL p l e s m args below meth c H locs ls Q 239 := by
  rcases (show (xs 1).toInt ≤ -1 ∨ 2 ≤ (xs 1).toInt ∨ (xs 1).toInt = 0 ∨ (xs 1).toInt = 1 by omega) with g1 | l1 | t1 | t1
  · exact w_say_0 E hml hl hWX hWM hTX hFX hTM hFM hX hbB hlo g1 kk
  · exact w_say_1 E hml hl hWX hWM hTX hFX hTM hFM hX hbB hlo l1 kk
  · have h1 : xs 1 = 0 := i_eq t1 (by decide)
    rcases (show (xs 2).toInt ≤ -1 ∨ (0 ≤ (xs 2).toInt ∧ (xs 2).toInt ≤ 255) ∨ 256 ≤ (xs 2).toInt by omega) with g2 | ⟨l2, g2⟩ | l2
    · exact w_say_2 E hml hl hWX hWM hTX hFX hTM hFM hX hbB hlo h1 g2 kk
    · exact w_say_3 E hml hl hWX hWM hTX hFX hTM hFM hX hbB hlo h1 l2 g2 kk
    · exact w_say_4 E hml hl hWX hWM hTX hFX hTM hFM hX hbB hlo h1 l2 kk
  · have h1 : xs 1 = 1 := i_eq t1 (by decide)
    rcases (show (xs 2).toInt ≤ -1 ∨ (0 ≤ (xs 2).toInt ∧ (xs 2).toInt ≤ 255) ∨ 256 ≤ (xs 2).toInt by omega) with g2 | ⟨l2, g2⟩ | l2
    · exact w_say_5 E hml hl hWX hWM hTX hFX hTM hFM hX hbB hlo h1 g2 kk
    · exact w_say_6 E hml hl hWX hWM hTX hFX hTM hFM hX hbB hlo h1 l2 g2 kk
    · exact w_say_7 E hml hl hWX hWM hTX hFX hTM hFM hX hbB hlo h1 l2 kk
set_option maxHeartbeats 4000000 in
set_option maxRecDepth 100000 in
theorem w_cry_0 (E : EE p s m args c cL_law RL D cI cS) (hml : c.maxLocals = 4) (hl : lv_has ls 4 [(3, .int 0), (2, .ref (B + 178)), (1, .ref (B + 0)), (0, .ref b)]) (hWX : WF (tq B 0 178) (rq B)) (hWM : WF (tq B 178 186) (rq B)) (hTX : TH D cI cS (tq B 0 178) (rq B) H) (hFX : FX D B H) (hTM : TH D cI cS (tq B 178 186) (rq B) H) (hFM : FM D B H) (hX : va_X b 4 xs s H) (hbB : b < B) (hlo : ∀ x ∈ locs, B ≤ x.base) (g1 : (xs 1).toInt ≤ -1) (kk : KL p l e s m args below meth c ls Q B b xs) : WL p l e s m args below meth c H locs ls Q 272 := by
  have hx := E.1
  have hb := E.2.1
  have hτX := ttX B
  have hτM := ttM B
  refine lv_aload_n hx hb dL_law_272 rfl (lv_at hl 2 rfl) ?_
  refine lv_aload_n hx hb dL_law_273 rfl (lv_at hl 3 rfl) ?_
  refine lv_iload_n hx hb dL_law_274 rfl (lv_at hl 0 rfl) ?_
  refine lv_iconst (v := 1) hx hb dL_law_275 (by decide) ?_
  refine lv_iadd hx hb dL_law_276 ?_
  refine th_topi (y := 1) (by decide) ?_
  refine lw_sld (j := 1) hx hb hX (by decide) (by decide) (by decide) dL_law_277 ?_
  refine th_Vi (A := fun q => B ≤ q) (As := [.int (xs 1)]) (rest := []) E hml hl.1 (c_X11_cry l D cI cS (tq B 0 178) (rq B) hWX H hTX (B + 0) (xs 1) hτX g1) lk_L_40 yd_X11_cry hTX hτX rfl (by decide) ⟨rfl, fun _ _ => rfl, hlo⟩ (fun q h => h.elim) ⟨Nat.le_of_ble_eq_true rfl, Nat.le_of_ble_eq_true rfl⟩ (Nat.le_of_ble_eq_true rfl) ⟨Nat.le_of_ble_eq_true rfl, Nat.le_of_ble_eq_true rfl⟩ rfl dL_law_278 (fun r_1 H_1 locs_1 p_1 hT_1 hk_1 hS_1 => ?_)
  refine th_topi (y := (-1)) (show ((-1) : Int32) = r_1 from p_1.2).symm ?_
  have kM : ∀ q, B + 178 ≤ q → H_1[q]? = H[q]? := fun q hq => hk_1 q (fun h => h.elim)
  have hTM := hTM.same (H1 := H_1) (fun q t h => kM q (by obtain ⟨j, rfl, z1, -, -⟩ := tq_some h; omega))
  have hFM := hFM.kept (H1 := H_1) kM
  have hX_1 : va_X b 4 xs s H_1 := hX.kept (hS_1.2.1 b (Nat.not_le.mpr hbB))
  refine lv_aload_n hx hb dL_law_281 rfl (lv_at hl 1 rfl) ?_
  refine lv_aload_n hx hb dL_law_282 rfl (lv_at hl 3 rfl) ?_
  refine lv_iload_n hx hb dL_law_283 rfl (lv_at hl 0 rfl) ?_
  refine lv_iconst (v := 1) hx hb dL_law_284 (by decide) ?_
  refine lv_iadd hx hb dL_law_285 ?_
  refine th_topi (y := 1) (by decide) ?_
  refine lw_sld (j := 1) hx hb hX_1 (by decide) (by decide) (by decide) dL_law_286 ?_
  refine th_Vi (A := fun q => B ≤ q) (As := [.int (xs 1)]) (rest := [.int (-1)]) E hml hl.1 (c_X12_cry l D cI cS (tq B 178 186) (rq B) hWM H_1 hTM (B + 178) (xs 1) hτM g1) lk_L_43 yd_X12_cry hTM hτM rfl (by decide) ⟨rfl, fun _ _ => rfl, hS_1.2.2⟩ (fun q h => h.elim) ⟨Nat.le_of_ble_eq_true rfl, Nat.le_of_ble_eq_true rfl⟩ (Nat.le_of_ble_eq_true rfl) ⟨Nat.le_of_ble_eq_true rfl, Nat.le_of_ble_eq_true rfl⟩ rfl dL_law_287 (fun r_2 H_2 locs_2 p_2 hT_2 hk_2 hS_2 => ?_)
  refine th_topi (y := (-1)) (show ((-1) : Int32) = r_2 from p_2.2).symm ?_
  have hX_2 : va_X b 4 xs s H_2 := hX_1.kept (hS_2.2.1 b (Nat.not_le.mpr hbB))
  refine lv_icmp_eq (tgt := 766) hx hb dL_law_290 (by decide) (fun c_ => ?_) (fun c_ => absurd (by decide) c_)
  exact kk H_2 locs_2 hS_2.2.2 hX_2
set_option maxHeartbeats 4000000 in
set_option maxRecDepth 100000 in
theorem w_cry_1 (E : EE p s m args c cL_law RL D cI cS) (hml : c.maxLocals = 4) (hl : lv_has ls 4 [(3, .int 0), (2, .ref (B + 178)), (1, .ref (B + 0)), (0, .ref b)]) (hWX : WF (tq B 0 178) (rq B)) (hWM : WF (tq B 178 186) (rq B)) (hTX : TH D cI cS (tq B 0 178) (rq B) H) (hFX : FX D B H) (hTM : TH D cI cS (tq B 178 186) (rq B) H) (hFM : FM D B H) (hX : va_X b 4 xs s H) (hbB : b < B) (hlo : ∀ x ∈ locs, B ≤ x.base) (l1 : 2 ≤ (xs 1).toInt) (kk : KL p l e s m args below meth c ls Q B b xs) : WL p l e s m args below meth c H locs ls Q 272 := by
  have hx := E.1
  have hb := E.2.1
  have hτX := ttX B
  have hτM := ttM B
  refine lv_aload_n hx hb dL_law_272 rfl (lv_at hl 2 rfl) ?_
  refine lv_aload_n hx hb dL_law_273 rfl (lv_at hl 3 rfl) ?_
  refine lv_iload_n hx hb dL_law_274 rfl (lv_at hl 0 rfl) ?_
  refine lv_iconst (v := 1) hx hb dL_law_275 (by decide) ?_
  refine lv_iadd hx hb dL_law_276 ?_
  refine th_topi (y := 1) (by decide) ?_
  refine lw_sld (j := 1) hx hb hX (by decide) (by decide) (by decide) dL_law_277 ?_
  refine th_Vi (A := fun q => B ≤ q) (As := [.int (xs 1)]) (rest := []) E hml hl.1 (c_X11_cry_v2 l D cI cS (tq B 0 178) (rq B) hWX H hTX (B + 0) (xs 1) hτX l1) lk_L_40 yd_X11_cry hTX hτX rfl (by decide) ⟨rfl, fun _ _ => rfl, hlo⟩ (fun q h => h.elim) ⟨Nat.le_of_ble_eq_true rfl, Nat.le_of_ble_eq_true rfl⟩ (Nat.le_of_ble_eq_true rfl) ⟨Nat.le_of_ble_eq_true rfl, Nat.le_of_ble_eq_true rfl⟩ rfl dL_law_278 (fun r_1 H_1 locs_1 p_1 hT_1 hk_1 hS_1 => ?_)
  refine th_topi (y := (-1)) (show ((-1) : Int32) = r_1 from p_1.2).symm ?_
  have kM : ∀ q, B + 178 ≤ q → H_1[q]? = H[q]? := fun q hq => hk_1 q (fun h => h.elim)
  have hTM := hTM.same (H1 := H_1) (fun q t h => kM q (by obtain ⟨j, rfl, z1, -, -⟩ := tq_some h; omega))
  have hFM := hFM.kept (H1 := H_1) kM
  have hX_1 : va_X b 4 xs s H_1 := hX.kept (hS_1.2.1 b (Nat.not_le.mpr hbB))
  refine lv_aload_n hx hb dL_law_281 rfl (lv_at hl 1 rfl) ?_
  refine lv_aload_n hx hb dL_law_282 rfl (lv_at hl 3 rfl) ?_
  refine lv_iload_n hx hb dL_law_283 rfl (lv_at hl 0 rfl) ?_
  refine lv_iconst (v := 1) hx hb dL_law_284 (by decide) ?_
  refine lv_iadd hx hb dL_law_285 ?_
  refine th_topi (y := 1) (by decide) ?_
  refine lw_sld (j := 1) hx hb hX_1 (by decide) (by decide) (by decide) dL_law_286 ?_
  refine th_Vi (A := fun q => B ≤ q) (As := [.int (xs 1)]) (rest := [.int (-1)]) E hml hl.1 (c_X12_cry_v2 l D cI cS (tq B 178 186) (rq B) hWM H_1 hTM (B + 178) (xs 1) hτM l1) lk_L_43 yd_X12_cry hTM hτM rfl (by decide) ⟨rfl, fun _ _ => rfl, hS_1.2.2⟩ (fun q h => h.elim) ⟨Nat.le_of_ble_eq_true rfl, Nat.le_of_ble_eq_true rfl⟩ (Nat.le_of_ble_eq_true rfl) ⟨Nat.le_of_ble_eq_true rfl, Nat.le_of_ble_eq_true rfl⟩ rfl dL_law_287 (fun r_2 H_2 locs_2 p_2 hT_2 hk_2 hS_2 => ?_)
  refine th_topi (y := (-1)) (show ((-1) : Int32) = r_2 from p_2.2).symm ?_
  have hX_2 : va_X b 4 xs s H_2 := hX_1.kept (hS_2.2.1 b (Nat.not_le.mpr hbB))
  refine lv_icmp_eq (tgt := 766) hx hb dL_law_290 (by decide) (fun c_ => ?_) (fun c_ => absurd (by decide) c_)
  exact kk H_2 locs_2 hS_2.2.2 hX_2
set_option maxHeartbeats 4000000 in
set_option maxRecDepth 100000 in
theorem w_cry_2 (E : EE p s m args c cL_law RL D cI cS) (hml : c.maxLocals = 4) (hl : lv_has ls 4 [(3, .int 0), (2, .ref (B + 178)), (1, .ref (B + 0)), (0, .ref b)]) (hWX : WF (tq B 0 178) (rq B)) (hWM : WF (tq B 178 186) (rq B)) (hTX : TH D cI cS (tq B 0 178) (rq B) H) (hFX : FX D B H) (hTM : TH D cI cS (tq B 178 186) (rq B) H) (hFM : FM D B H) (hX : va_X b 4 xs s H) (hbB : b < B) (hlo : ∀ x ∈ locs, B ≤ x.base) (h1 : xs 1 = 0) (kk : KL p l e s m args below meth c ls Q B b xs) : WL p l e s m args below meth c H locs ls Q 272 := by
  have hx := E.1
  have hb := E.2.1
  have hτX := ttX B
  have hτM := ttM B
  refine lv_aload_n hx hb dL_law_272 rfl (lv_at hl 2 rfl) ?_
  refine lv_aload_n hx hb dL_law_273 rfl (lv_at hl 3 rfl) ?_
  refine lv_iload_n hx hb dL_law_274 rfl (lv_at hl 0 rfl) ?_
  refine lv_iconst (v := 1) hx hb dL_law_275 (by decide) ?_
  refine lv_iadd hx hb dL_law_276 ?_
  refine th_topi (y := 1) (by decide) ?_
  refine lw_sld (j := 1) hx hb hX (by decide) (by decide) (by decide) dL_law_277 ?_
  refine th_topi h1 ?_
  refine th_Vi (A := fun q => B ≤ q) (As := [.int 0]) (rest := []) E hml hl.1 (c_X11_cry_v3 l D cI cS (tq B 0 178) (rq B) hWX H hTX (B + 0) hτX hFX.2.2.2.2.2.2.2.2.2.2.2.2.2.2.2.2.2.2.2.2.2.2.2.2.2.2.2.2.2.2.1) lk_L_40 yd_X11_cry hTX hτX rfl (by decide) ⟨rfl, fun _ _ => rfl, hlo⟩ (fun q h => h.elim) ⟨Nat.le_of_ble_eq_true rfl, Nat.le_of_ble_eq_true rfl⟩ (Nat.le_of_ble_eq_true rfl) ⟨Nat.le_of_ble_eq_true rfl, Nat.le_of_ble_eq_true rfl⟩ rfl dL_law_278 (fun r_1 H_1 locs_1 p_1 hT_1 hk_1 hS_1 => ?_)
  refine th_topi (y := (-2)) (show ((-2) : Int32) = r_1 from p_1.2).symm ?_
  have kM : ∀ q, B + 178 ≤ q → H_1[q]? = H[q]? := fun q hq => hk_1 q (fun h => h.elim)
  have hTM := hTM.same (H1 := H_1) (fun q t h => kM q (by obtain ⟨j, rfl, z1, -, -⟩ := tq_some h; omega))
  have hFM := hFM.kept (H1 := H_1) kM
  have hX_1 : va_X b 4 xs s H_1 := hX.kept (hS_1.2.1 b (Nat.not_le.mpr hbB))
  refine lv_aload_n hx hb dL_law_281 rfl (lv_at hl 1 rfl) ?_
  refine lv_aload_n hx hb dL_law_282 rfl (lv_at hl 3 rfl) ?_
  refine lv_iload_n hx hb dL_law_283 rfl (lv_at hl 0 rfl) ?_
  refine lv_iconst (v := 1) hx hb dL_law_284 (by decide) ?_
  refine lv_iadd hx hb dL_law_285 ?_
  refine th_topi (y := 1) (by decide) ?_
  refine lw_sld (j := 1) hx hb hX_1 (by decide) (by decide) (by decide) dL_law_286 ?_
  refine th_topi h1 ?_
  refine th_Vi (A := fun q => B ≤ q) (As := [.int 0]) (rest := [.int (-2)]) E hml hl.1 (c_X12_cry_v3 l D cI cS (tq B 178 186) (rq B) hWM H_1 hTM (B + 178) hτM ((hFM.2.2.2.2.1 0 (by decide)).trans (by decide))) lk_L_43 yd_X12_cry hTM hτM rfl (by decide) ⟨rfl, fun _ _ => rfl, hS_1.2.2⟩ (fun q h => h.elim) ⟨Nat.le_of_ble_eq_true rfl, Nat.le_of_ble_eq_true rfl⟩ (Nat.le_of_ble_eq_true rfl) ⟨Nat.le_of_ble_eq_true rfl, Nat.le_of_ble_eq_true rfl⟩ rfl dL_law_287 (fun r_2 H_2 locs_2 p_2 hT_2 hk_2 hS_2 => ?_)
  refine th_topi (y := (-2)) (show ((-2) : Int32) = r_2 from p_2.2).symm ?_
  have hX_2 : va_X b 4 xs s H_2 := hX_1.kept (hS_2.2.1 b (Nat.not_le.mpr hbB))
  refine lv_icmp_eq (tgt := 766) hx hb dL_law_290 (by decide) (fun c_ => ?_) (fun c_ => absurd (by decide) c_)
  exact kk H_2 locs_2 hS_2.2.2 hX_2
set_option maxHeartbeats 4000000 in
set_option maxRecDepth 100000 in
theorem w_cry_3 (E : EE p s m args c cL_law RL D cI cS) (hml : c.maxLocals = 4) (hl : lv_has ls 4 [(3, .int 0), (2, .ref (B + 178)), (1, .ref (B + 0)), (0, .ref b)]) (hWX : WF (tq B 0 178) (rq B)) (hWM : WF (tq B 178 186) (rq B)) (hTX : TH D cI cS (tq B 0 178) (rq B) H) (hFX : FX D B H) (hTM : TH D cI cS (tq B 178 186) (rq B) H) (hFM : FM D B H) (hX : va_X b 4 xs s H) (hbB : b < B) (hlo : ∀ x ∈ locs, B ≤ x.base) (h1 : xs 1 = 1) (kk : KL p l e s m args below meth c ls Q B b xs) : WL p l e s m args below meth c H locs ls Q 272 := by
  have hx := E.1
  have hb := E.2.1
  have hτX := ttX B
  have hτM := ttM B
  refine lv_aload_n hx hb dL_law_272 rfl (lv_at hl 2 rfl) ?_
  refine lv_aload_n hx hb dL_law_273 rfl (lv_at hl 3 rfl) ?_
  refine lv_iload_n hx hb dL_law_274 rfl (lv_at hl 0 rfl) ?_
  refine lv_iconst (v := 1) hx hb dL_law_275 (by decide) ?_
  refine lv_iadd hx hb dL_law_276 ?_
  refine th_topi (y := 1) (by decide) ?_
  refine lw_sld (j := 1) hx hb hX (by decide) (by decide) (by decide) dL_law_277 ?_
  refine th_topi h1 ?_
  refine th_Vi (A := fun q => B ≤ q) (As := [.int 1]) (rest := []) E hml hl.1 (c_X11_cry_v4 l D cI cS (tq B 0 178) (rq B) hWX H hTX (B + 0) hτX hFX.2.2.2.2.2.2.2.2.2.2.2.2.2.2.2.2.2.2.2.2.2.2.2.2.2.2.2.2.2.2.2.2.2.2.2.2.2.2.2.2.2.2.2.2.2.2.2.2.2.2.2.2.1) lk_L_40 yd_X11_cry hTX hτX rfl (by decide) ⟨rfl, fun _ _ => rfl, hlo⟩ (fun q h => h.elim) ⟨Nat.le_of_ble_eq_true rfl, Nat.le_of_ble_eq_true rfl⟩ (Nat.le_of_ble_eq_true rfl) ⟨Nat.le_of_ble_eq_true rfl, Nat.le_of_ble_eq_true rfl⟩ rfl dL_law_278 (fun r_1 H_1 locs_1 p_1 hT_1 hk_1 hS_1 => ?_)
  refine th_topi (y := (-2)) (show ((-2) : Int32) = r_1 from p_1.2).symm ?_
  have kM : ∀ q, B + 178 ≤ q → H_1[q]? = H[q]? := fun q hq => hk_1 q (fun h => h.elim)
  have hTM := hTM.same (H1 := H_1) (fun q t h => kM q (by obtain ⟨j, rfl, z1, -, -⟩ := tq_some h; omega))
  have hFM := hFM.kept (H1 := H_1) kM
  have hX_1 : va_X b 4 xs s H_1 := hX.kept (hS_1.2.1 b (Nat.not_le.mpr hbB))
  refine lv_aload_n hx hb dL_law_281 rfl (lv_at hl 1 rfl) ?_
  refine lv_aload_n hx hb dL_law_282 rfl (lv_at hl 3 rfl) ?_
  refine lv_iload_n hx hb dL_law_283 rfl (lv_at hl 0 rfl) ?_
  refine lv_iconst (v := 1) hx hb dL_law_284 (by decide) ?_
  refine lv_iadd hx hb dL_law_285 ?_
  refine th_topi (y := 1) (by decide) ?_
  refine lw_sld (j := 1) hx hb hX_1 (by decide) (by decide) (by decide) dL_law_286 ?_
  refine th_topi h1 ?_
  refine th_Vi (A := fun q => B ≤ q) (As := [.int 1]) (rest := [.int (-2)]) E hml hl.1 (c_X12_cry_v4 l D cI cS (tq B 178 186) (rq B) hWM H_1 hTM (B + 178) hτM ((hFM.2.2.2.2.1 288 (by decide)).trans (by decide))) lk_L_43 yd_X12_cry hTM hτM rfl (by decide) ⟨rfl, fun _ _ => rfl, hS_1.2.2⟩ (fun q h => h.elim) ⟨Nat.le_of_ble_eq_true rfl, Nat.le_of_ble_eq_true rfl⟩ (Nat.le_of_ble_eq_true rfl) ⟨Nat.le_of_ble_eq_true rfl, Nat.le_of_ble_eq_true rfl⟩ rfl dL_law_287 (fun r_2 H_2 locs_2 p_2 hT_2 hk_2 hS_2 => ?_)
  refine th_topi (y := (-2)) (show ((-2) : Int32) = r_2 from p_2.2).symm ?_
  have hX_2 : va_X b 4 xs s H_2 := hX_1.kept (hS_2.2.1 b (Nat.not_le.mpr hbB))
  refine lv_icmp_eq (tgt := 766) hx hb dL_law_290 (by decide) (fun c_ => ?_) (fun c_ => absurd (by decide) c_)
  exact kk H_2 locs_2 hS_2.2.2 hX_2
theorem w_cry (E : EE p s m args c cL_law RL D cI cS) (hml : c.maxLocals = 4) (hl : lv_has ls 4 [(3, .int 0), (2, .ref (B + 178)), (1, .ref (B + 0)), (0, .ref b)]) (hWX : WF (tq B 0 178) (rq B)) (hWM : WF (tq B 178 186) (rq B)) (hTX : TH D cI cS (tq B 0 178) (rq B) H) (hFX : FX D B H) (hTM : TH D cI cS (tq B 178 186) (rq B) H) (hFM : FM D B H) (hX : va_X b 4 xs s H) (hbB : b < B) (hlo : ∀ x ∈ locs, B ≤ x.base) (kk : KL p l e s m args below meth c ls Q B b xs) : WL p l e s m args below meth c H locs ls Q 272 := by
  rcases (show (xs 1).toInt ≤ -1 ∨ 2 ≤ (xs 1).toInt ∨ (xs 1).toInt = 0 ∨ (xs 1).toInt = 1 by omega) with g1 | l1 | t1 | t1
  · exact w_cry_0 E hml hl hWX hWM hTX hFX hTM hFM hX hbB hlo g1 kk
  · exact w_cry_1 E hml hl hWX hWM hTX hFX hTM hFM hX hbB hlo l1 kk
  · have h1 : xs 1 = 0 := i_eq t1 (by decide)
    exact w_cry_2 E hml hl hWX hWM hTX hFX hTM hFM hX hbB hlo h1 kk
  · have h1 : xs 1 = 1 := i_eq t1 (by decide)
    exact w_cry_3 E hml hl hWX hWM hTX hFX hTM hFM hX hbB hlo h1 kk
set_option maxHeartbeats 4000000 in
set_option maxRecDepth 100000 in
theorem w_leave_0 (E : EE p s m args c cL_law RL D cI cS) (hml : c.maxLocals = 4) (hl : lv_has ls 4 [(3, .int 0), (2, .ref (B + 178)), (1, .ref (B + 0)), (0, .ref b)]) (hWX : WF (tq B 0 178) (rq B)) (hWM : WF (tq B 178 186) (rq B)) (hTX : TH D cI cS (tq B 0 178) (rq B) H) (hFX : FX D B H) (hTM : TH D cI cS (tq B 178 186) (rq B) H) (hFM : FM D B H) (hX : va_X b 4 xs s H) (hbB : b < B) (hlo : ∀ x ∈ locs, B ≤ x.base) (g1 : (xs 1).toInt ≤ -1) (kk : KL p l e s m args below meth c ls Q B b xs) : WL p l e s m args below meth c H locs ls Q 295 := by
  have hx := E.1
  have hb := E.2.1
  have hτX := ttX B
  have hτM := ttM B
  refine lv_aload_n hx hb dL_law_295 rfl (lv_at hl 2 rfl) ?_
  refine lv_aload_n hx hb dL_law_296 rfl (lv_at hl 3 rfl) ?_
  refine lv_iload_n hx hb dL_law_297 rfl (lv_at hl 0 rfl) ?_
  refine lv_iconst (v := 1) hx hb dL_law_298 (by decide) ?_
  refine lv_iadd hx hb dL_law_299 ?_
  refine th_topi (y := 1) (by decide) ?_
  refine lw_sld (j := 1) hx hb hX (by decide) (by decide) (by decide) dL_law_300 ?_
  refine th_Vi (A := fun q => B ≤ q) (As := [.int (xs 1)]) (rest := []) E hml hl.1 (c_X11_leave l D cI cS (tq B 0 178) (rq B) hWX H hTX (B + 0) (xs 1) hτX g1) lk_L_44 yd_X11_leave hTX hτX rfl (by decide) ⟨rfl, fun _ _ => rfl, hlo⟩ (fun q h => h.elim) ⟨Nat.le_of_ble_eq_true rfl, Nat.le_of_ble_eq_true rfl⟩ (Nat.le_of_ble_eq_true rfl) ⟨Nat.le_of_ble_eq_true rfl, Nat.le_of_ble_eq_true rfl⟩ rfl dL_law_301 (fun r_1 H_1 locs_1 p_1 hT_1 hk_1 hS_1 => ?_)
  refine th_topi (y := (-1)) (show ((-1) : Int32) = r_1 from p_1.2).symm ?_
  have kM : ∀ q, B + 178 ≤ q → H_1[q]? = H[q]? := fun q hq => hk_1 q (fun h => h.elim)
  have hTM := hTM.same (H1 := H_1) (fun q t h => kM q (by obtain ⟨j, rfl, z1, -, -⟩ := tq_some h; omega))
  have hFM := hFM.kept (H1 := H_1) kM
  have hX_1 : va_X b 4 xs s H_1 := hX.kept (hS_1.2.1 b (Nat.not_le.mpr hbB))
  refine lv_aload_n hx hb dL_law_304 rfl (lv_at hl 1 rfl) ?_
  refine lv_aload_n hx hb dL_law_305 rfl (lv_at hl 3 rfl) ?_
  refine lv_iload_n hx hb dL_law_306 rfl (lv_at hl 0 rfl) ?_
  refine lv_iconst (v := 1) hx hb dL_law_307 (by decide) ?_
  refine lv_iadd hx hb dL_law_308 ?_
  refine th_topi (y := 1) (by decide) ?_
  refine lw_sld (j := 1) hx hb hX_1 (by decide) (by decide) (by decide) dL_law_309 ?_
  refine th_Vi (A := fun q => B ≤ q) (As := [.int (xs 1)]) (rest := [.int (-1)]) E hml hl.1 (c_X12_leave l D cI cS (tq B 178 186) (rq B) hWM H_1 hTM (B + 178) (xs 1) hτM g1) lk_L_47 yd_X12_leave hTM hτM rfl (by decide) ⟨rfl, fun _ _ => rfl, hS_1.2.2⟩ (fun q h => h.elim) ⟨Nat.le_of_ble_eq_true rfl, Nat.le_of_ble_eq_true rfl⟩ (Nat.le_of_ble_eq_true rfl) ⟨Nat.le_of_ble_eq_true rfl, Nat.le_of_ble_eq_true rfl⟩ rfl dL_law_310 (fun r_2 H_2 locs_2 p_2 hT_2 hk_2 hS_2 => ?_)
  refine th_topi (y := (-1)) (show ((-1) : Int32) = r_2 from p_2.2).symm ?_
  have hX_2 : va_X b 4 xs s H_2 := hX_1.kept (hS_2.2.1 b (Nat.not_le.mpr hbB))
  refine lv_icmp_eq (tgt := 766) hx hb dL_law_313 (by decide) (fun c_ => ?_) (fun c_ => absurd (by decide) c_)
  exact kk H_2 locs_2 hS_2.2.2 hX_2
set_option maxHeartbeats 4000000 in
set_option maxRecDepth 100000 in
theorem w_leave_1 (E : EE p s m args c cL_law RL D cI cS) (hml : c.maxLocals = 4) (hl : lv_has ls 4 [(3, .int 0), (2, .ref (B + 178)), (1, .ref (B + 0)), (0, .ref b)]) (hWX : WF (tq B 0 178) (rq B)) (hWM : WF (tq B 178 186) (rq B)) (hTX : TH D cI cS (tq B 0 178) (rq B) H) (hFX : FX D B H) (hTM : TH D cI cS (tq B 178 186) (rq B) H) (hFM : FM D B H) (hX : va_X b 4 xs s H) (hbB : b < B) (hlo : ∀ x ∈ locs, B ≤ x.base) (l1 : 2 ≤ (xs 1).toInt) (kk : KL p l e s m args below meth c ls Q B b xs) : WL p l e s m args below meth c H locs ls Q 295 := by
  have hx := E.1
  have hb := E.2.1
  have hτX := ttX B
  have hτM := ttM B
  refine lv_aload_n hx hb dL_law_295 rfl (lv_at hl 2 rfl) ?_
  refine lv_aload_n hx hb dL_law_296 rfl (lv_at hl 3 rfl) ?_
  refine lv_iload_n hx hb dL_law_297 rfl (lv_at hl 0 rfl) ?_
  refine lv_iconst (v := 1) hx hb dL_law_298 (by decide) ?_
  refine lv_iadd hx hb dL_law_299 ?_
  refine th_topi (y := 1) (by decide) ?_
  refine lw_sld (j := 1) hx hb hX (by decide) (by decide) (by decide) dL_law_300 ?_
  refine th_Vi (A := fun q => B ≤ q) (As := [.int (xs 1)]) (rest := []) E hml hl.1 (c_X11_leave_v2 l D cI cS (tq B 0 178) (rq B) hWX H hTX (B + 0) (xs 1) hτX l1) lk_L_44 yd_X11_leave hTX hτX rfl (by decide) ⟨rfl, fun _ _ => rfl, hlo⟩ (fun q h => h.elim) ⟨Nat.le_of_ble_eq_true rfl, Nat.le_of_ble_eq_true rfl⟩ (Nat.le_of_ble_eq_true rfl) ⟨Nat.le_of_ble_eq_true rfl, Nat.le_of_ble_eq_true rfl⟩ rfl dL_law_301 (fun r_1 H_1 locs_1 p_1 hT_1 hk_1 hS_1 => ?_)
  refine th_topi (y := (-1)) (show ((-1) : Int32) = r_1 from p_1.2).symm ?_
  have kM : ∀ q, B + 178 ≤ q → H_1[q]? = H[q]? := fun q hq => hk_1 q (fun h => h.elim)
  have hTM := hTM.same (H1 := H_1) (fun q t h => kM q (by obtain ⟨j, rfl, z1, -, -⟩ := tq_some h; omega))
  have hFM := hFM.kept (H1 := H_1) kM
  have hX_1 : va_X b 4 xs s H_1 := hX.kept (hS_1.2.1 b (Nat.not_le.mpr hbB))
  refine lv_aload_n hx hb dL_law_304 rfl (lv_at hl 1 rfl) ?_
  refine lv_aload_n hx hb dL_law_305 rfl (lv_at hl 3 rfl) ?_
  refine lv_iload_n hx hb dL_law_306 rfl (lv_at hl 0 rfl) ?_
  refine lv_iconst (v := 1) hx hb dL_law_307 (by decide) ?_
  refine lv_iadd hx hb dL_law_308 ?_
  refine th_topi (y := 1) (by decide) ?_
  refine lw_sld (j := 1) hx hb hX_1 (by decide) (by decide) (by decide) dL_law_309 ?_
  refine th_Vi (A := fun q => B ≤ q) (As := [.int (xs 1)]) (rest := [.int (-1)]) E hml hl.1 (c_X12_leave_v2 l D cI cS (tq B 178 186) (rq B) hWM H_1 hTM (B + 178) (xs 1) hτM l1) lk_L_47 yd_X12_leave hTM hτM rfl (by decide) ⟨rfl, fun _ _ => rfl, hS_1.2.2⟩ (fun q h => h.elim) ⟨Nat.le_of_ble_eq_true rfl, Nat.le_of_ble_eq_true rfl⟩ (Nat.le_of_ble_eq_true rfl) ⟨Nat.le_of_ble_eq_true rfl, Nat.le_of_ble_eq_true rfl⟩ rfl dL_law_310 (fun r_2 H_2 locs_2 p_2 hT_2 hk_2 hS_2 => ?_)
  refine th_topi (y := (-1)) (show ((-1) : Int32) = r_2 from p_2.2).symm ?_
  have hX_2 : va_X b 4 xs s H_2 := hX_1.kept (hS_2.2.1 b (Nat.not_le.mpr hbB))
  refine lv_icmp_eq (tgt := 766) hx hb dL_law_313 (by decide) (fun c_ => ?_) (fun c_ => absurd (by decide) c_)
  exact kk H_2 locs_2 hS_2.2.2 hX_2
set_option maxHeartbeats 4000000 in
set_option maxRecDepth 100000 in
theorem w_leave_2 (E : EE p s m args c cL_law RL D cI cS) (hml : c.maxLocals = 4) (hl : lv_has ls 4 [(3, .int 0), (2, .ref (B + 178)), (1, .ref (B + 0)), (0, .ref b)]) (hWX : WF (tq B 0 178) (rq B)) (hWM : WF (tq B 178 186) (rq B)) (hTX : TH D cI cS (tq B 0 178) (rq B) H) (hFX : FX D B H) (hTM : TH D cI cS (tq B 178 186) (rq B) H) (hFM : FM D B H) (hX : va_X b 4 xs s H) (hbB : b < B) (hlo : ∀ x ∈ locs, B ≤ x.base) (h1 : xs 1 = 0) (kk : KL p l e s m args below meth c ls Q B b xs) : WL p l e s m args below meth c H locs ls Q 295 := by
  have hx := E.1
  have hb := E.2.1
  have hτX := ttX B
  have hτM := ttM B
  refine lv_aload_n hx hb dL_law_295 rfl (lv_at hl 2 rfl) ?_
  refine lv_aload_n hx hb dL_law_296 rfl (lv_at hl 3 rfl) ?_
  refine lv_iload_n hx hb dL_law_297 rfl (lv_at hl 0 rfl) ?_
  refine lv_iconst (v := 1) hx hb dL_law_298 (by decide) ?_
  refine lv_iadd hx hb dL_law_299 ?_
  refine th_topi (y := 1) (by decide) ?_
  refine lw_sld (j := 1) hx hb hX (by decide) (by decide) (by decide) dL_law_300 ?_
  refine th_topi h1 ?_
  refine th_Vi (A := fun q => B ≤ q) (As := [.int 0]) (rest := []) E hml hl.1 (c_X11_leave_v3 l D cI cS (tq B 0 178) (rq B) hWX H hTX (B + 0) hτX hFX.2.2.2.2.2.2.2.2.2.2.2.2.2.2.2.2.2.2.2.2.2.2.2.2.2.2.2.2.2.2.1) lk_L_44 yd_X11_leave hTX hτX rfl (by decide) ⟨rfl, fun _ _ => rfl, hlo⟩ (fun q h => h.elim) ⟨Nat.le_of_ble_eq_true rfl, Nat.le_of_ble_eq_true rfl⟩ (Nat.le_of_ble_eq_true rfl) ⟨Nat.le_of_ble_eq_true rfl, Nat.le_of_ble_eq_true rfl⟩ rfl dL_law_301 (fun r_1 H_1 locs_1 p_1 hT_1 hk_1 hS_1 => ?_)
  refine th_topi (y := (-2)) (show ((-2) : Int32) = r_1 from p_1.2).symm ?_
  have kM : ∀ q, B + 178 ≤ q → H_1[q]? = H[q]? := fun q hq => hk_1 q (fun h => h.elim)
  have hTM := hTM.same (H1 := H_1) (fun q t h => kM q (by obtain ⟨j, rfl, z1, -, -⟩ := tq_some h; omega))
  have hFM := hFM.kept (H1 := H_1) kM
  have hX_1 : va_X b 4 xs s H_1 := hX.kept (hS_1.2.1 b (Nat.not_le.mpr hbB))
  refine lv_aload_n hx hb dL_law_304 rfl (lv_at hl 1 rfl) ?_
  refine lv_aload_n hx hb dL_law_305 rfl (lv_at hl 3 rfl) ?_
  refine lv_iload_n hx hb dL_law_306 rfl (lv_at hl 0 rfl) ?_
  refine lv_iconst (v := 1) hx hb dL_law_307 (by decide) ?_
  refine lv_iadd hx hb dL_law_308 ?_
  refine th_topi (y := 1) (by decide) ?_
  refine lw_sld (j := 1) hx hb hX_1 (by decide) (by decide) (by decide) dL_law_309 ?_
  refine th_topi h1 ?_
  refine th_Vi (A := fun q => B ≤ q) (As := [.int 0]) (rest := [.int (-2)]) E hml hl.1 (c_X12_leave_v3 l D cI cS (tq B 178 186) (rq B) hWM H_1 hTM (B + 178) hτM ((hFM.2.2.2.2.1 0 (by decide)).trans (by decide))) lk_L_47 yd_X12_leave hTM hτM rfl (by decide) ⟨rfl, fun _ _ => rfl, hS_1.2.2⟩ (fun q h => h.elim) ⟨Nat.le_of_ble_eq_true rfl, Nat.le_of_ble_eq_true rfl⟩ (Nat.le_of_ble_eq_true rfl) ⟨Nat.le_of_ble_eq_true rfl, Nat.le_of_ble_eq_true rfl⟩ rfl dL_law_310 (fun r_2 H_2 locs_2 p_2 hT_2 hk_2 hS_2 => ?_)
  refine th_topi (y := (-2)) (show ((-2) : Int32) = r_2 from p_2.2).symm ?_
  have hX_2 : va_X b 4 xs s H_2 := hX_1.kept (hS_2.2.1 b (Nat.not_le.mpr hbB))
  refine lv_icmp_eq (tgt := 766) hx hb dL_law_313 (by decide) (fun c_ => ?_) (fun c_ => absurd (by decide) c_)
  exact kk H_2 locs_2 hS_2.2.2 hX_2
set_option maxHeartbeats 4000000 in
set_option maxRecDepth 100000 in
theorem w_leave_3 (E : EE p s m args c cL_law RL D cI cS) (hml : c.maxLocals = 4) (hl : lv_has ls 4 [(3, .int 0), (2, .ref (B + 178)), (1, .ref (B + 0)), (0, .ref b)]) (hWX : WF (tq B 0 178) (rq B)) (hWM : WF (tq B 178 186) (rq B)) (hTX : TH D cI cS (tq B 0 178) (rq B) H) (hFX : FX D B H) (hTM : TH D cI cS (tq B 178 186) (rq B) H) (hFM : FM D B H) (hX : va_X b 4 xs s H) (hbB : b < B) (hlo : ∀ x ∈ locs, B ≤ x.base) (h1 : xs 1 = 1) (kk : KL p l e s m args below meth c ls Q B b xs) : WL p l e s m args below meth c H locs ls Q 295 := by
  have hx := E.1
  have hb := E.2.1
  have hτX := ttX B
  have hτM := ttM B
  refine lv_aload_n hx hb dL_law_295 rfl (lv_at hl 2 rfl) ?_
  refine lv_aload_n hx hb dL_law_296 rfl (lv_at hl 3 rfl) ?_
  refine lv_iload_n hx hb dL_law_297 rfl (lv_at hl 0 rfl) ?_
  refine lv_iconst (v := 1) hx hb dL_law_298 (by decide) ?_
  refine lv_iadd hx hb dL_law_299 ?_
  refine th_topi (y := 1) (by decide) ?_
  refine lw_sld (j := 1) hx hb hX (by decide) (by decide) (by decide) dL_law_300 ?_
  refine th_topi h1 ?_
  refine th_Vi (A := fun q => B ≤ q) (As := [.int 1]) (rest := []) E hml hl.1 (c_X11_leave_v4 l D cI cS (tq B 0 178) (rq B) hWX H hTX (B + 0) hτX hFX.2.2.2.2.2.2.2.2.2.2.2.2.2.2.2.2.2.2.2.2.2.2.2.2.2.2.2.2.2.2.2.2.2.2.2.2.2.2.2.2.2.2.2.2.2.2.2.2.2.2.2.2.1) lk_L_44 yd_X11_leave hTX hτX rfl (by decide) ⟨rfl, fun _ _ => rfl, hlo⟩ (fun q h => h.elim) ⟨Nat.le_of_ble_eq_true rfl, Nat.le_of_ble_eq_true rfl⟩ (Nat.le_of_ble_eq_true rfl) ⟨Nat.le_of_ble_eq_true rfl, Nat.le_of_ble_eq_true rfl⟩ rfl dL_law_301 (fun r_1 H_1 locs_1 p_1 hT_1 hk_1 hS_1 => ?_)
  refine th_topi (y := (-2)) (show ((-2) : Int32) = r_1 from p_1.2).symm ?_
  have kM : ∀ q, B + 178 ≤ q → H_1[q]? = H[q]? := fun q hq => hk_1 q (fun h => h.elim)
  have hTM := hTM.same (H1 := H_1) (fun q t h => kM q (by obtain ⟨j, rfl, z1, -, -⟩ := tq_some h; omega))
  have hFM := hFM.kept (H1 := H_1) kM
  have hX_1 : va_X b 4 xs s H_1 := hX.kept (hS_1.2.1 b (Nat.not_le.mpr hbB))
  refine lv_aload_n hx hb dL_law_304 rfl (lv_at hl 1 rfl) ?_
  refine lv_aload_n hx hb dL_law_305 rfl (lv_at hl 3 rfl) ?_
  refine lv_iload_n hx hb dL_law_306 rfl (lv_at hl 0 rfl) ?_
  refine lv_iconst (v := 1) hx hb dL_law_307 (by decide) ?_
  refine lv_iadd hx hb dL_law_308 ?_
  refine th_topi (y := 1) (by decide) ?_
  refine lw_sld (j := 1) hx hb hX_1 (by decide) (by decide) (by decide) dL_law_309 ?_
  refine th_topi h1 ?_
  refine th_Vi (A := fun q => B ≤ q) (As := [.int 1]) (rest := [.int (-2)]) E hml hl.1 (c_X12_leave_v4 l D cI cS (tq B 178 186) (rq B) hWM H_1 hTM (B + 178) hτM ((hFM.2.2.2.2.1 288 (by decide)).trans (by decide))) lk_L_47 yd_X12_leave hTM hτM rfl (by decide) ⟨rfl, fun _ _ => rfl, hS_1.2.2⟩ (fun q h => h.elim) ⟨Nat.le_of_ble_eq_true rfl, Nat.le_of_ble_eq_true rfl⟩ (Nat.le_of_ble_eq_true rfl) ⟨Nat.le_of_ble_eq_true rfl, Nat.le_of_ble_eq_true rfl⟩ rfl dL_law_310 (fun r_2 H_2 locs_2 p_2 hT_2 hk_2 hS_2 => ?_)
  refine th_topi (y := (-2)) (show ((-2) : Int32) = r_2 from p_2.2).symm ?_
  have hX_2 : va_X b 4 xs s H_2 := hX_1.kept (hS_2.2.1 b (Nat.not_le.mpr hbB))
  refine lv_icmp_eq (tgt := 766) hx hb dL_law_313 (by decide) (fun c_ => ?_) (fun c_ => absurd (by decide) c_)
  exact kk H_2 locs_2 hS_2.2.2 hX_2
theorem w_leave (E : EE p s m args c cL_law RL D cI cS) (hml : c.maxLocals = 4) (hl : lv_has ls 4 [(3, .int 0), (2, .ref (B + 178)), (1, .ref (B + 0)), (0, .ref b)]) (hWX : WF (tq B 0 178) (rq B)) (hWM : WF (tq B 178 186) (rq B)) (hTX : TH D cI cS (tq B 0 178) (rq B) H) (hFX : FX D B H) (hTM : TH D cI cS (tq B 178 186) (rq B) H) (hFM : FM D B H) (hX : va_X b 4 xs s H) (hbB : b < B) (hlo : ∀ x ∈ locs, B ≤ x.base) (kk : KL p l e s m args below meth c ls Q B b xs) : WL p l e s m args below meth c H locs ls Q 295 := by
  rcases (show (xs 1).toInt ≤ -1 ∨ 2 ≤ (xs 1).toInt ∨ (xs 1).toInt = 0 ∨ (xs 1).toInt = 1 by omega) with g1 | l1 | t1 | t1
  · exact w_leave_0 E hml hl hWX hWM hTX hFX hTM hFM hX hbB hlo g1 kk
  · exact w_leave_1 E hml hl hWX hWM hTX hFX hTM hFM hX hbB hlo l1 kk
  · have h1 : xs 1 = 0 := i_eq t1 (by decide)
    exact w_leave_2 E hml hl hWX hWM hTX hFX hTM hFM hX hbB hlo h1 kk
  · have h1 : xs 1 = 1 := i_eq t1 (by decide)
    exact w_leave_3 E hml hl hWX hWM hTX hFX hTM hFM hX hbB hlo h1 kk
set_option maxHeartbeats 4000000 in
set_option maxRecDepth 100000 in
theorem w_quit_0 (E : EE p s m args c cL_law RL D cI cS) (hml : c.maxLocals = 4) (hl : lv_has ls 4 [(3, .int 0), (2, .ref (B + 178)), (1, .ref (B + 0)), (0, .ref b)]) (hWX : WF (tq B 0 178) (rq B)) (hWM : WF (tq B 178 186) (rq B)) (hTX : TH D cI cS (tq B 0 178) (rq B) H) (hFX : FX D B H) (hTM : TH D cI cS (tq B 178 186) (rq B) H) (hFM : FM D B H) (hX : va_X b 4 xs s H) (hbB : b < B) (hlo : ∀ x ∈ locs, B ≤ x.base) (g1 : (xs 1).toInt ≤ -1) (kk : KL p l e s m args below meth c ls Q B b xs) : WL p l e s m args below meth c H locs ls Q 318 := by
  have hx := E.1
  have hb := E.2.1
  have hτX := ttX B
  have hτM := ttM B
  refine lv_aload_n hx hb dL_law_318 rfl (lv_at hl 2 rfl) ?_
  refine lv_aload_n hx hb dL_law_319 rfl (lv_at hl 3 rfl) ?_
  refine lv_iload_n hx hb dL_law_320 rfl (lv_at hl 0 rfl) ?_
  refine lv_iconst (v := 1) hx hb dL_law_321 (by decide) ?_
  refine lv_iadd hx hb dL_law_322 ?_
  refine th_topi (y := 1) (by decide) ?_
  refine lw_sld (j := 1) hx hb hX (by decide) (by decide) (by decide) dL_law_323 ?_
  refine th_Vi (A := fun q => B ≤ q) (As := [.int (xs 1)]) (rest := []) E hml hl.1 (c_X11_quit l D cI cS (tq B 0 178) (rq B) hWX H hTX (B + 0) (xs 1) hτX g1) lk_L_48 yd_X11_quit hTX hτX rfl (by decide) ⟨rfl, fun _ _ => rfl, hlo⟩ (fun q h => h.elim) ⟨Nat.le_of_ble_eq_true rfl, Nat.le_of_ble_eq_true rfl⟩ (Nat.le_of_ble_eq_true rfl) ⟨Nat.le_of_ble_eq_true rfl, Nat.le_of_ble_eq_true rfl⟩ rfl dL_law_324 (fun r_1 H_1 locs_1 p_1 hT_1 hk_1 hS_1 => ?_)
  refine th_topi (y := (-1)) (show ((-1) : Int32) = r_1 from p_1.2).symm ?_
  have kM : ∀ q, B + 178 ≤ q → H_1[q]? = H[q]? := fun q hq => hk_1 q (fun h => h.elim)
  have hTM := hTM.same (H1 := H_1) (fun q t h => kM q (by obtain ⟨j, rfl, z1, -, -⟩ := tq_some h; omega))
  have hFM := hFM.kept (H1 := H_1) kM
  have hX_1 : va_X b 4 xs s H_1 := hX.kept (hS_1.2.1 b (Nat.not_le.mpr hbB))
  refine lv_aload_n hx hb dL_law_327 rfl (lv_at hl 1 rfl) ?_
  refine lv_aload_n hx hb dL_law_328 rfl (lv_at hl 3 rfl) ?_
  refine lv_iload_n hx hb dL_law_329 rfl (lv_at hl 0 rfl) ?_
  refine lv_iconst (v := 1) hx hb dL_law_330 (by decide) ?_
  refine lv_iadd hx hb dL_law_331 ?_
  refine th_topi (y := 1) (by decide) ?_
  refine lw_sld (j := 1) hx hb hX_1 (by decide) (by decide) (by decide) dL_law_332 ?_
  refine th_Vi (A := fun q => B ≤ q) (As := [.int (xs 1)]) (rest := [.int (-1)]) E hml hl.1 (c_X12_quit l D cI cS (tq B 178 186) (rq B) hWM H_1 hTM (B + 178) (xs 1) hτM g1) lk_L_51 yd_X12_quit hTM hτM rfl (by decide) ⟨rfl, fun _ _ => rfl, hS_1.2.2⟩ (fun q h => h.elim) ⟨Nat.le_of_ble_eq_true rfl, Nat.le_of_ble_eq_true rfl⟩ (Nat.le_of_ble_eq_true rfl) ⟨Nat.le_of_ble_eq_true rfl, Nat.le_of_ble_eq_true rfl⟩ rfl dL_law_333 (fun r_2 H_2 locs_2 p_2 hT_2 hk_2 hS_2 => ?_)
  refine th_topi (y := (-1)) (show ((-1) : Int32) = r_2 from p_2.2).symm ?_
  have hX_2 : va_X b 4 xs s H_2 := hX_1.kept (hS_2.2.1 b (Nat.not_le.mpr hbB))
  refine lv_icmp_eq (tgt := 766) hx hb dL_law_336 (by decide) (fun c_ => ?_) (fun c_ => absurd (by decide) c_)
  exact kk H_2 locs_2 hS_2.2.2 hX_2
set_option maxHeartbeats 4000000 in
set_option maxRecDepth 100000 in
theorem w_quit_1 (E : EE p s m args c cL_law RL D cI cS) (hml : c.maxLocals = 4) (hl : lv_has ls 4 [(3, .int 0), (2, .ref (B + 178)), (1, .ref (B + 0)), (0, .ref b)]) (hWX : WF (tq B 0 178) (rq B)) (hWM : WF (tq B 178 186) (rq B)) (hTX : TH D cI cS (tq B 0 178) (rq B) H) (hFX : FX D B H) (hTM : TH D cI cS (tq B 178 186) (rq B) H) (hFM : FM D B H) (hX : va_X b 4 xs s H) (hbB : b < B) (hlo : ∀ x ∈ locs, B ≤ x.base) (l1 : 2 ≤ (xs 1).toInt) (kk : KL p l e s m args below meth c ls Q B b xs) : WL p l e s m args below meth c H locs ls Q 318 := by
  have hx := E.1
  have hb := E.2.1
  have hτX := ttX B
  have hτM := ttM B
  refine lv_aload_n hx hb dL_law_318 rfl (lv_at hl 2 rfl) ?_
  refine lv_aload_n hx hb dL_law_319 rfl (lv_at hl 3 rfl) ?_
  refine lv_iload_n hx hb dL_law_320 rfl (lv_at hl 0 rfl) ?_
  refine lv_iconst (v := 1) hx hb dL_law_321 (by decide) ?_
  refine lv_iadd hx hb dL_law_322 ?_
  refine th_topi (y := 1) (by decide) ?_
  refine lw_sld (j := 1) hx hb hX (by decide) (by decide) (by decide) dL_law_323 ?_
  refine th_Vi (A := fun q => B ≤ q) (As := [.int (xs 1)]) (rest := []) E hml hl.1 (c_X11_quit_v2 l D cI cS (tq B 0 178) (rq B) hWX H hTX (B + 0) (xs 1) hτX l1) lk_L_48 yd_X11_quit hTX hτX rfl (by decide) ⟨rfl, fun _ _ => rfl, hlo⟩ (fun q h => h.elim) ⟨Nat.le_of_ble_eq_true rfl, Nat.le_of_ble_eq_true rfl⟩ (Nat.le_of_ble_eq_true rfl) ⟨Nat.le_of_ble_eq_true rfl, Nat.le_of_ble_eq_true rfl⟩ rfl dL_law_324 (fun r_1 H_1 locs_1 p_1 hT_1 hk_1 hS_1 => ?_)
  refine th_topi (y := (-1)) (show ((-1) : Int32) = r_1 from p_1.2).symm ?_
  have kM : ∀ q, B + 178 ≤ q → H_1[q]? = H[q]? := fun q hq => hk_1 q (fun h => h.elim)
  have hTM := hTM.same (H1 := H_1) (fun q t h => kM q (by obtain ⟨j, rfl, z1, -, -⟩ := tq_some h; omega))
  have hFM := hFM.kept (H1 := H_1) kM
  have hX_1 : va_X b 4 xs s H_1 := hX.kept (hS_1.2.1 b (Nat.not_le.mpr hbB))
  refine lv_aload_n hx hb dL_law_327 rfl (lv_at hl 1 rfl) ?_
  refine lv_aload_n hx hb dL_law_328 rfl (lv_at hl 3 rfl) ?_
  refine lv_iload_n hx hb dL_law_329 rfl (lv_at hl 0 rfl) ?_
  refine lv_iconst (v := 1) hx hb dL_law_330 (by decide) ?_
  refine lv_iadd hx hb dL_law_331 ?_
  refine th_topi (y := 1) (by decide) ?_
  refine lw_sld (j := 1) hx hb hX_1 (by decide) (by decide) (by decide) dL_law_332 ?_
  refine th_Vi (A := fun q => B ≤ q) (As := [.int (xs 1)]) (rest := [.int (-1)]) E hml hl.1 (c_X12_quit_v2 l D cI cS (tq B 178 186) (rq B) hWM H_1 hTM (B + 178) (xs 1) hτM l1) lk_L_51 yd_X12_quit hTM hτM rfl (by decide) ⟨rfl, fun _ _ => rfl, hS_1.2.2⟩ (fun q h => h.elim) ⟨Nat.le_of_ble_eq_true rfl, Nat.le_of_ble_eq_true rfl⟩ (Nat.le_of_ble_eq_true rfl) ⟨Nat.le_of_ble_eq_true rfl, Nat.le_of_ble_eq_true rfl⟩ rfl dL_law_333 (fun r_2 H_2 locs_2 p_2 hT_2 hk_2 hS_2 => ?_)
  refine th_topi (y := (-1)) (show ((-1) : Int32) = r_2 from p_2.2).symm ?_
  have hX_2 : va_X b 4 xs s H_2 := hX_1.kept (hS_2.2.1 b (Nat.not_le.mpr hbB))
  refine lv_icmp_eq (tgt := 766) hx hb dL_law_336 (by decide) (fun c_ => ?_) (fun c_ => absurd (by decide) c_)
  exact kk H_2 locs_2 hS_2.2.2 hX_2
set_option maxHeartbeats 4000000 in
set_option maxRecDepth 100000 in
theorem w_quit_2 (E : EE p s m args c cL_law RL D cI cS) (hml : c.maxLocals = 4) (hl : lv_has ls 4 [(3, .int 0), (2, .ref (B + 178)), (1, .ref (B + 0)), (0, .ref b)]) (hWX : WF (tq B 0 178) (rq B)) (hWM : WF (tq B 178 186) (rq B)) (hTX : TH D cI cS (tq B 0 178) (rq B) H) (hFX : FX D B H) (hTM : TH D cI cS (tq B 178 186) (rq B) H) (hFM : FM D B H) (hX : va_X b 4 xs s H) (hbB : b < B) (hlo : ∀ x ∈ locs, B ≤ x.base) (h1 : xs 1 = 0) (kk : KL p l e s m args below meth c ls Q B b xs) : WL p l e s m args below meth c H locs ls Q 318 := by
  have hx := E.1
  have hb := E.2.1
  have hτX := ttX B
  have hτM := ttM B
  refine lv_aload_n hx hb dL_law_318 rfl (lv_at hl 2 rfl) ?_
  refine lv_aload_n hx hb dL_law_319 rfl (lv_at hl 3 rfl) ?_
  refine lv_iload_n hx hb dL_law_320 rfl (lv_at hl 0 rfl) ?_
  refine lv_iconst (v := 1) hx hb dL_law_321 (by decide) ?_
  refine lv_iadd hx hb dL_law_322 ?_
  refine th_topi (y := 1) (by decide) ?_
  refine lw_sld (j := 1) hx hb hX (by decide) (by decide) (by decide) dL_law_323 ?_
  refine th_topi h1 ?_
  refine th_Vi (A := fun q => B ≤ q) (As := [.int 0]) (rest := []) E hml hl.1 (c_X11_quit_v3 l D cI cS (tq B 0 178) (rq B) hWX H hTX (B + 0) hτX hFX.2.2.2.2.2.2.2.2.2.2.2.2.2.2.2.2.2.2.2.2.2.2.2.2.2.2.2.2.2.2.1) lk_L_48 yd_X11_quit hTX hτX rfl (by decide) ⟨rfl, fun _ _ => rfl, hlo⟩ (fun q h => h.elim) ⟨Nat.le_of_ble_eq_true rfl, Nat.le_of_ble_eq_true rfl⟩ (Nat.le_of_ble_eq_true rfl) ⟨Nat.le_of_ble_eq_true rfl, Nat.le_of_ble_eq_true rfl⟩ rfl dL_law_324 (fun r_1 H_1 locs_1 p_1 hT_1 hk_1 hS_1 => ?_)
  refine th_topi (y := (-2)) (show ((-2) : Int32) = r_1 from p_1.2).symm ?_
  have kM : ∀ q, B + 178 ≤ q → H_1[q]? = H[q]? := fun q hq => hk_1 q (fun h => h.elim)
  have hTM := hTM.same (H1 := H_1) (fun q t h => kM q (by obtain ⟨j, rfl, z1, -, -⟩ := tq_some h; omega))
  have hFM := hFM.kept (H1 := H_1) kM
  have hX_1 : va_X b 4 xs s H_1 := hX.kept (hS_1.2.1 b (Nat.not_le.mpr hbB))
  refine lv_aload_n hx hb dL_law_327 rfl (lv_at hl 1 rfl) ?_
  refine lv_aload_n hx hb dL_law_328 rfl (lv_at hl 3 rfl) ?_
  refine lv_iload_n hx hb dL_law_329 rfl (lv_at hl 0 rfl) ?_
  refine lv_iconst (v := 1) hx hb dL_law_330 (by decide) ?_
  refine lv_iadd hx hb dL_law_331 ?_
  refine th_topi (y := 1) (by decide) ?_
  refine lw_sld (j := 1) hx hb hX_1 (by decide) (by decide) (by decide) dL_law_332 ?_
  refine th_topi h1 ?_
  refine th_Vi (A := fun q => B ≤ q) (As := [.int 0]) (rest := [.int (-2)]) E hml hl.1 (c_X12_quit_v3 l D cI cS (tq B 178 186) (rq B) hWM H_1 hTM (B + 178) hτM ((hFM.2.2.2.2.1 0 (by decide)).trans (by decide))) lk_L_51 yd_X12_quit hTM hτM rfl (by decide) ⟨rfl, fun _ _ => rfl, hS_1.2.2⟩ (fun q h => h.elim) ⟨Nat.le_of_ble_eq_true rfl, Nat.le_of_ble_eq_true rfl⟩ (Nat.le_of_ble_eq_true rfl) ⟨Nat.le_of_ble_eq_true rfl, Nat.le_of_ble_eq_true rfl⟩ rfl dL_law_333 (fun r_2 H_2 locs_2 p_2 hT_2 hk_2 hS_2 => ?_)
  refine th_topi (y := (-2)) (show ((-2) : Int32) = r_2 from p_2.2).symm ?_
  have hX_2 : va_X b 4 xs s H_2 := hX_1.kept (hS_2.2.1 b (Nat.not_le.mpr hbB))
  refine lv_icmp_eq (tgt := 766) hx hb dL_law_336 (by decide) (fun c_ => ?_) (fun c_ => absurd (by decide) c_)
  exact kk H_2 locs_2 hS_2.2.2 hX_2
set_option maxHeartbeats 4000000 in
set_option maxRecDepth 100000 in
theorem w_quit_3 (E : EE p s m args c cL_law RL D cI cS) (hml : c.maxLocals = 4) (hl : lv_has ls 4 [(3, .int 0), (2, .ref (B + 178)), (1, .ref (B + 0)), (0, .ref b)]) (hWX : WF (tq B 0 178) (rq B)) (hWM : WF (tq B 178 186) (rq B)) (hTX : TH D cI cS (tq B 0 178) (rq B) H) (hFX : FX D B H) (hTM : TH D cI cS (tq B 178 186) (rq B) H) (hFM : FM D B H) (hX : va_X b 4 xs s H) (hbB : b < B) (hlo : ∀ x ∈ locs, B ≤ x.base) (h1 : xs 1 = 1) (kk : KL p l e s m args below meth c ls Q B b xs) : WL p l e s m args below meth c H locs ls Q 318 := by
  have hx := E.1
  have hb := E.2.1
  have hτX := ttX B
  have hτM := ttM B
  refine lv_aload_n hx hb dL_law_318 rfl (lv_at hl 2 rfl) ?_
  refine lv_aload_n hx hb dL_law_319 rfl (lv_at hl 3 rfl) ?_
  refine lv_iload_n hx hb dL_law_320 rfl (lv_at hl 0 rfl) ?_
  refine lv_iconst (v := 1) hx hb dL_law_321 (by decide) ?_
  refine lv_iadd hx hb dL_law_322 ?_
  refine th_topi (y := 1) (by decide) ?_
  refine lw_sld (j := 1) hx hb hX (by decide) (by decide) (by decide) dL_law_323 ?_
  refine th_topi h1 ?_
  refine th_Vi (A := fun q => B ≤ q) (As := [.int 1]) (rest := []) E hml hl.1 (c_X11_quit_v4 l D cI cS (tq B 0 178) (rq B) hWX H hTX (B + 0) hτX hFX.2.2.2.2.2.2.2.2.2.2.2.2.2.2.2.2.2.2.2.2.2.2.2.2.2.2.2.2.2.2.2.2.2.2.2.2.2.2.2.2.2.2.2.2.2.2.2.2.2.2.2.2.1) lk_L_48 yd_X11_quit hTX hτX rfl (by decide) ⟨rfl, fun _ _ => rfl, hlo⟩ (fun q h => h.elim) ⟨Nat.le_of_ble_eq_true rfl, Nat.le_of_ble_eq_true rfl⟩ (Nat.le_of_ble_eq_true rfl) ⟨Nat.le_of_ble_eq_true rfl, Nat.le_of_ble_eq_true rfl⟩ rfl dL_law_324 (fun r_1 H_1 locs_1 p_1 hT_1 hk_1 hS_1 => ?_)
  refine th_topi (y := (-2)) (show ((-2) : Int32) = r_1 from p_1.2).symm ?_
  have kM : ∀ q, B + 178 ≤ q → H_1[q]? = H[q]? := fun q hq => hk_1 q (fun h => h.elim)
  have hTM := hTM.same (H1 := H_1) (fun q t h => kM q (by obtain ⟨j, rfl, z1, -, -⟩ := tq_some h; omega))
  have hFM := hFM.kept (H1 := H_1) kM
  have hX_1 : va_X b 4 xs s H_1 := hX.kept (hS_1.2.1 b (Nat.not_le.mpr hbB))
  refine lv_aload_n hx hb dL_law_327 rfl (lv_at hl 1 rfl) ?_
  refine lv_aload_n hx hb dL_law_328 rfl (lv_at hl 3 rfl) ?_
  refine lv_iload_n hx hb dL_law_329 rfl (lv_at hl 0 rfl) ?_
  refine lv_iconst (v := 1) hx hb dL_law_330 (by decide) ?_
  refine lv_iadd hx hb dL_law_331 ?_
  refine th_topi (y := 1) (by decide) ?_
  refine lw_sld (j := 1) hx hb hX_1 (by decide) (by decide) (by decide) dL_law_332 ?_
  refine th_topi h1 ?_
  refine th_Vi (A := fun q => B ≤ q) (As := [.int 1]) (rest := [.int (-2)]) E hml hl.1 (c_X12_quit_v4 l D cI cS (tq B 178 186) (rq B) hWM H_1 hTM (B + 178) hτM ((hFM.2.2.2.2.1 288 (by decide)).trans (by decide))) lk_L_51 yd_X12_quit hTM hτM rfl (by decide) ⟨rfl, fun _ _ => rfl, hS_1.2.2⟩ (fun q h => h.elim) ⟨Nat.le_of_ble_eq_true rfl, Nat.le_of_ble_eq_true rfl⟩ (Nat.le_of_ble_eq_true rfl) ⟨Nat.le_of_ble_eq_true rfl, Nat.le_of_ble_eq_true rfl⟩ rfl dL_law_333 (fun r_2 H_2 locs_2 p_2 hT_2 hk_2 hS_2 => ?_)
  refine th_topi (y := (-2)) (show ((-2) : Int32) = r_2 from p_2.2).symm ?_
  have hX_2 : va_X b 4 xs s H_2 := hX_1.kept (hS_2.2.1 b (Nat.not_le.mpr hbB))
  refine lv_icmp_eq (tgt := 766) hx hb dL_law_336 (by decide) (fun c_ => ?_) (fun c_ => absurd (by decide) c_)
  exact kk H_2 locs_2 hS_2.2.2 hX_2
theorem w_quit (E : EE p s m args c cL_law RL D cI cS) (hml : c.maxLocals = 4) (hl : lv_has ls 4 [(3, .int 0), (2, .ref (B + 178)), (1, .ref (B + 0)), (0, .ref b)]) (hWX : WF (tq B 0 178) (rq B)) (hWM : WF (tq B 178 186) (rq B)) (hTX : TH D cI cS (tq B 0 178) (rq B) H) (hFX : FX D B H) (hTM : TH D cI cS (tq B 178 186) (rq B) H) (hFM : FM D B H) (hX : va_X b 4 xs s H) (hbB : b < B) (hlo : ∀ x ∈ locs, B ≤ x.base) (kk : KL p l e s m args below meth c ls Q B b xs) : WL p l e s m args below meth c H locs ls Q 318 := by
  rcases (show (xs 1).toInt ≤ -1 ∨ 2 ≤ (xs 1).toInt ∨ (xs 1).toInt = 0 ∨ (xs 1).toInt = 1 by omega) with g1 | l1 | t1 | t1
  · exact w_quit_0 E hml hl hWX hWM hTX hFX hTM hFM hX hbB hlo g1 kk
  · exact w_quit_1 E hml hl hWX hWM hTX hFX hTM hFM hX hbB hlo l1 kk
  · have h1 : xs 1 = 0 := i_eq t1 (by decide)
    exact w_quit_2 E hml hl hWX hWM hTX hFX hTM hFM hX hbB hlo h1 kk
  · have h1 : xs 1 = 1 := i_eq t1 (by decide)
    exact w_quit_3 E hml hl hWX hWM hTX hFX hTM hFM hX hbB hlo h1 kk
set_option maxHeartbeats 4000000 in
set_option maxRecDepth 100000 in
theorem w_take_0 (E : EE p s m args c cL_law RL D cI cS) (hml : c.maxLocals = 4) (hl : lv_has ls 4 [(3, .int 0), (2, .ref (B + 178)), (1, .ref (B + 0)), (0, .ref b)]) (hWX : WF (tq B 0 178) (rq B)) (hWM : WF (tq B 178 186) (rq B)) (hTX : TH D cI cS (tq B 0 178) (rq B) H) (hFX : FX D B H) (hTM : TH D cI cS (tq B 178 186) (rq B) H) (hFM : FM D B H) (hX : va_X b 4 xs s H) (hbB : b < B) (hlo : ∀ x ∈ locs, B ≤ x.base) (g1 : (xs 1).toInt ≤ -1) (kk : KL p l e s m args below meth c ls Q B b xs) : WL p l e s m args below meth c H locs ls Q 341 := by
  have hx := E.1
  have hb := E.2.1
  have hτX := ttX B
  have hτM := ttM B
  refine lv_aload_n hx hb dL_law_341 rfl (lv_at hl 2 rfl) ?_
  refine lv_aload_n hx hb dL_law_342 rfl (lv_at hl 3 rfl) ?_
  refine lv_iload_n hx hb dL_law_343 rfl (lv_at hl 0 rfl) ?_
  refine lv_iconst (v := 1) hx hb dL_law_344 (by decide) ?_
  refine lv_iadd hx hb dL_law_345 ?_
  refine th_topi (y := 1) (by decide) ?_
  refine lw_sld (j := 1) hx hb hX (by decide) (by decide) (by decide) dL_law_346 ?_
  refine th_Vi (A := fun q => B ≤ q) (As := [.int (xs 1)]) (rest := []) E hml hl.1 (c_X11_take l D cI cS (tq B 0 178) (rq B) hWX H hTX (B + 0) (xs 1) hτX g1) lk_L_52 yd_X11_take hTX hτX rfl (by decide) ⟨rfl, fun _ _ => rfl, hlo⟩ (fun q h => h.elim) ⟨Nat.le_of_ble_eq_true rfl, Nat.le_of_ble_eq_true rfl⟩ (Nat.le_of_ble_eq_true rfl) ⟨Nat.le_of_ble_eq_true rfl, Nat.le_of_ble_eq_true rfl⟩ rfl dL_law_347 (fun r_1 H_1 locs_1 p_1 hT_1 hk_1 hS_1 => ?_)
  refine th_topi (y := (-1)) (show ((-1) : Int32) = r_1 from p_1.2).symm ?_
  have kM : ∀ q, B + 178 ≤ q → H_1[q]? = H[q]? := fun q hq => hk_1 q (fun h => h.elim)
  have hTM := hTM.same (H1 := H_1) (fun q t h => kM q (by obtain ⟨j, rfl, z1, -, -⟩ := tq_some h; omega))
  have hFM := hFM.kept (H1 := H_1) kM
  have hX_1 : va_X b 4 xs s H_1 := hX.kept (hS_1.2.1 b (Nat.not_le.mpr hbB))
  refine lv_aload_n hx hb dL_law_350 rfl (lv_at hl 1 rfl) ?_
  refine lv_aload_n hx hb dL_law_351 rfl (lv_at hl 3 rfl) ?_
  refine lv_iload_n hx hb dL_law_352 rfl (lv_at hl 0 rfl) ?_
  refine lv_iconst (v := 1) hx hb dL_law_353 (by decide) ?_
  refine lv_iadd hx hb dL_law_354 ?_
  refine th_topi (y := 1) (by decide) ?_
  refine lw_sld (j := 1) hx hb hX_1 (by decide) (by decide) (by decide) dL_law_355 ?_
  refine th_Vi (A := fun q => B ≤ q) (As := [.int (xs 1)]) (rest := [.int (-1)]) E hml hl.1 (c_X12_take l D cI cS (tq B 178 186) (rq B) hWM H_1 hTM (B + 178) (xs 1) hτM g1) lk_L_55 yd_X12_take hTM hτM rfl (by decide) ⟨rfl, fun _ _ => rfl, hS_1.2.2⟩ (fun q h => h.elim) ⟨Nat.le_of_ble_eq_true rfl, Nat.le_of_ble_eq_true rfl⟩ (Nat.le_of_ble_eq_true rfl) ⟨Nat.le_of_ble_eq_true rfl, Nat.le_of_ble_eq_true rfl⟩ rfl dL_law_356 (fun r_2 H_2 locs_2 p_2 hT_2 hk_2 hS_2 => ?_)
  refine th_topi (y := (-1)) (show ((-1) : Int32) = r_2 from p_2.2).symm ?_
  have hX_2 : va_X b 4 xs s H_2 := hX_1.kept (hS_2.2.1 b (Nat.not_le.mpr hbB))
  refine lv_icmp_eq (tgt := 766) hx hb dL_law_359 (by decide) (fun c_ => ?_) (fun c_ => absurd (by decide) c_)
  exact kk H_2 locs_2 hS_2.2.2 hX_2
set_option maxHeartbeats 4000000 in
set_option maxRecDepth 100000 in
theorem w_take_1 (E : EE p s m args c cL_law RL D cI cS) (hml : c.maxLocals = 4) (hl : lv_has ls 4 [(3, .int 0), (2, .ref (B + 178)), (1, .ref (B + 0)), (0, .ref b)]) (hWX : WF (tq B 0 178) (rq B)) (hWM : WF (tq B 178 186) (rq B)) (hTX : TH D cI cS (tq B 0 178) (rq B) H) (hFX : FX D B H) (hTM : TH D cI cS (tq B 178 186) (rq B) H) (hFM : FM D B H) (hX : va_X b 4 xs s H) (hbB : b < B) (hlo : ∀ x ∈ locs, B ≤ x.base) (l1 : 2 ≤ (xs 1).toInt) (kk : KL p l e s m args below meth c ls Q B b xs) : WL p l e s m args below meth c H locs ls Q 341 := by
  have hx := E.1
  have hb := E.2.1
  have hτX := ttX B
  have hτM := ttM B
  refine lv_aload_n hx hb dL_law_341 rfl (lv_at hl 2 rfl) ?_
  refine lv_aload_n hx hb dL_law_342 rfl (lv_at hl 3 rfl) ?_
  refine lv_iload_n hx hb dL_law_343 rfl (lv_at hl 0 rfl) ?_
  refine lv_iconst (v := 1) hx hb dL_law_344 (by decide) ?_
  refine lv_iadd hx hb dL_law_345 ?_
  refine th_topi (y := 1) (by decide) ?_
  refine lw_sld (j := 1) hx hb hX (by decide) (by decide) (by decide) dL_law_346 ?_
  refine th_Vi (A := fun q => B ≤ q) (As := [.int (xs 1)]) (rest := []) E hml hl.1 (c_X11_take_v2 l D cI cS (tq B 0 178) (rq B) hWX H hTX (B + 0) (xs 1) hτX l1) lk_L_52 yd_X11_take hTX hτX rfl (by decide) ⟨rfl, fun _ _ => rfl, hlo⟩ (fun q h => h.elim) ⟨Nat.le_of_ble_eq_true rfl, Nat.le_of_ble_eq_true rfl⟩ (Nat.le_of_ble_eq_true rfl) ⟨Nat.le_of_ble_eq_true rfl, Nat.le_of_ble_eq_true rfl⟩ rfl dL_law_347 (fun r_1 H_1 locs_1 p_1 hT_1 hk_1 hS_1 => ?_)
  refine th_topi (y := (-1)) (show ((-1) : Int32) = r_1 from p_1.2).symm ?_
  have kM : ∀ q, B + 178 ≤ q → H_1[q]? = H[q]? := fun q hq => hk_1 q (fun h => h.elim)
  have hTM := hTM.same (H1 := H_1) (fun q t h => kM q (by obtain ⟨j, rfl, z1, -, -⟩ := tq_some h; omega))
  have hFM := hFM.kept (H1 := H_1) kM
  have hX_1 : va_X b 4 xs s H_1 := hX.kept (hS_1.2.1 b (Nat.not_le.mpr hbB))
  refine lv_aload_n hx hb dL_law_350 rfl (lv_at hl 1 rfl) ?_
  refine lv_aload_n hx hb dL_law_351 rfl (lv_at hl 3 rfl) ?_
  refine lv_iload_n hx hb dL_law_352 rfl (lv_at hl 0 rfl) ?_
  refine lv_iconst (v := 1) hx hb dL_law_353 (by decide) ?_
  refine lv_iadd hx hb dL_law_354 ?_
  refine th_topi (y := 1) (by decide) ?_
  refine lw_sld (j := 1) hx hb hX_1 (by decide) (by decide) (by decide) dL_law_355 ?_
  refine th_Vi (A := fun q => B ≤ q) (As := [.int (xs 1)]) (rest := [.int (-1)]) E hml hl.1 (c_X12_take_v2 l D cI cS (tq B 178 186) (rq B) hWM H_1 hTM (B + 178) (xs 1) hτM l1) lk_L_55 yd_X12_take hTM hτM rfl (by decide) ⟨rfl, fun _ _ => rfl, hS_1.2.2⟩ (fun q h => h.elim) ⟨Nat.le_of_ble_eq_true rfl, Nat.le_of_ble_eq_true rfl⟩ (Nat.le_of_ble_eq_true rfl) ⟨Nat.le_of_ble_eq_true rfl, Nat.le_of_ble_eq_true rfl⟩ rfl dL_law_356 (fun r_2 H_2 locs_2 p_2 hT_2 hk_2 hS_2 => ?_)
  refine th_topi (y := (-1)) (show ((-1) : Int32) = r_2 from p_2.2).symm ?_
  have hX_2 : va_X b 4 xs s H_2 := hX_1.kept (hS_2.2.1 b (Nat.not_le.mpr hbB))
  refine lv_icmp_eq (tgt := 766) hx hb dL_law_359 (by decide) (fun c_ => ?_) (fun c_ => absurd (by decide) c_)
  exact kk H_2 locs_2 hS_2.2.2 hX_2
set_option maxHeartbeats 4000000 in
set_option maxRecDepth 100000 in
theorem w_take_2 (E : EE p s m args c cL_law RL D cI cS) (hml : c.maxLocals = 4) (hl : lv_has ls 4 [(3, .int 0), (2, .ref (B + 178)), (1, .ref (B + 0)), (0, .ref b)]) (hWX : WF (tq B 0 178) (rq B)) (hWM : WF (tq B 178 186) (rq B)) (hTX : TH D cI cS (tq B 0 178) (rq B) H) (hFX : FX D B H) (hTM : TH D cI cS (tq B 178 186) (rq B) H) (hFM : FM D B H) (hX : va_X b 4 xs s H) (hbB : b < B) (hlo : ∀ x ∈ locs, B ≤ x.base) (h1 : xs 1 = 0) (kk : KL p l e s m args below meth c ls Q B b xs) : WL p l e s m args below meth c H locs ls Q 341 := by
  have hx := E.1
  have hb := E.2.1
  have hτX := ttX B
  have hτM := ttM B
  refine lv_aload_n hx hb dL_law_341 rfl (lv_at hl 2 rfl) ?_
  refine lv_aload_n hx hb dL_law_342 rfl (lv_at hl 3 rfl) ?_
  refine lv_iload_n hx hb dL_law_343 rfl (lv_at hl 0 rfl) ?_
  refine lv_iconst (v := 1) hx hb dL_law_344 (by decide) ?_
  refine lv_iadd hx hb dL_law_345 ?_
  refine th_topi (y := 1) (by decide) ?_
  refine lw_sld (j := 1) hx hb hX (by decide) (by decide) (by decide) dL_law_346 ?_
  refine th_topi h1 ?_
  refine th_Vi (A := fun q => B ≤ q) (As := [.int 0]) (rest := []) E hml hl.1 (c_X11_take_v3 l D cI cS (tq B 0 178) (rq B) hWX H hTX (B + 0) hτX hFX.2.2.2.2.2.2.2.2.2.2.2.2.2.2.2.2.2.2.2.2.1 hFX.2.2.2.2.2.2.2.2.2.2.2.2.2.2.2.2.2.2.1 hFX.2.2.2.2.2.2.2.2.2.2.2.2.2.2.2.2.2.1) lk_L_52 yd_X11_take hTX hτX rfl (by decide) ⟨rfl, fun _ _ => rfl, hlo⟩ (fun q h => h.elim) ⟨Nat.le_of_ble_eq_true rfl, Nat.le_of_ble_eq_true rfl⟩ (Nat.le_of_ble_eq_true rfl) ⟨Nat.le_of_ble_eq_true rfl, Nat.le_of_ble_eq_true rfl⟩ rfl dL_law_347 (fun r_1 H_1 locs_1 p_1 hT_1 hk_1 hS_1 => ?_)
  refine th_topi (y := (-4)) (show ((-4) : Int32) = r_1 from p_1.2).symm ?_
  have kM : ∀ q, B + 178 ≤ q → H_1[q]? = H[q]? := fun q hq => hk_1 q (fun h => h.elim)
  have hTM := hTM.same (H1 := H_1) (fun q t h => kM q (by obtain ⟨j, rfl, z1, -, -⟩ := tq_some h; omega))
  have hFM := hFM.kept (H1 := H_1) kM
  have hX_1 : va_X b 4 xs s H_1 := hX.kept (hS_1.2.1 b (Nat.not_le.mpr hbB))
  refine lv_aload_n hx hb dL_law_350 rfl (lv_at hl 1 rfl) ?_
  refine lv_aload_n hx hb dL_law_351 rfl (lv_at hl 3 rfl) ?_
  refine lv_iload_n hx hb dL_law_352 rfl (lv_at hl 0 rfl) ?_
  refine lv_iconst (v := 1) hx hb dL_law_353 (by decide) ?_
  refine lv_iadd hx hb dL_law_354 ?_
  refine th_topi (y := 1) (by decide) ?_
  refine lw_sld (j := 1) hx hb hX_1 (by decide) (by decide) (by decide) dL_law_355 ?_
  refine th_topi h1 ?_
  refine th_Vi (A := fun q => B ≤ q) (As := [.int 0]) (rest := [.int (-4)]) E hml hl.1 (c_X12_take_v3 l D cI cS (tq B 178 186) (rq B) hWM H_1 hTM (B + 178) hτM ((hFM.2.2.2.2.1 5 (by decide)).trans (by decide)) ((hFM.2.2.2.2.1 17 (by decide)).trans (by decide)) ((hFM.2.2.2.2.1 6 (by decide)).trans (by decide))) lk_L_55 yd_X12_take hTM hτM rfl (by decide) ⟨rfl, fun _ _ => rfl, hS_1.2.2⟩ (fun q h => h.elim) ⟨Nat.le_of_ble_eq_true rfl, Nat.le_of_ble_eq_true rfl⟩ (Nat.le_of_ble_eq_true rfl) ⟨Nat.le_of_ble_eq_true rfl, Nat.le_of_ble_eq_true rfl⟩ rfl dL_law_356 (fun r_2 H_2 locs_2 p_2 hT_2 hk_2 hS_2 => ?_)
  refine th_topi (y := (-4)) (show ((-4) : Int32) = r_2 from p_2.2).symm ?_
  have hX_2 : va_X b 4 xs s H_2 := hX_1.kept (hS_2.2.1 b (Nat.not_le.mpr hbB))
  refine lv_icmp_eq (tgt := 766) hx hb dL_law_359 (by decide) (fun c_ => ?_) (fun c_ => absurd (by decide) c_)
  exact kk H_2 locs_2 hS_2.2.2 hX_2
set_option maxHeartbeats 4000000 in
set_option maxRecDepth 100000 in
theorem w_take_3 (E : EE p s m args c cL_law RL D cI cS) (hml : c.maxLocals = 4) (hl : lv_has ls 4 [(3, .int 0), (2, .ref (B + 178)), (1, .ref (B + 0)), (0, .ref b)]) (hWX : WF (tq B 0 178) (rq B)) (hWM : WF (tq B 178 186) (rq B)) (hTX : TH D cI cS (tq B 0 178) (rq B) H) (hFX : FX D B H) (hTM : TH D cI cS (tq B 178 186) (rq B) H) (hFM : FM D B H) (hX : va_X b 4 xs s H) (hbB : b < B) (hlo : ∀ x ∈ locs, B ≤ x.base) (h1 : xs 1 = 1) (kk : KL p l e s m args below meth c ls Q B b xs) : WL p l e s m args below meth c H locs ls Q 341 := by
  have hx := E.1
  have hb := E.2.1
  have hτX := ttX B
  have hτM := ttM B
  refine lv_aload_n hx hb dL_law_341 rfl (lv_at hl 2 rfl) ?_
  refine lv_aload_n hx hb dL_law_342 rfl (lv_at hl 3 rfl) ?_
  refine lv_iload_n hx hb dL_law_343 rfl (lv_at hl 0 rfl) ?_
  refine lv_iconst (v := 1) hx hb dL_law_344 (by decide) ?_
  refine lv_iadd hx hb dL_law_345 ?_
  refine th_topi (y := 1) (by decide) ?_
  refine lw_sld (j := 1) hx hb hX (by decide) (by decide) (by decide) dL_law_346 ?_
  refine th_topi h1 ?_
  refine th_Vi (A := fun q => B ≤ q) (As := [.int 1]) (rest := []) E hml hl.1 (c_X11_take_v4 l D cI cS (tq B 0 178) (rq B) hWX H hTX (B + 0) hτX hFX.2.2.2.2.2.2.2.2.2.2.2.2.2.2.2.2.2.2.2.2.2.2.2.2.2.2.2.2.2.2.2.2.2.2.2.2.2.2.2.2.2.2.1 hFX.2.2.2.2.2.2.2.2.2.2.2.2.2.2.2.2.2.2.2.2.2.2.2.2.2.2.2.2.2.2.2.2.2.2.2.2.2.2.2.2.1 hFX.2.2.2.2.2.2.2.2.2.2.2.2.2.2.2.2.2.2.2.2.2.2.2.2.2.2.2.2.2.2.2.2.2.2.2.2.2.2.2.1) lk_L_52 yd_X11_take hTX hτX rfl (by decide) ⟨rfl, fun _ _ => rfl, hlo⟩ (fun q h => h.elim) ⟨Nat.le_of_ble_eq_true rfl, Nat.le_of_ble_eq_true rfl⟩ (Nat.le_of_ble_eq_true rfl) ⟨Nat.le_of_ble_eq_true rfl, Nat.le_of_ble_eq_true rfl⟩ rfl dL_law_347 (fun r_1 H_1 locs_1 p_1 hT_1 hk_1 hS_1 => ?_)
  refine th_topi (y := (-4)) (show ((-4) : Int32) = r_1 from p_1.2).symm ?_
  have kM : ∀ q, B + 178 ≤ q → H_1[q]? = H[q]? := fun q hq => hk_1 q (fun h => h.elim)
  have hTM := hTM.same (H1 := H_1) (fun q t h => kM q (by obtain ⟨j, rfl, z1, -, -⟩ := tq_some h; omega))
  have hFM := hFM.kept (H1 := H_1) kM
  have hX_1 : va_X b 4 xs s H_1 := hX.kept (hS_1.2.1 b (Nat.not_le.mpr hbB))
  refine lv_aload_n hx hb dL_law_350 rfl (lv_at hl 1 rfl) ?_
  refine lv_aload_n hx hb dL_law_351 rfl (lv_at hl 3 rfl) ?_
  refine lv_iload_n hx hb dL_law_352 rfl (lv_at hl 0 rfl) ?_
  refine lv_iconst (v := 1) hx hb dL_law_353 (by decide) ?_
  refine lv_iadd hx hb dL_law_354 ?_
  refine th_topi (y := 1) (by decide) ?_
  refine lw_sld (j := 1) hx hb hX_1 (by decide) (by decide) (by decide) dL_law_355 ?_
  refine th_topi h1 ?_
  refine th_Vi (A := fun q => B ≤ q) (As := [.int 1]) (rest := [.int (-4)]) E hml hl.1 (c_X12_take_v4 l D cI cS (tq B 178 186) (rq B) hWM H_1 hTM (B + 178) hτM ((hFM.2.2.2.2.1 293 (by decide)).trans (by decide)) ((hFM.2.2.2.2.1 305 (by decide)).trans (by decide)) ((hFM.2.2.2.2.1 294 (by decide)).trans (by decide))) lk_L_55 yd_X12_take hTM hτM rfl (by decide) ⟨rfl, fun _ _ => rfl, hS_1.2.2⟩ (fun q h => h.elim) ⟨Nat.le_of_ble_eq_true rfl, Nat.le_of_ble_eq_true rfl⟩ (Nat.le_of_ble_eq_true rfl) ⟨Nat.le_of_ble_eq_true rfl, Nat.le_of_ble_eq_true rfl⟩ rfl dL_law_356 (fun r_2 H_2 locs_2 p_2 hT_2 hk_2 hS_2 => ?_)
  refine th_topi (y := (-4)) (show ((-4) : Int32) = r_2 from p_2.2).symm ?_
  have hX_2 : va_X b 4 xs s H_2 := hX_1.kept (hS_2.2.1 b (Nat.not_le.mpr hbB))
  refine lv_icmp_eq (tgt := 766) hx hb dL_law_359 (by decide) (fun c_ => ?_) (fun c_ => absurd (by decide) c_)
  exact kk H_2 locs_2 hS_2.2.2 hX_2
theorem w_take (E : EE p s m args c cL_law RL D cI cS) (hml : c.maxLocals = 4) (hl : lv_has ls 4 [(3, .int 0), (2, .ref (B + 178)), (1, .ref (B + 0)), (0, .ref b)]) (hWX : WF (tq B 0 178) (rq B)) (hWM : WF (tq B 178 186) (rq B)) (hTX : TH D cI cS (tq B 0 178) (rq B) H) (hFX : FX D B H) (hTM : TH D cI cS (tq B 178 186) (rq B) H) (hFM : FM D B H) (hX : va_X b 4 xs s H) (hbB : b < B) (hlo : ∀ x ∈ locs, B ≤ x.base) (kk : KL p l e s m args below meth c ls Q B b xs) : WL p l e s m args below meth c H locs ls Q 341 := by
  rcases (show (xs 1).toInt ≤ -1 ∨ 2 ≤ (xs 1).toInt ∨ (xs 1).toInt = 0 ∨ (xs 1).toInt = 1 by omega) with g1 | l1 | t1 | t1
  · exact w_take_0 E hml hl hWX hWM hTX hFX hTM hFM hX hbB hlo g1 kk
  · exact w_take_1 E hml hl hWX hWM hTX hFX hTM hFM hX hbB hlo l1 kk
  · have h1 : xs 1 = 0 := i_eq t1 (by decide)
    exact w_take_2 E hml hl hWX hWM hTX hFX hTM hFM hX hbB hlo h1 kk
  · have h1 : xs 1 = 1 := i_eq t1 (by decide)
    exact w_take_3 E hml hl hWX hWM hTX hFX hTM hFM hX hbB hlo h1 kk
set_option maxHeartbeats 4000000 in
set_option maxRecDepth 100000 in
theorem w_arrive_0 (E : EE p s m args c cL_law RL D cI cS) (hml : c.maxLocals = 4) (hl : lv_has ls 4 [(3, .int 0), (2, .ref (B + 178)), (1, .ref (B + 0)), (0, .ref b)]) (hWX : WF (tq B 0 178) (rq B)) (hWM : WF (tq B 178 186) (rq B)) (hTX : TH D cI cS (tq B 0 178) (rq B) H) (hFX : FX D B H) (hTM : TH D cI cS (tq B 178 186) (rq B) H) (hFM : FM D B H) (hX : va_X b 4 xs s H) (hbB : b < B) (hlo : ∀ x ∈ locs, B ≤ x.base) (g1 : (xs 1).toInt ≤ -1) (kk : KL p l e s m args below meth c ls Q B b xs) : WL p l e s m args below meth c H locs ls Q 364 := by
  have hx := E.1
  have hb := E.2.1
  have hτX := ttX B
  have hτM := ttM B
  refine lv_aload_n hx hb dL_law_364 rfl (lv_at hl 2 rfl) ?_
  refine lv_aload_n hx hb dL_law_365 rfl (lv_at hl 3 rfl) ?_
  refine lv_iload_n hx hb dL_law_366 rfl (lv_at hl 0 rfl) ?_
  refine lv_iconst (v := 1) hx hb dL_law_367 (by decide) ?_
  refine lv_iadd hx hb dL_law_368 ?_
  refine th_topi (y := 1) (by decide) ?_
  refine lw_sld (j := 1) hx hb hX (by decide) (by decide) (by decide) dL_law_369 ?_
  refine th_Vi (A := fun q => B ≤ q) (As := [.int (xs 1)]) (rest := []) E hml hl.1 (c_X11_arrive l D cI cS (tq B 0 178) (rq B) hWX H hTX (B + 0) (xs 1) hτX g1) lk_L_56 yd_X11_arrive hTX hτX rfl (by decide) ⟨rfl, fun _ _ => rfl, hlo⟩ (fun q h => h.elim) ⟨Nat.le_of_ble_eq_true rfl, Nat.le_of_ble_eq_true rfl⟩ (Nat.le_of_ble_eq_true rfl) ⟨Nat.le_of_ble_eq_true rfl, Nat.le_of_ble_eq_true rfl⟩ rfl dL_law_370 (fun r_1 H_1 locs_1 p_1 hT_1 hk_1 hS_1 => ?_)
  refine th_topi (y := (-1)) (show ((-1) : Int32) = r_1 from p_1.2).symm ?_
  have kM : ∀ q, B + 178 ≤ q → H_1[q]? = H[q]? := fun q hq => hk_1 q (fun h => h.elim)
  have hTM := hTM.same (H1 := H_1) (fun q t h => kM q (by obtain ⟨j, rfl, z1, -, -⟩ := tq_some h; omega))
  have hFM := hFM.kept (H1 := H_1) kM
  have hX_1 : va_X b 4 xs s H_1 := hX.kept (hS_1.2.1 b (Nat.not_le.mpr hbB))
  refine lv_aload_n hx hb dL_law_373 rfl (lv_at hl 1 rfl) ?_
  refine lv_aload_n hx hb dL_law_374 rfl (lv_at hl 3 rfl) ?_
  refine lv_iload_n hx hb dL_law_375 rfl (lv_at hl 0 rfl) ?_
  refine lv_iconst (v := 1) hx hb dL_law_376 (by decide) ?_
  refine lv_iadd hx hb dL_law_377 ?_
  refine th_topi (y := 1) (by decide) ?_
  refine lw_sld (j := 1) hx hb hX_1 (by decide) (by decide) (by decide) dL_law_378 ?_
  refine th_Vi (A := fun q => B ≤ q) (As := [.int (xs 1)]) (rest := [.int (-1)]) E hml hl.1 (c_X12_arrive l D cI cS (tq B 178 186) (rq B) hWM H_1 hTM (B + 178) (xs 1) hτM g1 ((hFM.2.2.2.2.1 976 (by decide)).trans (by decide))) lk_L_59 yd_X12_arrive hTM hτM rfl (by decide) ⟨rfl, fun _ _ => rfl, hS_1.2.2⟩ (fun q h => h.elim) ⟨Nat.le_of_ble_eq_true rfl, Nat.le_of_ble_eq_true rfl⟩ (Nat.le_of_ble_eq_true rfl) ⟨Nat.le_of_ble_eq_true rfl, Nat.le_of_ble_eq_true rfl⟩ rfl dL_law_379 (fun r_2 H_2 locs_2 p_2 hT_2 hk_2 hS_2 => ?_)
  refine th_topi (y := (-1)) (show ((-1) : Int32) = r_2 from p_2.2).symm ?_
  have hX_2 : va_X b 4 xs s H_2 := hX_1.kept (hS_2.2.1 b (Nat.not_le.mpr hbB))
  refine lv_icmp_eq (tgt := 766) hx hb dL_law_382 (by decide) (fun c_ => ?_) (fun c_ => absurd (by decide) c_)
  exact kk H_2 locs_2 hS_2.2.2 hX_2
set_option maxHeartbeats 4000000 in
set_option maxRecDepth 100000 in
theorem w_arrive_1 (E : EE p s m args c cL_law RL D cI cS) (hml : c.maxLocals = 4) (hl : lv_has ls 4 [(3, .int 0), (2, .ref (B + 178)), (1, .ref (B + 0)), (0, .ref b)]) (hWX : WF (tq B 0 178) (rq B)) (hWM : WF (tq B 178 186) (rq B)) (hTX : TH D cI cS (tq B 0 178) (rq B) H) (hFX : FX D B H) (hTM : TH D cI cS (tq B 178 186) (rq B) H) (hFM : FM D B H) (hX : va_X b 4 xs s H) (hbB : b < B) (hlo : ∀ x ∈ locs, B ≤ x.base) (l1 : 0 ≤ (xs 1).toInt) (kk : KL p l e s m args below meth c ls Q B b xs) : WL p l e s m args below meth c H locs ls Q 364 := by
  have hx := E.1
  have hb := E.2.1
  have hτX := ttX B
  have hτM := ttM B
  refine lv_aload_n hx hb dL_law_364 rfl (lv_at hl 2 rfl) ?_
  refine lv_aload_n hx hb dL_law_365 rfl (lv_at hl 3 rfl) ?_
  refine lv_iload_n hx hb dL_law_366 rfl (lv_at hl 0 rfl) ?_
  refine lv_iconst (v := 1) hx hb dL_law_367 (by decide) ?_
  refine lv_iadd hx hb dL_law_368 ?_
  refine th_topi (y := 1) (by decide) ?_
  refine lw_sld (j := 1) hx hb hX (by decide) (by decide) (by decide) dL_law_369 ?_
  refine th_Vi (A := fun q => B ≤ q) (As := [.int (xs 1)]) (rest := []) E hml hl.1 (c_X11_arrive_v2 l D cI cS (tq B 0 178) (rq B) hWX H hTX (B + 0) (xs 1) hτX l1 hFX.2.2.2.2.2.2.2.2.2.1) lk_L_56 yd_X11_arrive hTX hτX rfl (by decide) ⟨rfl, fun _ _ => rfl, hlo⟩ (fun q h => h.elim) ⟨Nat.le_of_ble_eq_true rfl, Nat.le_of_ble_eq_true rfl⟩ (Nat.le_of_ble_eq_true rfl) ⟨Nat.le_of_ble_eq_true rfl, Nat.le_of_ble_eq_true rfl⟩ rfl dL_law_370 (fun r_1 H_1 locs_1 p_1 hT_1 hk_1 hS_1 => ?_)
  refine th_topi (y := (-1)) (show ((-1) : Int32) = r_1 from p_1.2).symm ?_
  have kM : ∀ q, B + 178 ≤ q → H_1[q]? = H[q]? := fun q hq => hk_1 q (fun h => h.elim)
  have hTM := hTM.same (H1 := H_1) (fun q t h => kM q (by obtain ⟨j, rfl, z1, -, -⟩ := tq_some h; omega))
  have hFM := hFM.kept (H1 := H_1) kM
  have hX_1 : va_X b 4 xs s H_1 := hX.kept (hS_1.2.1 b (Nat.not_le.mpr hbB))
  refine lv_aload_n hx hb dL_law_373 rfl (lv_at hl 1 rfl) ?_
  refine lv_aload_n hx hb dL_law_374 rfl (lv_at hl 3 rfl) ?_
  refine lv_iload_n hx hb dL_law_375 rfl (lv_at hl 0 rfl) ?_
  refine lv_iconst (v := 1) hx hb dL_law_376 (by decide) ?_
  refine lv_iadd hx hb dL_law_377 ?_
  refine th_topi (y := 1) (by decide) ?_
  refine lw_sld (j := 1) hx hb hX_1 (by decide) (by decide) (by decide) dL_law_378 ?_
  refine th_Vi (A := fun q => B ≤ q) (As := [.int (xs 1)]) (rest := [.int (-1)]) E hml hl.1 (c_X12_arrive_v2 l D cI cS (tq B 178 186) (rq B) hWM H_1 hTM (B + 178) (xs 1) hτM l1 ((hFM.2.2.2.2.1 976 (by decide)).trans (by decide))) lk_L_59 yd_X12_arrive hTM hτM rfl (by decide) ⟨rfl, fun _ _ => rfl, hS_1.2.2⟩ (fun q h => h.elim) ⟨Nat.le_of_ble_eq_true rfl, Nat.le_of_ble_eq_true rfl⟩ (Nat.le_of_ble_eq_true rfl) ⟨Nat.le_of_ble_eq_true rfl, Nat.le_of_ble_eq_true rfl⟩ rfl dL_law_379 (fun r_2 H_2 locs_2 p_2 hT_2 hk_2 hS_2 => ?_)
  refine th_topi (y := (-1)) (show ((-1) : Int32) = r_2 from p_2.2).symm ?_
  have hX_2 : va_X b 4 xs s H_2 := hX_1.kept (hS_2.2.1 b (Nat.not_le.mpr hbB))
  refine lv_icmp_eq (tgt := 766) hx hb dL_law_382 (by decide) (fun c_ => ?_) (fun c_ => absurd (by decide) c_)
  exact kk H_2 locs_2 hS_2.2.2 hX_2
theorem w_arrive (E : EE p s m args c cL_law RL D cI cS) (hml : c.maxLocals = 4) (hl : lv_has ls 4 [(3, .int 0), (2, .ref (B + 178)), (1, .ref (B + 0)), (0, .ref b)]) (hWX : WF (tq B 0 178) (rq B)) (hWM : WF (tq B 178 186) (rq B)) (hTX : TH D cI cS (tq B 0 178) (rq B) H) (hFX : FX D B H) (hTM : TH D cI cS (tq B 178 186) (rq B) H) (hFM : FM D B H) (hX : va_X b 4 xs s H) (hbB : b < B) (hlo : ∀ x ∈ locs, B ≤ x.base) (kk : KL p l e s m args below meth c ls Q B b xs) : WL p l e s m args below meth c H locs ls Q 364 := by
  rcases (show (xs 1).toInt ≤ -1 ∨ 0 ≤ (xs 1).toInt by omega) with g1 | l1
  · exact w_arrive_0 E hml hl hWX hWM hTX hFX hTM hFM hX hbB hlo g1 kk
  · exact w_arrive_1 E hml hl hWX hWM hTX hFX hTM hFM hX hbB hlo l1 kk
set_option maxHeartbeats 4000000 in
set_option maxRecDepth 100000 in
theorem w_lose_0 (E : EE p s m args c cL_law RL D cI cS) (hml : c.maxLocals = 4) (hl : lv_has ls 4 [(3, .int 0), (2, .ref (B + 178)), (1, .ref (B + 0)), (0, .ref b)]) (hWX : WF (tq B 0 178) (rq B)) (hWM : WF (tq B 178 186) (rq B)) (hTX : TH D cI cS (tq B 0 178) (rq B) H) (hFX : FX D B H) (hTM : TH D cI cS (tq B 178 186) (rq B) H) (hFM : FM D B H) (hX : va_X b 4 xs s H) (hbB : b < B) (hlo : ∀ x ∈ locs, B ≤ x.base) (g1 : (xs 1).toInt ≤ -1) (kk : KL p l e s m args below meth c ls Q B b xs) : WL p l e s m args below meth c H locs ls Q 387 := by
  have hx := E.1
  have hb := E.2.1
  have hτX := ttX B
  have hτM := ttM B
  refine lv_aload_n hx hb dL_law_387 rfl (lv_at hl 2 rfl) ?_
  refine lv_aload_n hx hb dL_law_388 rfl (lv_at hl 3 rfl) ?_
  refine lv_iload_n hx hb dL_law_389 rfl (lv_at hl 0 rfl) ?_
  refine lv_iconst (v := 1) hx hb dL_law_390 (by decide) ?_
  refine lv_iadd hx hb dL_law_391 ?_
  refine th_topi (y := 1) (by decide) ?_
  refine lw_sld (j := 1) hx hb hX (by decide) (by decide) (by decide) dL_law_392 ?_
  refine th_Vi (A := fun q => B ≤ q) (As := [.int (xs 1)]) (rest := []) E hml hl.1 (c_X11_lose l D cI cS (tq B 0 178) (rq B) hWX H hTX (B + 0) (xs 1) hτX g1) lk_L_60 yd_X11_lose hTX hτX rfl (by decide) ⟨rfl, fun _ _ => rfl, hlo⟩ (fun q h => h.elim) ⟨Nat.le_of_ble_eq_true rfl, Nat.le_of_ble_eq_true rfl⟩ (Nat.le_of_ble_eq_true rfl) ⟨Nat.le_of_ble_eq_true rfl, Nat.le_of_ble_eq_true rfl⟩ rfl dL_law_393 (fun r_1 H_1 locs_1 p_1 hT_1 hk_1 hS_1 => ?_)
  refine th_topi (y := (-1)) (show ((-1) : Int32) = r_1 from p_1.2).symm ?_
  have kM : ∀ q, B + 178 ≤ q → H_1[q]? = H[q]? := fun q hq => hk_1 q (fun h => h.elim)
  have hTM := hTM.same (H1 := H_1) (fun q t h => kM q (by obtain ⟨j, rfl, z1, -, -⟩ := tq_some h; omega))
  have hFM := hFM.kept (H1 := H_1) kM
  have hX_1 : va_X b 4 xs s H_1 := hX.kept (hS_1.2.1 b (Nat.not_le.mpr hbB))
  refine lv_aload_n hx hb dL_law_396 rfl (lv_at hl 1 rfl) ?_
  refine lv_aload_n hx hb dL_law_397 rfl (lv_at hl 3 rfl) ?_
  refine lv_iload_n hx hb dL_law_398 rfl (lv_at hl 0 rfl) ?_
  refine lv_iconst (v := 1) hx hb dL_law_399 (by decide) ?_
  refine lv_iadd hx hb dL_law_400 ?_
  refine th_topi (y := 1) (by decide) ?_
  refine lw_sld (j := 1) hx hb hX_1 (by decide) (by decide) (by decide) dL_law_401 ?_
  refine th_Vi (A := fun q => B ≤ q) (As := [.int (xs 1)]) (rest := [.int (-1)]) E hml hl.1 (c_X12_lose l D cI cS (tq B 178 186) (rq B) hWM H_1 hTM (B + 178) (xs 1) hτM g1 ((hFM.2.2.2.2.1 976 (by decide)).trans (by decide))) lk_L_63 yd_X12_lose hTM hτM rfl (by decide) ⟨rfl, fun _ _ => rfl, hS_1.2.2⟩ (fun q h => h.elim) ⟨Nat.le_of_ble_eq_true rfl, Nat.le_of_ble_eq_true rfl⟩ (Nat.le_of_ble_eq_true rfl) ⟨Nat.le_of_ble_eq_true rfl, Nat.le_of_ble_eq_true rfl⟩ rfl dL_law_402 (fun r_2 H_2 locs_2 p_2 hT_2 hk_2 hS_2 => ?_)
  refine th_topi (y := (-1)) (show ((-1) : Int32) = r_2 from p_2.2).symm ?_
  have hX_2 : va_X b 4 xs s H_2 := hX_1.kept (hS_2.2.1 b (Nat.not_le.mpr hbB))
  refine lv_icmp_eq (tgt := 766) hx hb dL_law_405 (by decide) (fun c_ => ?_) (fun c_ => absurd (by decide) c_)
  exact kk H_2 locs_2 hS_2.2.2 hX_2
set_option maxHeartbeats 4000000 in
set_option maxRecDepth 100000 in
theorem w_lose_1 (E : EE p s m args c cL_law RL D cI cS) (hml : c.maxLocals = 4) (hl : lv_has ls 4 [(3, .int 0), (2, .ref (B + 178)), (1, .ref (B + 0)), (0, .ref b)]) (hWX : WF (tq B 0 178) (rq B)) (hWM : WF (tq B 178 186) (rq B)) (hTX : TH D cI cS (tq B 0 178) (rq B) H) (hFX : FX D B H) (hTM : TH D cI cS (tq B 178 186) (rq B) H) (hFM : FM D B H) (hX : va_X b 4 xs s H) (hbB : b < B) (hlo : ∀ x ∈ locs, B ≤ x.base) (l1 : 0 ≤ (xs 1).toInt) (kk : KL p l e s m args below meth c ls Q B b xs) : WL p l e s m args below meth c H locs ls Q 387 := by
  have hx := E.1
  have hb := E.2.1
  have hτX := ttX B
  have hτM := ttM B
  refine lv_aload_n hx hb dL_law_387 rfl (lv_at hl 2 rfl) ?_
  refine lv_aload_n hx hb dL_law_388 rfl (lv_at hl 3 rfl) ?_
  refine lv_iload_n hx hb dL_law_389 rfl (lv_at hl 0 rfl) ?_
  refine lv_iconst (v := 1) hx hb dL_law_390 (by decide) ?_
  refine lv_iadd hx hb dL_law_391 ?_
  refine th_topi (y := 1) (by decide) ?_
  refine lw_sld (j := 1) hx hb hX (by decide) (by decide) (by decide) dL_law_392 ?_
  refine th_Vi (A := fun q => B ≤ q) (As := [.int (xs 1)]) (rest := []) E hml hl.1 (c_X11_lose_v2 l D cI cS (tq B 0 178) (rq B) hWX H hTX (B + 0) (xs 1) hτX l1 hFX.2.2.2.2.2.2.2.2.2.1) lk_L_60 yd_X11_lose hTX hτX rfl (by decide) ⟨rfl, fun _ _ => rfl, hlo⟩ (fun q h => h.elim) ⟨Nat.le_of_ble_eq_true rfl, Nat.le_of_ble_eq_true rfl⟩ (Nat.le_of_ble_eq_true rfl) ⟨Nat.le_of_ble_eq_true rfl, Nat.le_of_ble_eq_true rfl⟩ rfl dL_law_393 (fun r_1 H_1 locs_1 p_1 hT_1 hk_1 hS_1 => ?_)
  refine th_topi (y := (-1)) (show ((-1) : Int32) = r_1 from p_1.2).symm ?_
  have kM : ∀ q, B + 178 ≤ q → H_1[q]? = H[q]? := fun q hq => hk_1 q (fun h => h.elim)
  have hTM := hTM.same (H1 := H_1) (fun q t h => kM q (by obtain ⟨j, rfl, z1, -, -⟩ := tq_some h; omega))
  have hFM := hFM.kept (H1 := H_1) kM
  have hX_1 : va_X b 4 xs s H_1 := hX.kept (hS_1.2.1 b (Nat.not_le.mpr hbB))
  refine lv_aload_n hx hb dL_law_396 rfl (lv_at hl 1 rfl) ?_
  refine lv_aload_n hx hb dL_law_397 rfl (lv_at hl 3 rfl) ?_
  refine lv_iload_n hx hb dL_law_398 rfl (lv_at hl 0 rfl) ?_
  refine lv_iconst (v := 1) hx hb dL_law_399 (by decide) ?_
  refine lv_iadd hx hb dL_law_400 ?_
  refine th_topi (y := 1) (by decide) ?_
  refine lw_sld (j := 1) hx hb hX_1 (by decide) (by decide) (by decide) dL_law_401 ?_
  refine th_Vi (A := fun q => B ≤ q) (As := [.int (xs 1)]) (rest := [.int (-1)]) E hml hl.1 (c_X12_lose_v2 l D cI cS (tq B 178 186) (rq B) hWM H_1 hTM (B + 178) (xs 1) hτM l1 ((hFM.2.2.2.2.1 976 (by decide)).trans (by decide))) lk_L_63 yd_X12_lose hTM hτM rfl (by decide) ⟨rfl, fun _ _ => rfl, hS_1.2.2⟩ (fun q h => h.elim) ⟨Nat.le_of_ble_eq_true rfl, Nat.le_of_ble_eq_true rfl⟩ (Nat.le_of_ble_eq_true rfl) ⟨Nat.le_of_ble_eq_true rfl, Nat.le_of_ble_eq_true rfl⟩ rfl dL_law_402 (fun r_2 H_2 locs_2 p_2 hT_2 hk_2 hS_2 => ?_)
  refine th_topi (y := (-1)) (show ((-1) : Int32) = r_2 from p_2.2).symm ?_
  have hX_2 : va_X b 4 xs s H_2 := hX_1.kept (hS_2.2.1 b (Nat.not_le.mpr hbB))
  refine lv_icmp_eq (tgt := 766) hx hb dL_law_405 (by decide) (fun c_ => ?_) (fun c_ => absurd (by decide) c_)
  exact kk H_2 locs_2 hS_2.2.2 hX_2
theorem w_lose (E : EE p s m args c cL_law RL D cI cS) (hml : c.maxLocals = 4) (hl : lv_has ls 4 [(3, .int 0), (2, .ref (B + 178)), (1, .ref (B + 0)), (0, .ref b)]) (hWX : WF (tq B 0 178) (rq B)) (hWM : WF (tq B 178 186) (rq B)) (hTX : TH D cI cS (tq B 0 178) (rq B) H) (hFX : FX D B H) (hTM : TH D cI cS (tq B 178 186) (rq B) H) (hFM : FM D B H) (hX : va_X b 4 xs s H) (hbB : b < B) (hlo : ∀ x ∈ locs, B ≤ x.base) (kk : KL p l e s m args below meth c ls Q B b xs) : WL p l e s m args below meth c H locs ls Q 387 := by
  rcases (show (xs 1).toInt ≤ -1 ∨ 0 ≤ (xs 1).toInt by omega) with g1 | l1
  · exact w_lose_0 E hml hl hWX hWM hTX hFX hTM hFM hX hbB hlo g1 kk
  · exact w_lose_1 E hml hl hWX hWM hTX hFX hTM hFM hX hbB hlo l1 kk
set_option maxHeartbeats 4000000 in
set_option maxRecDepth 100000 in
theorem w_twice_0 (E : EE p s m args c cL_law RL D cI cS) (hml : c.maxLocals = 4) (hl : lv_has ls 4 [(3, .int 0), (2, .ref (B + 178)), (1, .ref (B + 0)), (0, .ref b)]) (hWX : WF (tq B 0 178) (rq B)) (hWM : WF (tq B 178 186) (rq B)) (hTX : TH D cI cS (tq B 0 178) (rq B) H) (hFX : FX D B H) (hTM : TH D cI cS (tq B 178 186) (rq B) H) (hFM : FM D B H) (hX : va_X b 4 xs s H) (hbB : b < B) (hlo : ∀ x ∈ locs, B ≤ x.base) (g1 : (xs 1).toInt ≤ -1) (kk : KL p l e s m args below meth c ls Q B b xs) : WL p l e s m args below meth c H locs ls Q 410 := by
  have hx := E.1
  have hb := E.2.1
  have hτX := ttX B
  have hτM := ttM B
  refine lv_aload_n hx hb dL_law_410 rfl (lv_at hl 2 rfl) ?_
  refine lv_aload_n hx hb dL_law_411 rfl (lv_at hl 3 rfl) ?_
  refine lv_iload_n hx hb dL_law_412 rfl (lv_at hl 0 rfl) ?_
  refine lv_iconst (v := 1) hx hb dL_law_413 (by decide) ?_
  refine lv_iadd hx hb dL_law_414 ?_
  refine th_topi (y := 1) (by decide) ?_
  refine lw_sld (j := 1) hx hb hX (by decide) (by decide) (by decide) dL_law_415 ?_
  refine th_Vi (A := fun q => B ≤ q) (As := [.int (xs 1)]) (rest := []) E hml hl.1 (c_X11_twice l D cI cS (tq B 0 178) (rq B) hWX H hTX (B + 0) (xs 1) hτX g1) lk_L_64 yd_X11_twice hTX hτX rfl (by decide) ⟨rfl, fun _ _ => rfl, hlo⟩ (fun q h => h.elim) ⟨Nat.le_of_ble_eq_true rfl, Nat.le_of_ble_eq_true rfl⟩ (Nat.le_of_ble_eq_true rfl) ⟨Nat.le_of_ble_eq_true rfl, Nat.le_of_ble_eq_true rfl⟩ rfl dL_law_416 (fun r_1 H_1 locs_1 p_1 hT_1 hk_1 hS_1 => ?_)
  refine th_topi (y := (-1)) (show ((-1) : Int32) = r_1 from p_1.2).symm ?_
  have kM : ∀ q, B + 178 ≤ q → H_1[q]? = H[q]? := fun q hq => hk_1 q (fun h => h.elim)
  have hTM := hTM.same (H1 := H_1) (fun q t h => kM q (by obtain ⟨j, rfl, z1, -, -⟩ := tq_some h; omega))
  have hFM := hFM.kept (H1 := H_1) kM
  have hX_1 : va_X b 4 xs s H_1 := hX.kept (hS_1.2.1 b (Nat.not_le.mpr hbB))
  refine lv_aload_n hx hb dL_law_419 rfl (lv_at hl 1 rfl) ?_
  refine lv_aload_n hx hb dL_law_420 rfl (lv_at hl 3 rfl) ?_
  refine lv_iload_n hx hb dL_law_421 rfl (lv_at hl 0 rfl) ?_
  refine lv_iconst (v := 1) hx hb dL_law_422 (by decide) ?_
  refine lv_iadd hx hb dL_law_423 ?_
  refine th_topi (y := 1) (by decide) ?_
  refine lw_sld (j := 1) hx hb hX_1 (by decide) (by decide) (by decide) dL_law_424 ?_
  refine th_Vi (A := fun q => B ≤ q) (As := [.int (xs 1)]) (rest := [.int (-1)]) E hml hl.1 (c_X12_twice l D cI cS (tq B 178 186) (rq B) hWM H_1 hTM (B + 178) (xs 1) hτM g1 ((hFM.2.2.2.2.1 976 (by decide)).trans (by decide))) lk_L_67 yd_X12_twice hTM hτM rfl (by decide) ⟨rfl, fun _ _ => rfl, hS_1.2.2⟩ (fun q h => h.elim) ⟨Nat.le_of_ble_eq_true rfl, Nat.le_of_ble_eq_true rfl⟩ (Nat.le_of_ble_eq_true rfl) ⟨Nat.le_of_ble_eq_true rfl, Nat.le_of_ble_eq_true rfl⟩ rfl dL_law_425 (fun r_2 H_2 locs_2 p_2 hT_2 hk_2 hS_2 => ?_)
  refine th_topi (y := (-1)) (show ((-1) : Int32) = r_2 from p_2.2).symm ?_
  have hX_2 : va_X b 4 xs s H_2 := hX_1.kept (hS_2.2.1 b (Nat.not_le.mpr hbB))
  refine lv_icmp_eq (tgt := 766) hx hb dL_law_428 (by decide) (fun c_ => ?_) (fun c_ => absurd (by decide) c_)
  exact kk H_2 locs_2 hS_2.2.2 hX_2
set_option maxHeartbeats 4000000 in
set_option maxRecDepth 100000 in
theorem w_twice_1 (E : EE p s m args c cL_law RL D cI cS) (hml : c.maxLocals = 4) (hl : lv_has ls 4 [(3, .int 0), (2, .ref (B + 178)), (1, .ref (B + 0)), (0, .ref b)]) (hWX : WF (tq B 0 178) (rq B)) (hWM : WF (tq B 178 186) (rq B)) (hTX : TH D cI cS (tq B 0 178) (rq B) H) (hFX : FX D B H) (hTM : TH D cI cS (tq B 178 186) (rq B) H) (hFM : FM D B H) (hX : va_X b 4 xs s H) (hbB : b < B) (hlo : ∀ x ∈ locs, B ≤ x.base) (l1 : 0 ≤ (xs 1).toInt) (kk : KL p l e s m args below meth c ls Q B b xs) : WL p l e s m args below meth c H locs ls Q 410 := by
  have hx := E.1
  have hb := E.2.1
  have hτX := ttX B
  have hτM := ttM B
  refine lv_aload_n hx hb dL_law_410 rfl (lv_at hl 2 rfl) ?_
  refine lv_aload_n hx hb dL_law_411 rfl (lv_at hl 3 rfl) ?_
  refine lv_iload_n hx hb dL_law_412 rfl (lv_at hl 0 rfl) ?_
  refine lv_iconst (v := 1) hx hb dL_law_413 (by decide) ?_
  refine lv_iadd hx hb dL_law_414 ?_
  refine th_topi (y := 1) (by decide) ?_
  refine lw_sld (j := 1) hx hb hX (by decide) (by decide) (by decide) dL_law_415 ?_
  refine th_Vi (A := fun q => B ≤ q) (As := [.int (xs 1)]) (rest := []) E hml hl.1 (c_X11_twice_v2 l D cI cS (tq B 0 178) (rq B) hWX H hTX (B + 0) (xs 1) hτX l1 hFX.2.2.2.2.2.2.2.2.2.1) lk_L_64 yd_X11_twice hTX hτX rfl (by decide) ⟨rfl, fun _ _ => rfl, hlo⟩ (fun q h => h.elim) ⟨Nat.le_of_ble_eq_true rfl, Nat.le_of_ble_eq_true rfl⟩ (Nat.le_of_ble_eq_true rfl) ⟨Nat.le_of_ble_eq_true rfl, Nat.le_of_ble_eq_true rfl⟩ rfl dL_law_416 (fun r_1 H_1 locs_1 p_1 hT_1 hk_1 hS_1 => ?_)
  refine th_topi (y := (-1)) (show ((-1) : Int32) = r_1 from p_1.2).symm ?_
  have kM : ∀ q, B + 178 ≤ q → H_1[q]? = H[q]? := fun q hq => hk_1 q (fun h => h.elim)
  have hTM := hTM.same (H1 := H_1) (fun q t h => kM q (by obtain ⟨j, rfl, z1, -, -⟩ := tq_some h; omega))
  have hFM := hFM.kept (H1 := H_1) kM
  have hX_1 : va_X b 4 xs s H_1 := hX.kept (hS_1.2.1 b (Nat.not_le.mpr hbB))
  refine lv_aload_n hx hb dL_law_419 rfl (lv_at hl 1 rfl) ?_
  refine lv_aload_n hx hb dL_law_420 rfl (lv_at hl 3 rfl) ?_
  refine lv_iload_n hx hb dL_law_421 rfl (lv_at hl 0 rfl) ?_
  refine lv_iconst (v := 1) hx hb dL_law_422 (by decide) ?_
  refine lv_iadd hx hb dL_law_423 ?_
  refine th_topi (y := 1) (by decide) ?_
  refine lw_sld (j := 1) hx hb hX_1 (by decide) (by decide) (by decide) dL_law_424 ?_
  refine th_Vi (A := fun q => B ≤ q) (As := [.int (xs 1)]) (rest := [.int (-1)]) E hml hl.1 (c_X12_twice_v2 l D cI cS (tq B 178 186) (rq B) hWM H_1 hTM (B + 178) (xs 1) hτM l1 ((hFM.2.2.2.2.1 976 (by decide)).trans (by decide))) lk_L_67 yd_X12_twice hTM hτM rfl (by decide) ⟨rfl, fun _ _ => rfl, hS_1.2.2⟩ (fun q h => h.elim) ⟨Nat.le_of_ble_eq_true rfl, Nat.le_of_ble_eq_true rfl⟩ (Nat.le_of_ble_eq_true rfl) ⟨Nat.le_of_ble_eq_true rfl, Nat.le_of_ble_eq_true rfl⟩ rfl dL_law_425 (fun r_2 H_2 locs_2 p_2 hT_2 hk_2 hS_2 => ?_)
  refine th_topi (y := (-1)) (show ((-1) : Int32) = r_2 from p_2.2).symm ?_
  have hX_2 : va_X b 4 xs s H_2 := hX_1.kept (hS_2.2.1 b (Nat.not_le.mpr hbB))
  refine lv_icmp_eq (tgt := 766) hx hb dL_law_428 (by decide) (fun c_ => ?_) (fun c_ => absurd (by decide) c_)
  exact kk H_2 locs_2 hS_2.2.2 hX_2
theorem w_twice (E : EE p s m args c cL_law RL D cI cS) (hml : c.maxLocals = 4) (hl : lv_has ls 4 [(3, .int 0), (2, .ref (B + 178)), (1, .ref (B + 0)), (0, .ref b)]) (hWX : WF (tq B 0 178) (rq B)) (hWM : WF (tq B 178 186) (rq B)) (hTX : TH D cI cS (tq B 0 178) (rq B) H) (hFX : FX D B H) (hTM : TH D cI cS (tq B 178 186) (rq B) H) (hFM : FM D B H) (hX : va_X b 4 xs s H) (hbB : b < B) (hlo : ∀ x ∈ locs, B ≤ x.base) (kk : KL p l e s m args below meth c ls Q B b xs) : WL p l e s m args below meth c H locs ls Q 410 := by
  rcases (show (xs 1).toInt ≤ -1 ∨ 0 ≤ (xs 1).toInt by omega) with g1 | l1
  · exact w_twice_0 E hml hl hWX hWM hTX hFX hTM hFM hX hbB hlo g1 kk
  · exact w_twice_1 E hml hl hWX hWM hTX hFX hTM hFM hX hbB hlo l1 kk
set_option maxHeartbeats 4000000 in
set_option maxRecDepth 100000 in
theorem w_pass_0 (E : EE p s m args c cL_law RL D cI cS) (hml : c.maxLocals = 4) (hl : lv_has ls 4 [(3, .int 0), (2, .ref (B + 178)), (1, .ref (B + 0)), (0, .ref b)]) (hWX : WF (tq B 0 178) (rq B)) (hWM : WF (tq B 178 186) (rq B)) (hTX : TH D cI cS (tq B 0 178) (rq B) H) (hFX : FX D B H) (hTM : TH D cI cS (tq B 178 186) (rq B) H) (hFM : FM D B H) (hX : va_X b 4 xs s H) (hbB : b < B) (hlo : ∀ x ∈ locs, B ≤ x.base) (g1 : (xs 1).toInt ≤ 0) (kk : KL p l e s m args below meth c ls Q B b xs) : WL p l e s m args below meth c H locs ls Q 433 := by
  have hx := E.1
  have hb := E.2.1
  have hτX := ttX B
  have hτM := ttM B
  refine lv_aload_n hx hb dL_law_433 rfl (lv_at hl 2 rfl) ?_
  refine lv_aload_n hx hb dL_law_434 rfl (lv_at hl 3 rfl) ?_
  refine lv_iload_n hx hb dL_law_435 rfl (lv_at hl 0 rfl) ?_
  refine lv_iconst (v := 1) hx hb dL_law_436 (by decide) ?_
  refine lv_iadd hx hb dL_law_437 ?_
  refine th_topi (y := 1) (by decide) ?_
  refine lw_sld (j := 1) hx hb hX (by decide) (by decide) (by decide) dL_law_438 ?_
  refine th_Vi (A := fun q => B ≤ q) (As := [.int (xs 1)]) (rest := []) E hml hl.1 (c_X11_pass l D cI cS (tq B 0 178) (rq B) hWX H hTX (B + 0) (xs 1) hτX g1) lk_L_68 yd_X11_pass hTX hτX rfl (by decide) ⟨rfl, fun _ _ => rfl, hlo⟩ (fun q h => h.elim) ⟨Nat.le_of_ble_eq_true rfl, Nat.le_of_ble_eq_true rfl⟩ (Nat.le_of_ble_eq_true rfl) ⟨Nat.le_of_ble_eq_true rfl, Nat.le_of_ble_eq_true rfl⟩ rfl dL_law_439 (fun r_1 H_1 locs_1 p_1 hT_1 hk_1 hS_1 => ?_)
  refine th_topi (y := (-1)) (show ((-1) : Int32) = r_1 from p_1.2).symm ?_
  have kM : ∀ q, B + 178 ≤ q → H_1[q]? = H[q]? := fun q hq => hk_1 q (fun h => h.elim)
  have hTM := hTM.same (H1 := H_1) (fun q t h => kM q (by obtain ⟨j, rfl, z1, -, -⟩ := tq_some h; omega))
  have hFM := hFM.kept (H1 := H_1) kM
  have hX_1 : va_X b 4 xs s H_1 := hX.kept (hS_1.2.1 b (Nat.not_le.mpr hbB))
  refine lv_aload_n hx hb dL_law_442 rfl (lv_at hl 1 rfl) ?_
  refine lv_aload_n hx hb dL_law_443 rfl (lv_at hl 3 rfl) ?_
  refine lv_iload_n hx hb dL_law_444 rfl (lv_at hl 0 rfl) ?_
  refine lv_iconst (v := 1) hx hb dL_law_445 (by decide) ?_
  refine lv_iadd hx hb dL_law_446 ?_
  refine th_topi (y := 1) (by decide) ?_
  refine lw_sld (j := 1) hx hb hX_1 (by decide) (by decide) (by decide) dL_law_447 ?_
  refine th_Vi (A := fun q => B ≤ q) (As := [.int (xs 1)]) (rest := [.int (-1)]) E hml hl.1 (c_X12_pass l D cI cS (tq B 178 186) (rq B) hWM H_1 hTM (B + 178) (xs 1) hτM g1) lk_L_71 yd_X12_pass hTM hτM rfl (by decide) ⟨rfl, fun _ _ => rfl, hS_1.2.2⟩ (fun q h => h.elim) ⟨Nat.le_of_ble_eq_true rfl, Nat.le_of_ble_eq_true rfl⟩ (Nat.le_of_ble_eq_true rfl) ⟨Nat.le_of_ble_eq_true rfl, Nat.le_of_ble_eq_true rfl⟩ rfl dL_law_448 (fun r_2 H_2 locs_2 p_2 hT_2 hk_2 hS_2 => ?_)
  refine th_topi (y := (-1)) (show ((-1) : Int32) = r_2 from p_2.2).symm ?_
  have hX_2 : va_X b 4 xs s H_2 := hX_1.kept (hS_2.2.1 b (Nat.not_le.mpr hbB))
  refine lv_icmp_eq (tgt := 766) hx hb dL_law_451 (by decide) (fun c_ => ?_) (fun c_ => absurd (by decide) c_)
  exact kk H_2 locs_2 hS_2.2.2 hX_2
set_option maxHeartbeats 4000000 in
set_option maxRecDepth 100000 in
theorem w_pass_1 (E : EE p s m args c cL_law RL D cI cS) (hml : c.maxLocals = 4) (hl : lv_has ls 4 [(3, .int 0), (2, .ref (B + 178)), (1, .ref (B + 0)), (0, .ref b)]) (hWX : WF (tq B 0 178) (rq B)) (hWM : WF (tq B 178 186) (rq B)) (hTX : TH D cI cS (tq B 0 178) (rq B) H) (hFX : FX D B H) (hTM : TH D cI cS (tq B 178 186) (rq B) H) (hFM : FM D B H) (hX : va_X b 4 xs s H) (hbB : b < B) (hlo : ∀ x ∈ locs, B ≤ x.base) (l1 : 1 ≤ (xs 1).toInt) (g1 : (xs 1).toInt ≤ 100) (kk : KL p l e s m args below meth c ls Q B b xs) : WL p l e s m args below meth c H locs ls Q 433 := by
  have hx := E.1
  have hb := E.2.1
  have hτX := ttX B
  have hτM := ttM B
  refine lv_aload_n hx hb dL_law_433 rfl (lv_at hl 2 rfl) ?_
  refine lv_aload_n hx hb dL_law_434 rfl (lv_at hl 3 rfl) ?_
  refine lv_iload_n hx hb dL_law_435 rfl (lv_at hl 0 rfl) ?_
  refine lv_iconst (v := 1) hx hb dL_law_436 (by decide) ?_
  refine lv_iadd hx hb dL_law_437 ?_
  refine th_topi (y := 1) (by decide) ?_
  refine lw_sld (j := 1) hx hb hX (by decide) (by decide) (by decide) dL_law_438 ?_
  refine th_Vi (A := fun q => B ≤ q) (As := [.int (xs 1)]) (rest := []) E hml hl.1 (c_X11_pass_v2 l D cI cS (tq B 0 178) (rq B) hWX H hTX (B + 0) (xs 1) hτX l1 g1 (by rw [qx_4, qx_16]; omega) hFX.2.2.2.2.2.2.2.2.2.2.2.2.2.2.2.2.2.2.2.2.2.2.2.2.2.2.2.2.2.2.2.2.1 hFX.2.2.2.2.2.2.2.2.2.2.2.2.2.2.2.2.2.2.2.2.2.2.2.2.2.2.2.2.2.2.2.1 (by rw [qx_6, qx_16]; omega) hFX.2.2.2.2.2.2.2.2.2.2.2.2.2.2.2.2.2.2.2.2.2.2.2.2.2.2.2.2.2.2.2.2.2.2.2.2.2.2.2.2.2.2.2.2.2.2.2.2.2.2.2.2.2.2.1 hFX.2.2.2.2.2.2.2.2.2.2.2.2.2.2.2.2.2.2.2.2.2.2.2.2.2.2.2.2.2.2.2.2.2.2.2.2.2.2.2.2.2.2.2.2.2.2.2.2.2.2.2.2.2.1 hFX.2.2.2.2.2.2.2.2.2.2.1) lk_L_68 yd_X11_pass hTX hτX rfl (by decide) ⟨rfl, fun _ _ => rfl, hlo⟩ (fun q h => by have h : q = rq B (rq B (B + 0) 2) 2 := h; simp only [qn_0_2, qn_4_2] at h; show B ≤ q; omega) ⟨Nat.le_of_ble_eq_true rfl, Nat.le_of_ble_eq_true rfl⟩ (Nat.le_of_ble_eq_true rfl) ⟨Nat.le_of_ble_eq_true rfl, Nat.le_of_ble_eq_true rfl⟩ rfl dL_law_439 (fun r_1 H_1 locs_1 p_1 hT_1 hk_1 hS_1 => ?_)
  refine th_topi (y := (xs 1)) (show (xs 1) = r_1 from p_1).symm ?_
  have kM : ∀ q, B + 178 ≤ q → H_1[q]? = H[q]? := fun q hq => hk_1 q (fun h => by have h : q = rq B (rq B (B + 0) 2) 2 := h; simp only [qn_0_2, qn_4_2] at h; omega)
  have hTM := hTM.same (H1 := H_1) (fun q t h => kM q (by obtain ⟨j, rfl, z1, -, -⟩ := tq_some h; omega))
  have hFM := hFM.kept (H1 := H_1) kM
  have hX_1 : va_X b 4 xs s H_1 := hX.kept (hS_1.2.1 b (Nat.not_le.mpr hbB))
  refine lv_aload_n hx hb dL_law_442 rfl (lv_at hl 1 rfl) ?_
  refine lv_aload_n hx hb dL_law_443 rfl (lv_at hl 3 rfl) ?_
  refine lv_iload_n hx hb dL_law_444 rfl (lv_at hl 0 rfl) ?_
  refine lv_iconst (v := 1) hx hb dL_law_445 (by decide) ?_
  refine lv_iadd hx hb dL_law_446 ?_
  refine th_topi (y := 1) (by decide) ?_
  refine lw_sld (j := 1) hx hb hX_1 (by decide) (by decide) (by decide) dL_law_447 ?_
  refine th_Vi (A := fun q => B ≤ q) (As := [.int (xs 1)]) (rest := [.int (xs 1)]) E hml hl.1 (c_X12_pass_v2 l D cI cS (tq B 178 186) (rq B) hWM H_1 hTM (B + 178) (xs 1) hτM l1 g1 ((hFM.2.2.2.2.1 12 (by decide)).trans (by decide)) ((hFM.2.2.2.2.1 11 (by decide)).trans (by decide)) ((hFM.2.2.2.2.1 300 (by decide)).trans (by decide)) ((hFM.2.2.2.2.1 299 (by decide)).trans (by decide)) ((hFM.2.2.2.2.1 977 (by decide)).trans (by decide))) lk_L_71 yd_X12_pass hTM hτM rfl (by decide) ⟨rfl, fun _ _ => rfl, hS_1.2.2⟩ (fun q h => by have h : q = rq B (B + 178) 0 := h; simp only [qn_178_0] at h; show B ≤ q; omega) ⟨Nat.le_of_ble_eq_true rfl, Nat.le_of_ble_eq_true rfl⟩ (Nat.le_of_ble_eq_true rfl) ⟨Nat.le_of_ble_eq_true rfl, Nat.le_of_ble_eq_true rfl⟩ rfl dL_law_448 (fun r_2 H_2 locs_2 p_2 hT_2 hk_2 hS_2 => ?_)
  refine th_topi (y := (xs 1)) (show (xs 1) = r_2 from p_2).symm ?_
  have hX_2 : va_X b 4 xs s H_2 := hX_1.kept (hS_2.2.1 b (Nat.not_le.mpr hbB))
  refine lv_icmp_eq (tgt := 766) hx hb dL_law_451 (by decide) (fun c_ => ?_) (fun c_ => absurd rfl c_)
  exact kk H_2 locs_2 hS_2.2.2 hX_2
set_option maxHeartbeats 4000000 in
set_option maxRecDepth 100000 in
theorem w_pass_2 (E : EE p s m args c cL_law RL D cI cS) (hml : c.maxLocals = 4) (hl : lv_has ls 4 [(3, .int 0), (2, .ref (B + 178)), (1, .ref (B + 0)), (0, .ref b)]) (hWX : WF (tq B 0 178) (rq B)) (hWM : WF (tq B 178 186) (rq B)) (hTX : TH D cI cS (tq B 0 178) (rq B) H) (hFX : FX D B H) (hTM : TH D cI cS (tq B 178 186) (rq B) H) (hFM : FM D B H) (hX : va_X b 4 xs s H) (hbB : b < B) (hlo : ∀ x ∈ locs, B ≤ x.base) (l1 : 101 ≤ (xs 1).toInt) (kk : KL p l e s m args below meth c ls Q B b xs) : WL p l e s m args below meth c H locs ls Q 433 := by
  have hx := E.1
  have hb := E.2.1
  have hτX := ttX B
  have hτM := ttM B
  refine lv_aload_n hx hb dL_law_433 rfl (lv_at hl 2 rfl) ?_
  refine lv_aload_n hx hb dL_law_434 rfl (lv_at hl 3 rfl) ?_
  refine lv_iload_n hx hb dL_law_435 rfl (lv_at hl 0 rfl) ?_
  refine lv_iconst (v := 1) hx hb dL_law_436 (by decide) ?_
  refine lv_iadd hx hb dL_law_437 ?_
  refine th_topi (y := 1) (by decide) ?_
  refine lw_sld (j := 1) hx hb hX (by decide) (by decide) (by decide) dL_law_438 ?_
  refine th_Vi (A := fun q => B ≤ q) (As := [.int (xs 1)]) (rest := []) E hml hl.1 (c_X11_pass_v3 l D cI cS (tq B 0 178) (rq B) hWX H hTX (B + 0) (xs 1) hτX l1) lk_L_68 yd_X11_pass hTX hτX rfl (by decide) ⟨rfl, fun _ _ => rfl, hlo⟩ (fun q h => h.elim) ⟨Nat.le_of_ble_eq_true rfl, Nat.le_of_ble_eq_true rfl⟩ (Nat.le_of_ble_eq_true rfl) ⟨Nat.le_of_ble_eq_true rfl, Nat.le_of_ble_eq_true rfl⟩ rfl dL_law_439 (fun r_1 H_1 locs_1 p_1 hT_1 hk_1 hS_1 => ?_)
  refine th_topi (y := (-1)) (show ((-1) : Int32) = r_1 from p_1.2).symm ?_
  have kM : ∀ q, B + 178 ≤ q → H_1[q]? = H[q]? := fun q hq => hk_1 q (fun h => h.elim)
  have hTM := hTM.same (H1 := H_1) (fun q t h => kM q (by obtain ⟨j, rfl, z1, -, -⟩ := tq_some h; omega))
  have hFM := hFM.kept (H1 := H_1) kM
  have hX_1 : va_X b 4 xs s H_1 := hX.kept (hS_1.2.1 b (Nat.not_le.mpr hbB))
  refine lv_aload_n hx hb dL_law_442 rfl (lv_at hl 1 rfl) ?_
  refine lv_aload_n hx hb dL_law_443 rfl (lv_at hl 3 rfl) ?_
  refine lv_iload_n hx hb dL_law_444 rfl (lv_at hl 0 rfl) ?_
  refine lv_iconst (v := 1) hx hb dL_law_445 (by decide) ?_
  refine lv_iadd hx hb dL_law_446 ?_
  refine th_topi (y := 1) (by decide) ?_
  refine lw_sld (j := 1) hx hb hX_1 (by decide) (by decide) (by decide) dL_law_447 ?_
  refine th_Vi (A := fun q => B ≤ q) (As := [.int (xs 1)]) (rest := [.int (-1)]) E hml hl.1 (c_X12_pass_v3 l D cI cS (tq B 178 186) (rq B) hWM H_1 hTM (B + 178) (xs 1) hτM l1) lk_L_71 yd_X12_pass hTM hτM rfl (by decide) ⟨rfl, fun _ _ => rfl, hS_1.2.2⟩ (fun q h => h.elim) ⟨Nat.le_of_ble_eq_true rfl, Nat.le_of_ble_eq_true rfl⟩ (Nat.le_of_ble_eq_true rfl) ⟨Nat.le_of_ble_eq_true rfl, Nat.le_of_ble_eq_true rfl⟩ rfl dL_law_448 (fun r_2 H_2 locs_2 p_2 hT_2 hk_2 hS_2 => ?_)
  refine th_topi (y := (-1)) (show ((-1) : Int32) = r_2 from p_2.2).symm ?_
  have hX_2 : va_X b 4 xs s H_2 := hX_1.kept (hS_2.2.1 b (Nat.not_le.mpr hbB))
  refine lv_icmp_eq (tgt := 766) hx hb dL_law_451 (by decide) (fun c_ => ?_) (fun c_ => absurd (by decide) c_)
  exact kk H_2 locs_2 hS_2.2.2 hX_2
theorem w_pass (E : EE p s m args c cL_law RL D cI cS) (hml : c.maxLocals = 4) (hl : lv_has ls 4 [(3, .int 0), (2, .ref (B + 178)), (1, .ref (B + 0)), (0, .ref b)]) (hWX : WF (tq B 0 178) (rq B)) (hWM : WF (tq B 178 186) (rq B)) (hTX : TH D cI cS (tq B 0 178) (rq B) H) (hFX : FX D B H) (hTM : TH D cI cS (tq B 178 186) (rq B) H) (hFM : FM D B H) (hX : va_X b 4 xs s H) (hbB : b < B) (hlo : ∀ x ∈ locs, B ≤ x.base) (kk : KL p l e s m args below meth c ls Q B b xs) : WL p l e s m args below meth c H locs ls Q 433 := by
  rcases (show (xs 1).toInt ≤ 0 ∨ (1 ≤ (xs 1).toInt ∧ (xs 1).toInt ≤ 100) ∨ 101 ≤ (xs 1).toInt by omega) with g1 | ⟨l1, g1⟩ | l1
  · exact w_pass_0 E hml hl hWX hWM hTX hFX hTM hFM hX hbB hlo g1 kk
  · exact w_pass_1 E hml hl hWX hWM hTX hFX hTM hFM hX hbB hlo l1 g1 kk
  · exact w_pass_2 E hml hl hWX hWM hTX hFX hTM hFM hX hbB hlo l1 kk
set_option maxHeartbeats 4000000 in
set_option maxRecDepth 100000 in
theorem w_drive_0 (E : EE p s m args c cL_law RL D cI cS) (hml : c.maxLocals = 4) (hl : lv_has ls 4 [(3, .int 0), (2, .ref (B + 178)), (1, .ref (B + 0)), (0, .ref b)]) (hWX : WF (tq B 0 178) (rq B)) (hWM : WF (tq B 178 186) (rq B)) (hTX : TH D cI cS (tq B 0 178) (rq B) H) (hFX : FX D B H) (hTM : TH D cI cS (tq B 178 186) (rq B) H) (hFM : FM D B H) (hX : va_X b 4 xs s H) (hbB : b < B) (hlo : ∀ x ∈ locs, B ≤ x.base) (g1 : (xs 1).toInt ≤ -1) (kk : KL p l e s m args below meth c ls Q B b xs) : WL p l e s m args below meth c H locs ls Q 456 := by
  have hx := E.1
  have hb := E.2.1
  have hτX := ttX B
  have hτM := ttM B
  refine lv_aload_n hx hb dL_law_456 rfl (lv_at hl 2 rfl) ?_
  refine lv_aload_n hx hb dL_law_457 rfl (lv_at hl 3 rfl) ?_
  refine lv_iload_n hx hb dL_law_458 rfl (lv_at hl 0 rfl) ?_
  refine lv_iconst (v := 1) hx hb dL_law_459 (by decide) ?_
  refine lv_iadd hx hb dL_law_460 ?_
  refine th_topi (y := 1) (by decide) ?_
  refine lw_sld (j := 1) hx hb hX (by decide) (by decide) (by decide) dL_law_461 ?_
  refine lv_aload_n hx hb dL_law_462 rfl (lv_at hl 3 rfl) ?_
  refine lv_iload_n hx hb dL_law_463 rfl (lv_at hl 0 rfl) ?_
  refine lv_iconst (v := 2) hx hb dL_law_464 (by decide) ?_
  refine lv_iadd hx hb dL_law_465 ?_
  refine th_topi (y := 2) (by decide) ?_
  refine lw_sld (j := 2) hx hb hX (by decide) (by decide) (by decide) dL_law_466 ?_
  refine th_Vi (A := fun q => B ≤ q) (As := [.int (xs 1), .int (xs 2)]) (rest := []) E hml hl.1 (c_X11_drive l D cI cS (tq B 0 178) (rq B) hWX H hTX (B + 0) (xs 1) (xs 2) hτX g1) lk_L_72 yd_X11_drive hTX hτX rfl (by decide) ⟨rfl, fun _ _ => rfl, hlo⟩ (fun q h => h.elim) ⟨Nat.le_of_ble_eq_true rfl, Nat.le_of_ble_eq_true rfl⟩ (Nat.le_of_ble_eq_true rfl) ⟨Nat.le_of_ble_eq_true rfl, Nat.le_of_ble_eq_true rfl⟩ rfl dL_law_467 (fun r_1 H_1 locs_1 p_1 hT_1 hk_1 hS_1 => ?_)
  refine th_topi (y := (-1)) (show ((-1) : Int32) = r_1 from p_1.2).symm ?_
  have kM : ∀ q, B + 178 ≤ q → H_1[q]? = H[q]? := fun q hq => hk_1 q (fun h => h.elim)
  have hTM := hTM.same (H1 := H_1) (fun q t h => kM q (by obtain ⟨j, rfl, z1, -, -⟩ := tq_some h; omega))
  have hFM := hFM.kept (H1 := H_1) kM
  have hX_1 : va_X b 4 xs s H_1 := hX.kept (hS_1.2.1 b (Nat.not_le.mpr hbB))
  refine lv_aload_n hx hb dL_law_470 rfl (lv_at hl 1 rfl) ?_
  refine lv_aload_n hx hb dL_law_471 rfl (lv_at hl 3 rfl) ?_
  refine lv_iload_n hx hb dL_law_472 rfl (lv_at hl 0 rfl) ?_
  refine lv_iconst (v := 1) hx hb dL_law_473 (by decide) ?_
  refine lv_iadd hx hb dL_law_474 ?_
  refine th_topi (y := 1) (by decide) ?_
  refine lw_sld (j := 1) hx hb hX_1 (by decide) (by decide) (by decide) dL_law_475 ?_
  refine lv_aload_n hx hb dL_law_476 rfl (lv_at hl 3 rfl) ?_
  refine lv_iload_n hx hb dL_law_477 rfl (lv_at hl 0 rfl) ?_
  refine lv_iconst (v := 2) hx hb dL_law_478 (by decide) ?_
  refine lv_iadd hx hb dL_law_479 ?_
  refine th_topi (y := 2) (by decide) ?_
  refine lw_sld (j := 2) hx hb hX_1 (by decide) (by decide) (by decide) dL_law_480 ?_
  refine th_Vi (A := fun q => B ≤ q) (As := [.int (xs 1), .int (xs 2)]) (rest := [.int (-1)]) E hml hl.1 (c_X12_drive l D cI cS (tq B 178 186) (rq B) hWM H_1 hTM (B + 178) (xs 1) (xs 2) hτM g1) lk_L_75 yd_X12_drive hTM hτM rfl (by decide) ⟨rfl, fun _ _ => rfl, hS_1.2.2⟩ (fun q h => h.elim) ⟨Nat.le_of_ble_eq_true rfl, Nat.le_of_ble_eq_true rfl⟩ (Nat.le_of_ble_eq_true rfl) ⟨Nat.le_of_ble_eq_true rfl, Nat.le_of_ble_eq_true rfl⟩ rfl dL_law_481 (fun r_2 H_2 locs_2 p_2 hT_2 hk_2 hS_2 => ?_)
  refine th_topi (y := (-1)) (show ((-1) : Int32) = r_2 from p_2.2).symm ?_
  have hX_2 : va_X b 4 xs s H_2 := hX_1.kept (hS_2.2.1 b (Nat.not_le.mpr hbB))
  refine lv_icmp_eq (tgt := 766) hx hb dL_law_484 (by decide) (fun c_ => ?_) (fun c_ => absurd (by decide) c_)
  exact kk H_2 locs_2 hS_2.2.2 hX_2
set_option maxHeartbeats 4000000 in
set_option maxRecDepth 100000 in
theorem w_drive_1 (E : EE p s m args c cL_law RL D cI cS) (hml : c.maxLocals = 4) (hl : lv_has ls 4 [(3, .int 0), (2, .ref (B + 178)), (1, .ref (B + 0)), (0, .ref b)]) (hWX : WF (tq B 0 178) (rq B)) (hWM : WF (tq B 178 186) (rq B)) (hTX : TH D cI cS (tq B 0 178) (rq B) H) (hFX : FX D B H) (hTM : TH D cI cS (tq B 178 186) (rq B) H) (hFM : FM D B H) (hX : va_X b 4 xs s H) (hbB : b < B) (hlo : ∀ x ∈ locs, B ≤ x.base) (l1 : 10000 ≤ (xs 1).toInt) (kk : KL p l e s m args below meth c ls Q B b xs) : WL p l e s m args below meth c H locs ls Q 456 := by
  have hx := E.1
  have hb := E.2.1
  have hτX := ttX B
  have hτM := ttM B
  refine lv_aload_n hx hb dL_law_456 rfl (lv_at hl 2 rfl) ?_
  refine lv_aload_n hx hb dL_law_457 rfl (lv_at hl 3 rfl) ?_
  refine lv_iload_n hx hb dL_law_458 rfl (lv_at hl 0 rfl) ?_
  refine lv_iconst (v := 1) hx hb dL_law_459 (by decide) ?_
  refine lv_iadd hx hb dL_law_460 ?_
  refine th_topi (y := 1) (by decide) ?_
  refine lw_sld (j := 1) hx hb hX (by decide) (by decide) (by decide) dL_law_461 ?_
  refine lv_aload_n hx hb dL_law_462 rfl (lv_at hl 3 rfl) ?_
  refine lv_iload_n hx hb dL_law_463 rfl (lv_at hl 0 rfl) ?_
  refine lv_iconst (v := 2) hx hb dL_law_464 (by decide) ?_
  refine lv_iadd hx hb dL_law_465 ?_
  refine th_topi (y := 2) (by decide) ?_
  refine lw_sld (j := 2) hx hb hX (by decide) (by decide) (by decide) dL_law_466 ?_
  refine th_Vi (A := fun q => B ≤ q) (As := [.int (xs 1), .int (xs 2)]) (rest := []) E hml hl.1 (c_X11_drive_v2 l D cI cS (tq B 0 178) (rq B) hWX H hTX (B + 0) (xs 1) (xs 2) hτX l1) lk_L_72 yd_X11_drive hTX hτX rfl (by decide) ⟨rfl, fun _ _ => rfl, hlo⟩ (fun q h => h.elim) ⟨Nat.le_of_ble_eq_true rfl, Nat.le_of_ble_eq_true rfl⟩ (Nat.le_of_ble_eq_true rfl) ⟨Nat.le_of_ble_eq_true rfl, Nat.le_of_ble_eq_true rfl⟩ rfl dL_law_467 (fun r_1 H_1 locs_1 p_1 hT_1 hk_1 hS_1 => ?_)
  refine th_topi (y := (-1)) (show ((-1) : Int32) = r_1 from p_1.2).symm ?_
  have kM : ∀ q, B + 178 ≤ q → H_1[q]? = H[q]? := fun q hq => hk_1 q (fun h => h.elim)
  have hTM := hTM.same (H1 := H_1) (fun q t h => kM q (by obtain ⟨j, rfl, z1, -, -⟩ := tq_some h; omega))
  have hFM := hFM.kept (H1 := H_1) kM
  have hX_1 : va_X b 4 xs s H_1 := hX.kept (hS_1.2.1 b (Nat.not_le.mpr hbB))
  refine lv_aload_n hx hb dL_law_470 rfl (lv_at hl 1 rfl) ?_
  refine lv_aload_n hx hb dL_law_471 rfl (lv_at hl 3 rfl) ?_
  refine lv_iload_n hx hb dL_law_472 rfl (lv_at hl 0 rfl) ?_
  refine lv_iconst (v := 1) hx hb dL_law_473 (by decide) ?_
  refine lv_iadd hx hb dL_law_474 ?_
  refine th_topi (y := 1) (by decide) ?_
  refine lw_sld (j := 1) hx hb hX_1 (by decide) (by decide) (by decide) dL_law_475 ?_
  refine lv_aload_n hx hb dL_law_476 rfl (lv_at hl 3 rfl) ?_
  refine lv_iload_n hx hb dL_law_477 rfl (lv_at hl 0 rfl) ?_
  refine lv_iconst (v := 2) hx hb dL_law_478 (by decide) ?_
  refine lv_iadd hx hb dL_law_479 ?_
  refine th_topi (y := 2) (by decide) ?_
  refine lw_sld (j := 2) hx hb hX_1 (by decide) (by decide) (by decide) dL_law_480 ?_
  refine th_Vi (A := fun q => B ≤ q) (As := [.int (xs 1), .int (xs 2)]) (rest := [.int (-1)]) E hml hl.1 (c_X12_drive_v2 l D cI cS (tq B 178 186) (rq B) hWM H_1 hTM (B + 178) (xs 1) (xs 2) hτM l1) lk_L_75 yd_X12_drive hTM hτM rfl (by decide) ⟨rfl, fun _ _ => rfl, hS_1.2.2⟩ (fun q h => h.elim) ⟨Nat.le_of_ble_eq_true rfl, Nat.le_of_ble_eq_true rfl⟩ (Nat.le_of_ble_eq_true rfl) ⟨Nat.le_of_ble_eq_true rfl, Nat.le_of_ble_eq_true rfl⟩ rfl dL_law_481 (fun r_2 H_2 locs_2 p_2 hT_2 hk_2 hS_2 => ?_)
  refine th_topi (y := (-1)) (show ((-1) : Int32) = r_2 from p_2.2).symm ?_
  have hX_2 : va_X b 4 xs s H_2 := hX_1.kept (hS_2.2.1 b (Nat.not_le.mpr hbB))
  refine lv_icmp_eq (tgt := 766) hx hb dL_law_484 (by decide) (fun c_ => ?_) (fun c_ => absurd (by decide) c_)
  exact kk H_2 locs_2 hS_2.2.2 hX_2
set_option maxHeartbeats 4000000 in
set_option maxRecDepth 100000 in
theorem w_drive_2 (E : EE p s m args c cL_law RL D cI cS) (hml : c.maxLocals = 4) (hl : lv_has ls 4 [(3, .int 0), (2, .ref (B + 178)), (1, .ref (B + 0)), (0, .ref b)]) (hWX : WF (tq B 0 178) (rq B)) (hWM : WF (tq B 178 186) (rq B)) (hTX : TH D cI cS (tq B 0 178) (rq B) H) (hFX : FX D B H) (hTM : TH D cI cS (tq B 178 186) (rq B) H) (hFM : FM D B H) (hX : va_X b 4 xs s H) (hbB : b < B) (hlo : ∀ x ∈ locs, B ≤ x.base) (l1 : 0 ≤ (xs 1).toInt) (g1 : (xs 1).toInt ≤ 9999) (g2 : (xs 2).toInt ≤ 0) (kk : KL p l e s m args below meth c ls Q B b xs) : WL p l e s m args below meth c H locs ls Q 456 := by
  have hx := E.1
  have hb := E.2.1
  have hτX := ttX B
  have hτM := ttM B
  refine lv_aload_n hx hb dL_law_456 rfl (lv_at hl 2 rfl) ?_
  refine lv_aload_n hx hb dL_law_457 rfl (lv_at hl 3 rfl) ?_
  refine lv_iload_n hx hb dL_law_458 rfl (lv_at hl 0 rfl) ?_
  refine lv_iconst (v := 1) hx hb dL_law_459 (by decide) ?_
  refine lv_iadd hx hb dL_law_460 ?_
  refine th_topi (y := 1) (by decide) ?_
  refine lw_sld (j := 1) hx hb hX (by decide) (by decide) (by decide) dL_law_461 ?_
  refine lv_aload_n hx hb dL_law_462 rfl (lv_at hl 3 rfl) ?_
  refine lv_iload_n hx hb dL_law_463 rfl (lv_at hl 0 rfl) ?_
  refine lv_iconst (v := 2) hx hb dL_law_464 (by decide) ?_
  refine lv_iadd hx hb dL_law_465 ?_
  refine th_topi (y := 2) (by decide) ?_
  refine lw_sld (j := 2) hx hb hX (by decide) (by decide) (by decide) dL_law_466 ?_
  refine th_Vi (A := fun q => B ≤ q) (As := [.int (xs 1), .int (xs 2)]) (rest := []) E hml hl.1 (c_X11_drive_v3 l D cI cS (tq B 0 178) (rq B) hWX H hTX (B + 0) (xs 1) (xs 2) hτX l1 g1 g2) lk_L_72 yd_X11_drive hTX hτX rfl (by decide) ⟨rfl, fun _ _ => rfl, hlo⟩ (fun q h => h.elim) ⟨Nat.le_of_ble_eq_true rfl, Nat.le_of_ble_eq_true rfl⟩ (Nat.le_of_ble_eq_true rfl) ⟨Nat.le_of_ble_eq_true rfl, Nat.le_of_ble_eq_true rfl⟩ rfl dL_law_467 (fun r_1 H_1 locs_1 p_1 hT_1 hk_1 hS_1 => ?_)
  refine th_topi (y := (-1)) (show ((-1) : Int32) = r_1 from p_1.2).symm ?_
  have kM : ∀ q, B + 178 ≤ q → H_1[q]? = H[q]? := fun q hq => hk_1 q (fun h => h.elim)
  have hTM := hTM.same (H1 := H_1) (fun q t h => kM q (by obtain ⟨j, rfl, z1, -, -⟩ := tq_some h; omega))
  have hFM := hFM.kept (H1 := H_1) kM
  have hX_1 : va_X b 4 xs s H_1 := hX.kept (hS_1.2.1 b (Nat.not_le.mpr hbB))
  refine lv_aload_n hx hb dL_law_470 rfl (lv_at hl 1 rfl) ?_
  refine lv_aload_n hx hb dL_law_471 rfl (lv_at hl 3 rfl) ?_
  refine lv_iload_n hx hb dL_law_472 rfl (lv_at hl 0 rfl) ?_
  refine lv_iconst (v := 1) hx hb dL_law_473 (by decide) ?_
  refine lv_iadd hx hb dL_law_474 ?_
  refine th_topi (y := 1) (by decide) ?_
  refine lw_sld (j := 1) hx hb hX_1 (by decide) (by decide) (by decide) dL_law_475 ?_
  refine lv_aload_n hx hb dL_law_476 rfl (lv_at hl 3 rfl) ?_
  refine lv_iload_n hx hb dL_law_477 rfl (lv_at hl 0 rfl) ?_
  refine lv_iconst (v := 2) hx hb dL_law_478 (by decide) ?_
  refine lv_iadd hx hb dL_law_479 ?_
  refine th_topi (y := 2) (by decide) ?_
  refine lw_sld (j := 2) hx hb hX_1 (by decide) (by decide) (by decide) dL_law_480 ?_
  refine th_Vi (A := fun q => B ≤ q) (As := [.int (xs 1), .int (xs 2)]) (rest := [.int (-1)]) E hml hl.1 (c_X12_drive_v3 l D cI cS (tq B 178 186) (rq B) hWM H_1 hTM (B + 178) (xs 1) (xs 2) hτM l1 g1 g2) lk_L_75 yd_X12_drive hTM hτM rfl (by decide) ⟨rfl, fun _ _ => rfl, hS_1.2.2⟩ (fun q h => h.elim) ⟨Nat.le_of_ble_eq_true rfl, Nat.le_of_ble_eq_true rfl⟩ (Nat.le_of_ble_eq_true rfl) ⟨Nat.le_of_ble_eq_true rfl, Nat.le_of_ble_eq_true rfl⟩ rfl dL_law_481 (fun r_2 H_2 locs_2 p_2 hT_2 hk_2 hS_2 => ?_)
  refine th_topi (y := (-1)) (show ((-1) : Int32) = r_2 from p_2.2).symm ?_
  have hX_2 : va_X b 4 xs s H_2 := hX_1.kept (hS_2.2.1 b (Nat.not_le.mpr hbB))
  refine lv_icmp_eq (tgt := 766) hx hb dL_law_484 (by decide) (fun c_ => ?_) (fun c_ => absurd (by decide) c_)
  exact kk H_2 locs_2 hS_2.2.2 hX_2
set_option maxHeartbeats 4000000 in
set_option maxRecDepth 100000 in
theorem w_drive_3 (E : EE p s m args c cL_law RL D cI cS) (hml : c.maxLocals = 4) (hl : lv_has ls 4 [(3, .int 0), (2, .ref (B + 178)), (1, .ref (B + 0)), (0, .ref b)]) (hWX : WF (tq B 0 178) (rq B)) (hWM : WF (tq B 178 186) (rq B)) (hTX : TH D cI cS (tq B 0 178) (rq B) H) (hFX : FX D B H) (hTM : TH D cI cS (tq B 178 186) (rq B) H) (hFM : FM D B H) (hX : va_X b 4 xs s H) (hbB : b < B) (hlo : ∀ x ∈ locs, B ≤ x.base) (l1 : 0 ≤ (xs 1).toInt) (g1 : (xs 1).toInt ≤ 9999) (l2 : 1 ≤ (xs 2).toInt) (g2 : (xs 2).toInt ≤ 60) (kk : KL p l e s m args below meth c ls Q B b xs) : WL p l e s m args below meth c H locs ls Q 456 := by
  have hx := E.1
  have hb := E.2.1
  have hτX := ttX B
  have hτM := ttM B
  refine lv_aload_n hx hb dL_law_456 rfl (lv_at hl 2 rfl) ?_
  refine lv_aload_n hx hb dL_law_457 rfl (lv_at hl 3 rfl) ?_
  refine lv_iload_n hx hb dL_law_458 rfl (lv_at hl 0 rfl) ?_
  refine lv_iconst (v := 1) hx hb dL_law_459 (by decide) ?_
  refine lv_iadd hx hb dL_law_460 ?_
  refine th_topi (y := 1) (by decide) ?_
  refine lw_sld (j := 1) hx hb hX (by decide) (by decide) (by decide) dL_law_461 ?_
  refine lv_aload_n hx hb dL_law_462 rfl (lv_at hl 3 rfl) ?_
  refine lv_iload_n hx hb dL_law_463 rfl (lv_at hl 0 rfl) ?_
  refine lv_iconst (v := 2) hx hb dL_law_464 (by decide) ?_
  refine lv_iadd hx hb dL_law_465 ?_
  refine th_topi (y := 2) (by decide) ?_
  refine lw_sld (j := 2) hx hb hX (by decide) (by decide) (by decide) dL_law_466 ?_
  refine th_Vi (A := fun q => B ≤ q) (As := [.int (xs 1), .int (xs 2)]) (rest := []) E hml hl.1 (c_X11_drive_v4 l D cI cS (tq B 0 178) (rq B) hWX H hTX (B + 0) (xs 1) (xs 2) hτX l1 g1 l2 g2 (by rw [qx_17, qx_16]; omega) hFX.2.2.2.2.2.2.2.2.2.1 (by rw [qx_17, qx_16]; omega) hFX.2.2.2.2.2.2.2.2.2.1 (by rw [qx_4, qx_16]; omega) hFX.2.2.2.2.2.2.2.2.2.2.2.2.2.2.2.2.2.2.2.2.2.2.2.2.2.2.2.2.2.2.2.2.1 hFX.2.2.2.2.2.2.2.2.2.2.2.2.2.2.2.2.2.2.2.2.2.2.2.2.2.2.2.2.2.2.2.1 (by rw [qx_6, qx_16]; omega) hFX.2.2.2.2.2.2.2.2.2.2.2.2.2.2.2.2.2.2.2.2.2.2.2.2.2.2.2.2.2.2.2.2.2.2.2.2.2.2.2.2.2.2.2.2.2.2.2.2.2.2.2.2.2.2.1 hFX.2.2.2.2.2.2.2.2.2.2.2.2.2.2.2.2.2.2.2.2.2.2.2.2.2.2.2.2.2.2.2.2.2.2.2.2.2.2.2.2.2.2.2.2.2.2.2.2.2.2.2.2.2.1 hFX.2.2.2.2.2.2.2.2.2.2.1) lk_L_72 yd_X11_drive hTX hτX rfl (by decide) ⟨rfl, fun _ _ => rfl, hlo⟩ (fun q h => by have h : q = rq B (rq B (B + 0) 2) 2 := h; simp only [qn_0_2, qn_4_2] at h; show B ≤ q; omega) ⟨Nat.le_of_ble_eq_true rfl, Nat.le_of_ble_eq_true rfl⟩ (Nat.le_of_ble_eq_true rfl) ⟨Nat.le_of_ble_eq_true rfl, Nat.le_of_ble_eq_true rfl⟩ rfl dL_law_467 (fun r_1 H_1 locs_1 p_1 hT_1 hk_1 hS_1 => ?_)
  refine th_topi (y := 0) (show (0 : Int32) = r_1 from p_1).symm ?_
  have kM : ∀ q, B + 178 ≤ q → H_1[q]? = H[q]? := fun q hq => hk_1 q (fun h => by have h : q = rq B (rq B (B + 0) 2) 2 := h; simp only [qn_0_2, qn_4_2] at h; omega)
  have hTM := hTM.same (H1 := H_1) (fun q t h => kM q (by obtain ⟨j, rfl, z1, -, -⟩ := tq_some h; omega))
  have hFM := hFM.kept (H1 := H_1) kM
  have hX_1 : va_X b 4 xs s H_1 := hX.kept (hS_1.2.1 b (Nat.not_le.mpr hbB))
  refine lv_aload_n hx hb dL_law_470 rfl (lv_at hl 1 rfl) ?_
  refine lv_aload_n hx hb dL_law_471 rfl (lv_at hl 3 rfl) ?_
  refine lv_iload_n hx hb dL_law_472 rfl (lv_at hl 0 rfl) ?_
  refine lv_iconst (v := 1) hx hb dL_law_473 (by decide) ?_
  refine lv_iadd hx hb dL_law_474 ?_
  refine th_topi (y := 1) (by decide) ?_
  refine lw_sld (j := 1) hx hb hX_1 (by decide) (by decide) (by decide) dL_law_475 ?_
  refine lv_aload_n hx hb dL_law_476 rfl (lv_at hl 3 rfl) ?_
  refine lv_iload_n hx hb dL_law_477 rfl (lv_at hl 0 rfl) ?_
  refine lv_iconst (v := 2) hx hb dL_law_478 (by decide) ?_
  refine lv_iadd hx hb dL_law_479 ?_
  refine th_topi (y := 2) (by decide) ?_
  refine lw_sld (j := 2) hx hb hX_1 (by decide) (by decide) (by decide) dL_law_480 ?_
  refine th_Vi (A := fun q => B ≤ q) (As := [.int (xs 1), .int (xs 2)]) (rest := [.int 0]) E hml hl.1 (c_X12_drive_v4 l D cI cS (tq B 178 186) (rq B) hWM H_1 hTM (B + 178) (xs 1) (xs 2) hτM l1 g1 l2 g2 ((hFM.2.2.2.2.1 976 (by decide)).trans (by decide)) ((hFM.2.2.2.2.1 976 (by decide)).trans (by decide)) ((hFM.2.2.2.2.1 12 (by decide)).trans (by decide)) ((hFM.2.2.2.2.1 11 (by decide)).trans (by decide)) ((hFM.2.2.2.2.1 300 (by decide)).trans (by decide)) ((hFM.2.2.2.2.1 299 (by decide)).trans (by decide)) ((hFM.2.2.2.2.1 977 (by decide)).trans (by decide))) lk_L_75 yd_X12_drive hTM hτM rfl (by decide) ⟨rfl, fun _ _ => rfl, hS_1.2.2⟩ (fun q h => by have h : q = rq B (B + 178) 0 := h; simp only [qn_178_0] at h; show B ≤ q; omega) ⟨Nat.le_of_ble_eq_true rfl, Nat.le_of_ble_eq_true rfl⟩ (Nat.le_of_ble_eq_true rfl) ⟨Nat.le_of_ble_eq_true rfl, Nat.le_of_ble_eq_true rfl⟩ rfl dL_law_481 (fun r_2 H_2 locs_2 p_2 hT_2 hk_2 hS_2 => ?_)
  refine th_topi (y := 0) (show (0 : Int32) = r_2 from p_2).symm ?_
  have hX_2 : va_X b 4 xs s H_2 := hX_1.kept (hS_2.2.1 b (Nat.not_le.mpr hbB))
  refine lv_icmp_eq (tgt := 766) hx hb dL_law_484 (by decide) (fun c_ => ?_) (fun c_ => absurd (by decide) c_)
  exact kk H_2 locs_2 hS_2.2.2 hX_2
set_option maxHeartbeats 4000000 in
set_option maxRecDepth 100000 in
theorem w_drive_4 (E : EE p s m args c cL_law RL D cI cS) (hml : c.maxLocals = 4) (hl : lv_has ls 4 [(3, .int 0), (2, .ref (B + 178)), (1, .ref (B + 0)), (0, .ref b)]) (hWX : WF (tq B 0 178) (rq B)) (hWM : WF (tq B 178 186) (rq B)) (hTX : TH D cI cS (tq B 0 178) (rq B) H) (hFX : FX D B H) (hTM : TH D cI cS (tq B 178 186) (rq B) H) (hFM : FM D B H) (hX : va_X b 4 xs s H) (hbB : b < B) (hlo : ∀ x ∈ locs, B ≤ x.base) (l1 : 0 ≤ (xs 1).toInt) (g1 : (xs 1).toInt ≤ 9999) (l2 : 61 ≤ (xs 2).toInt) (kk : KL p l e s m args below meth c ls Q B b xs) : WL p l e s m args below meth c H locs ls Q 456 := by
  have hx := E.1
  have hb := E.2.1
  have hτX := ttX B
  have hτM := ttM B
  refine lv_aload_n hx hb dL_law_456 rfl (lv_at hl 2 rfl) ?_
  refine lv_aload_n hx hb dL_law_457 rfl (lv_at hl 3 rfl) ?_
  refine lv_iload_n hx hb dL_law_458 rfl (lv_at hl 0 rfl) ?_
  refine lv_iconst (v := 1) hx hb dL_law_459 (by decide) ?_
  refine lv_iadd hx hb dL_law_460 ?_
  refine th_topi (y := 1) (by decide) ?_
  refine lw_sld (j := 1) hx hb hX (by decide) (by decide) (by decide) dL_law_461 ?_
  refine lv_aload_n hx hb dL_law_462 rfl (lv_at hl 3 rfl) ?_
  refine lv_iload_n hx hb dL_law_463 rfl (lv_at hl 0 rfl) ?_
  refine lv_iconst (v := 2) hx hb dL_law_464 (by decide) ?_
  refine lv_iadd hx hb dL_law_465 ?_
  refine th_topi (y := 2) (by decide) ?_
  refine lw_sld (j := 2) hx hb hX (by decide) (by decide) (by decide) dL_law_466 ?_
  refine th_Vi (A := fun q => B ≤ q) (As := [.int (xs 1), .int (xs 2)]) (rest := []) E hml hl.1 (c_X11_drive_v5 l D cI cS (tq B 0 178) (rq B) hWX H hTX (B + 0) (xs 1) (xs 2) hτX l1 g1 l2) lk_L_72 yd_X11_drive hTX hτX rfl (by decide) ⟨rfl, fun _ _ => rfl, hlo⟩ (fun q h => h.elim) ⟨Nat.le_of_ble_eq_true rfl, Nat.le_of_ble_eq_true rfl⟩ (Nat.le_of_ble_eq_true rfl) ⟨Nat.le_of_ble_eq_true rfl, Nat.le_of_ble_eq_true rfl⟩ rfl dL_law_467 (fun r_1 H_1 locs_1 p_1 hT_1 hk_1 hS_1 => ?_)
  refine th_topi (y := (-1)) (show ((-1) : Int32) = r_1 from p_1.2).symm ?_
  have kM : ∀ q, B + 178 ≤ q → H_1[q]? = H[q]? := fun q hq => hk_1 q (fun h => h.elim)
  have hTM := hTM.same (H1 := H_1) (fun q t h => kM q (by obtain ⟨j, rfl, z1, -, -⟩ := tq_some h; omega))
  have hFM := hFM.kept (H1 := H_1) kM
  have hX_1 : va_X b 4 xs s H_1 := hX.kept (hS_1.2.1 b (Nat.not_le.mpr hbB))
  refine lv_aload_n hx hb dL_law_470 rfl (lv_at hl 1 rfl) ?_
  refine lv_aload_n hx hb dL_law_471 rfl (lv_at hl 3 rfl) ?_
  refine lv_iload_n hx hb dL_law_472 rfl (lv_at hl 0 rfl) ?_
  refine lv_iconst (v := 1) hx hb dL_law_473 (by decide) ?_
  refine lv_iadd hx hb dL_law_474 ?_
  refine th_topi (y := 1) (by decide) ?_
  refine lw_sld (j := 1) hx hb hX_1 (by decide) (by decide) (by decide) dL_law_475 ?_
  refine lv_aload_n hx hb dL_law_476 rfl (lv_at hl 3 rfl) ?_
  refine lv_iload_n hx hb dL_law_477 rfl (lv_at hl 0 rfl) ?_
  refine lv_iconst (v := 2) hx hb dL_law_478 (by decide) ?_
  refine lv_iadd hx hb dL_law_479 ?_
  refine th_topi (y := 2) (by decide) ?_
  refine lw_sld (j := 2) hx hb hX_1 (by decide) (by decide) (by decide) dL_law_480 ?_
  refine th_Vi (A := fun q => B ≤ q) (As := [.int (xs 1), .int (xs 2)]) (rest := [.int (-1)]) E hml hl.1 (c_X12_drive_v5 l D cI cS (tq B 178 186) (rq B) hWM H_1 hTM (B + 178) (xs 1) (xs 2) hτM l1 g1 l2) lk_L_75 yd_X12_drive hTM hτM rfl (by decide) ⟨rfl, fun _ _ => rfl, hS_1.2.2⟩ (fun q h => h.elim) ⟨Nat.le_of_ble_eq_true rfl, Nat.le_of_ble_eq_true rfl⟩ (Nat.le_of_ble_eq_true rfl) ⟨Nat.le_of_ble_eq_true rfl, Nat.le_of_ble_eq_true rfl⟩ rfl dL_law_481 (fun r_2 H_2 locs_2 p_2 hT_2 hk_2 hS_2 => ?_)
  refine th_topi (y := (-1)) (show ((-1) : Int32) = r_2 from p_2.2).symm ?_
  have hX_2 : va_X b 4 xs s H_2 := hX_1.kept (hS_2.2.1 b (Nat.not_le.mpr hbB))
  refine lv_icmp_eq (tgt := 766) hx hb dL_law_484 (by decide) (fun c_ => ?_) (fun c_ => absurd (by decide) c_)
  exact kk H_2 locs_2 hS_2.2.2 hX_2
theorem w_drive (E : EE p s m args c cL_law RL D cI cS) (hml : c.maxLocals = 4) (hl : lv_has ls 4 [(3, .int 0), (2, .ref (B + 178)), (1, .ref (B + 0)), (0, .ref b)]) (hWX : WF (tq B 0 178) (rq B)) (hWM : WF (tq B 178 186) (rq B)) (hTX : TH D cI cS (tq B 0 178) (rq B) H) (hFX : FX D B H) (hTM : TH D cI cS (tq B 178 186) (rq B) H) (hFM : FM D B H) (hX : va_X b 4 xs s H) (hbB : b < B) (hlo : ∀ x ∈ locs, B ≤ x.base) (kk : KL p l e s m args below meth c ls Q B b xs) : WL p l e s m args below meth c H locs ls Q 456 := by
  rcases (show (xs 1).toInt ≤ -1 ∨ 10000 ≤ (xs 1).toInt ∨ (0 ≤ (xs 1).toInt ∧ (xs 1).toInt ≤ 9999) by omega) with g1 | l1 | ⟨l1, g1⟩
  · exact w_drive_0 E hml hl hWX hWM hTX hFX hTM hFM hX hbB hlo g1 kk
  · exact w_drive_1 E hml hl hWX hWM hTX hFX hTM hFM hX hbB hlo l1 kk
  · rcases (show (xs 2).toInt ≤ 0 ∨ (1 ≤ (xs 2).toInt ∧ (xs 2).toInt ≤ 60) ∨ 61 ≤ (xs 2).toInt by omega) with g2 | ⟨l2, g2⟩ | l2
    · exact w_drive_2 E hml hl hWX hWM hTX hFX hTM hFM hX hbB hlo l1 g1 g2 kk
    · exact w_drive_3 E hml hl hWX hWM hTX hFX hTM hFM hX hbB hlo l1 g1 l2 g2 kk
    · exact w_drive_4 E hml hl hWX hWM hTX hFX hTM hFM hX hbB hlo l1 g1 l2 kk
set_option maxHeartbeats 4000000 in
set_option maxRecDepth 100000 in
theorem w_calm_0 (E : EE p s m args c cL_law RL D cI cS) (hml : c.maxLocals = 4) (hl : lv_has ls 4 [(3, .int 0), (2, .ref (B + 178)), (1, .ref (B + 0)), (0, .ref b)]) (hWX : WF (tq B 0 178) (rq B)) (hWM : WF (tq B 178 186) (rq B)) (hTX : TH D cI cS (tq B 0 178) (rq B) H) (hFX : FX D B H) (hTM : TH D cI cS (tq B 178 186) (rq B) H) (hFM : FM D B H) (hX : va_X b 4 xs s H) (hbB : b < B) (hlo : ∀ x ∈ locs, B ≤ x.base) (g1 : (xs 1).toInt ≤ -1) (kk : KL p l e s m args below meth c ls Q B b xs) : WL p l e s m args below meth c H locs ls Q 489 := by
  have hx := E.1
  have hb := E.2.1
  have hτX := ttX B
  have hτM := ttM B
  refine lv_aload_n hx hb dL_law_489 rfl (lv_at hl 2 rfl) ?_
  refine lv_aload_n hx hb dL_law_490 rfl (lv_at hl 3 rfl) ?_
  refine lv_iload_n hx hb dL_law_491 rfl (lv_at hl 0 rfl) ?_
  refine lv_iconst (v := 1) hx hb dL_law_492 (by decide) ?_
  refine lv_iadd hx hb dL_law_493 ?_
  refine th_topi (y := 1) (by decide) ?_
  refine lw_sld (j := 1) hx hb hX (by decide) (by decide) (by decide) dL_law_494 ?_
  refine th_Vi (A := fun q => B ≤ q) (As := [.int (xs 1)]) (rest := []) E hml hl.1 (c_X11_calm l D cI cS (tq B 0 178) (rq B) hWX H hTX (B + 0) (xs 1) hτX g1) lk_L_76 yd_X11_calm hTX hτX rfl (by decide) ⟨rfl, fun _ _ => rfl, hlo⟩ (fun q h => h.elim) ⟨Nat.le_of_ble_eq_true rfl, Nat.le_of_ble_eq_true rfl⟩ (Nat.le_of_ble_eq_true rfl) ⟨Nat.le_of_ble_eq_true rfl, Nat.le_of_ble_eq_true rfl⟩ rfl dL_law_495 (fun r_1 H_1 locs_1 p_1 hT_1 hk_1 hS_1 => ?_)
  refine th_topi (y := (-1)) (show ((-1) : Int32) = r_1 from p_1.2).symm ?_
  have kM : ∀ q, B + 178 ≤ q → H_1[q]? = H[q]? := fun q hq => hk_1 q (fun h => h.elim)
  have hTM := hTM.same (H1 := H_1) (fun q t h => kM q (by obtain ⟨j, rfl, z1, -, -⟩ := tq_some h; omega))
  have hFM := hFM.kept (H1 := H_1) kM
  have hX_1 : va_X b 4 xs s H_1 := hX.kept (hS_1.2.1 b (Nat.not_le.mpr hbB))
  refine lv_aload_n hx hb dL_law_498 rfl (lv_at hl 1 rfl) ?_
  refine lv_aload_n hx hb dL_law_499 rfl (lv_at hl 3 rfl) ?_
  refine lv_iload_n hx hb dL_law_500 rfl (lv_at hl 0 rfl) ?_
  refine lv_iconst (v := 1) hx hb dL_law_501 (by decide) ?_
  refine lv_iadd hx hb dL_law_502 ?_
  refine th_topi (y := 1) (by decide) ?_
  refine lw_sld (j := 1) hx hb hX_1 (by decide) (by decide) (by decide) dL_law_503 ?_
  refine th_Vi (A := fun q => B ≤ q) (As := [.int (xs 1)]) (rest := [.int (-1)]) E hml hl.1 (c_X12_calm l D cI cS (tq B 178 186) (rq B) hWM H_1 hTM (B + 178) (xs 1) hτM g1) lk_L_79 yd_X12_calm hTM hτM rfl (by decide) ⟨rfl, fun _ _ => rfl, hS_1.2.2⟩ (fun q h => h.elim) ⟨Nat.le_of_ble_eq_true rfl, Nat.le_of_ble_eq_true rfl⟩ (Nat.le_of_ble_eq_true rfl) ⟨Nat.le_of_ble_eq_true rfl, Nat.le_of_ble_eq_true rfl⟩ rfl dL_law_504 (fun r_2 H_2 locs_2 p_2 hT_2 hk_2 hS_2 => ?_)
  refine th_topi (y := (-1)) (show ((-1) : Int32) = r_2 from p_2.2).symm ?_
  have hX_2 : va_X b 4 xs s H_2 := hX_1.kept (hS_2.2.1 b (Nat.not_le.mpr hbB))
  refine lv_icmp_eq (tgt := 766) hx hb dL_law_507 (by decide) (fun c_ => ?_) (fun c_ => absurd (by decide) c_)
  exact kk H_2 locs_2 hS_2.2.2 hX_2
set_option maxHeartbeats 4000000 in
set_option maxRecDepth 100000 in
theorem w_calm_1 (E : EE p s m args c cL_law RL D cI cS) (hml : c.maxLocals = 4) (hl : lv_has ls 4 [(3, .int 0), (2, .ref (B + 178)), (1, .ref (B + 0)), (0, .ref b)]) (hWX : WF (tq B 0 178) (rq B)) (hWM : WF (tq B 178 186) (rq B)) (hTX : TH D cI cS (tq B 0 178) (rq B) H) (hFX : FX D B H) (hTM : TH D cI cS (tq B 178 186) (rq B) H) (hFM : FM D B H) (hX : va_X b 4 xs s H) (hbB : b < B) (hlo : ∀ x ∈ locs, B ≤ x.base) (h1 : xs 1 = 0) (kk : KL p l e s m args below meth c ls Q B b xs) : WL p l e s m args below meth c H locs ls Q 489 := by
  have hx := E.1
  have hb := E.2.1
  have hτX := ttX B
  have hτM := ttM B
  refine lv_aload_n hx hb dL_law_489 rfl (lv_at hl 2 rfl) ?_
  refine lv_aload_n hx hb dL_law_490 rfl (lv_at hl 3 rfl) ?_
  refine lv_iload_n hx hb dL_law_491 rfl (lv_at hl 0 rfl) ?_
  refine lv_iconst (v := 1) hx hb dL_law_492 (by decide) ?_
  refine lv_iadd hx hb dL_law_493 ?_
  refine th_topi (y := 1) (by decide) ?_
  refine lw_sld (j := 1) hx hb hX (by decide) (by decide) (by decide) dL_law_494 ?_
  refine th_topi h1 ?_
  refine th_Vi (A := fun q => B ≤ q) (As := [.int 0]) (rest := []) E hml hl.1 (c_X11_calm_v2 l D cI cS (tq B 0 178) (rq B) hWX H hTX (B + 0) hτX hFX.2.2.2.2.2.1 (by rw [qx_3, qx_27]; omega) hFX.2.2.2.2.1 hFX.2.2.2.1 hFX.2.2.1 hFX.2.1 hFX.2.2.2.2.2.2.2.2.2.1 (by rw [qx_17, qx_28]; omega) hFX.2.2.2.2.2.2.2.2.1 hFX.2.2.2.2.2.2.2.1 hFX.2.2.2.2.2.2.1 hFX.2.2.2.2.2.2.2.2.2.2.1 hFX.2.2.2.2.2.2.2.2.2.2.2.2.2.2.2.2.2.2.2.2.2.2.2.2.2.2.2.2.2.2.1 (by rw [qx_4, qx_29]; omega) hFX.2.2.2.2.2.2.2.2.2.2.2.2.2.2.2.2.2.2.2.2.2.2.2.2.2.2.2.2.2.2.2.1 hFX.2.2.2.2.2.2.2.2.2.2.2.2.2.2.2.2.2.2.2.2.2.2.2.2.2.2.2.2.2.2.2.2.1 (by rw [qx_12, qx_30]; omega) (by rw [qx_12, qx_28]; omega) (by rw [qx_12, qx_27]; omega) hFX.2.2.2.2.2.2.2.2.2.2.2.2.2.2.2.2.2.2.2.2.2.2.2.1 (by rw [qx_12, qx_31]; omega) hFX.2.2.2.2.2.2.2.2.2.2.2.2.2.2.2.2.2.2.2.2.2.2.2.2.1 hFX.2.2.2.2.2.2.2.2.2.2.2.2.2.2.2.2.2.2.2.2.2.2.2.2.2.1 hFX.2.2.2.2.2.2.2.2.2.2.2.2.2.2.2.2.2.2.2.2.2.2.2.2.2.2.1 hFX.2.2.2.2.2.2.2.2.2.2.2.2.2.2.2.2.2.2.2.2.2.2.2.2.2.2.2.1 hFX.2.2.2.2.2.2.2.2.2.2.2.2.2.2.2.2.2.2.2.2.2.2.2.2.2.2.2.2.1 hFX.2.2.2.2.2.2.2.2.2.2.2.2.2.2.2.2.2.2.2.2.2.2.2.2.2.2.2.2.2.1 (by rw [qx_10, qx_30]; omega) (by rw [qx_10, qx_28]; omega) (by rw [qx_10, qx_27]; omega) hFX.2.2.2.2.2.2.2.2.2.2.2.2.2.2.2.2.2.1 (by rw [qx_10, qx_32]; omega) hFX.2.2.2.2.2.2.2.2.2.2.2.2.2.2.2.2.2.2.1 hFX.2.2.2.2.2.2.2.2.2.2.2.2.2.2.2.2.2.2.2.1 hFX.2.2.2.2.2.2.2.2.2.2.2.2.2.2.2.2.2.2.2.2.1 hFX.2.2.2.2.2.2.2.2.2.2.2.2.2.2.2.2.2.2.2.2.2.1 hFX.2.2.2.2.2.2.2.2.2.2.2.2.2.2.2.2.2.2.2.2.2.2.1 (by rw [qx_8, qx_30]; omega) (by rw [qx_8, qx_28]; omega) (by rw [qx_8, qx_27]; omega) hFX.2.2.2.2.2.2.2.2.2.2.2.1 (by rw [qx_8, qx_33]; omega) hFX.2.2.2.2.2.2.2.2.2.2.2.2.1 hFX.2.2.2.2.2.2.2.2.2.2.2.2.2.1 hFX.2.2.2.2.2.2.2.2.2.2.2.2.2.2.1 hFX.2.2.2.2.2.2.2.2.2.2.2.2.2.2.2.1 hFX.2.2.2.2.2.2.2.2.2.2.2.2.2.2.2.2.1 (by rw [qx_34, qx_35]; omega) (by rw [qx_6, qx_29]; omega) hFX.2.2.2.2.2.2.2.2.2.2.2.2.2.2.2.2.2.2.2.2.2.2.2.2.2.2.2.2.2.2.2.2.2.2.2.2.2.2.2.2.2.2.2.2.2.2.2.2.2.2.2.2.1 (by rw [qx_6, qx_36]; omega) hFX.2.2.2.2.2.2.2.2.2.2.2.2.2.2.2.2.2.2.2.2.2.2.2.2.2.2.2.2.2.2.2.2.2.2.2.2.2.2.2.2.2.2.2.2.2.2.2.2.2.2.2.2.2.1 hFX.2.2.2.2.2.2.2.2.2.2.2.2.2.2.2.2.2.2.2.2.2.2.2.2.2.2.2.2.2.2.2.2.2.2.2.2.2.2.2.2.2.2.2.2.2.2.2.2.2.2.2.2.2.2.1 (by rw [qx_13, qx_29]; omega) (by rw [qx_13, qx_31]; omega) (by rw [qx_13, qx_34]; omega) (by rw [qx_13, qx_32]; omega) (by rw [qx_13, qx_35]; omega) (by rw [qx_13, qx_33]; omega) (by rw [qx_13, qx_37]; omega) (by rw [qx_13, qx_30]; omega) (by rw [qx_13, qx_28]; omega) (by rw [qx_13, qx_27]; omega) hFX.2.2.2.2.2.2.2.2.2.2.2.2.2.2.2.2.2.2.2.2.2.2.2.2.2.2.2.2.2.2.2.2.2.2.2.2.2.2.2.2.2.2.2.2.2.1 (by rw [qx_13, qx_38]; omega) hFX.2.2.2.2.2.2.2.2.2.2.2.2.2.2.2.2.2.2.2.2.2.2.2.2.2.2.2.2.2.2.2.2.2.2.2.2.2.2.2.2.2.2.2.2.2.2.1 hFX.2.2.2.2.2.2.2.2.2.2.2.2.2.2.2.2.2.2.2.2.2.2.2.2.2.2.2.2.2.2.2.2.2.2.2.2.2.2.2.2.2.2.2.2.2.2.2.1 hFX.2.2.2.2.2.2.2.2.2.2.2.2.2.2.2.2.2.2.2.2.2.2.2.2.2.2.2.2.2.2.2.2.2.2.2.2.2.2.2.2.2.2.2.2.2.2.2.2.1 hFX.2.2.2.2.2.2.2.2.2.2.2.2.2.2.2.2.2.2.2.2.2.2.2.2.2.2.2.2.2.2.2.2.2.2.2.2.2.2.2.2.2.2.2.2.2.2.2.2.2.1 hFX.2.2.2.2.2.2.2.2.2.2.2.2.2.2.2.2.2.2.2.2.2.2.2.2.2.2.2.2.2.2.2.2.2.2.2.2.2.2.2.2.2.2.2.2.2.2.2.2.2.2.1 hFX.2.2.2.2.2.2.2.2.2.2.2.2.2.2.2.2.2.2.2.2.2.2.2.2.2.2.2.2.2.2.2.2.2.2.2.2.2.2.2.2.2.2.2.2.2.2.2.2.2.2.2.1 (by rw [qx_11, qx_29]; omega) (by rw [qx_11, qx_31]; omega) (by rw [qx_11, qx_34]; omega) (by rw [qx_11, qx_32]; omega) (by rw [qx_11, qx_35]; omega) (by rw [qx_11, qx_33]; omega) (by rw [qx_11, qx_37]; omega) (by rw [qx_11, qx_30]; omega) (by rw [qx_11, qx_28]; omega) (by rw [qx_11, qx_27]; omega) hFX.2.2.2.2.2.2.2.2.2.2.2.2.2.2.2.2.2.2.2.2.2.2.2.2.2.2.2.2.2.2.2.2.2.2.2.2.2.2.2.1 (by rw [qx_11, qx_39]; omega) hFX.2.2.2.2.2.2.2.2.2.2.2.2.2.2.2.2.2.2.2.2.2.2.2.2.2.2.2.2.2.2.2.2.2.2.2.2.2.2.2.2.1 hFX.2.2.2.2.2.2.2.2.2.2.2.2.2.2.2.2.2.2.2.2.2.2.2.2.2.2.2.2.2.2.2.2.2.2.2.2.2.2.2.2.2.1 hFX.2.2.2.2.2.2.2.2.2.2.2.2.2.2.2.2.2.2.2.2.2.2.2.2.2.2.2.2.2.2.2.2.2.2.2.2.2.2.2.2.2.2.1 hFX.2.2.2.2.2.2.2.2.2.2.2.2.2.2.2.2.2.2.2.2.2.2.2.2.2.2.2.2.2.2.2.2.2.2.2.2.2.2.2.2.2.2.2.1 hFX.2.2.2.2.2.2.2.2.2.2.2.2.2.2.2.2.2.2.2.2.2.2.2.2.2.2.2.2.2.2.2.2.2.2.2.2.2.2.2.2.2.2.2.2.1 (by rw [qx_9, qx_29]; omega) (by rw [qx_9, qx_31]; omega) (by rw [qx_9, qx_34]; omega) (by rw [qx_9, qx_32]; omega) (by rw [qx_9, qx_35]; omega) (by rw [qx_9, qx_33]; omega) (by rw [qx_9, qx_37]; omega) (by rw [qx_9, qx_30]; omega) (by rw [qx_9, qx_28]; omega) (by rw [qx_9, qx_27]; omega) hFX.2.2.2.2.2.2.2.2.2.2.2.2.2.2.2.2.2.2.2.2.2.2.2.2.2.2.2.2.2.2.2.2.2.1 (by rw [qx_9, qx_40]; omega) hFX.2.2.2.2.2.2.2.2.2.2.2.2.2.2.2.2.2.2.2.2.2.2.2.2.2.2.2.2.2.2.2.2.2.2.1 hFX.2.2.2.2.2.2.2.2.2.2.2.2.2.2.2.2.2.2.2.2.2.2.2.2.2.2.2.2.2.2.2.2.2.2.2.1 hFX.2.2.2.2.2.2.2.2.2.2.2.2.2.2.2.2.2.2.2.2.2.2.2.2.2.2.2.2.2.2.2.2.2.2.2.2.1 hFX.2.2.2.2.2.2.2.2.2.2.2.2.2.2.2.2.2.2.2.2.2.2.2.2.2.2.2.2.2.2.2.2.2.2.2.2.2.1 hFX.2.2.2.2.2.2.2.2.2.2.2.2.2.2.2.2.2.2.2.2.2.2.2.2.2.2.2.2.2.2.2.2.2.2.2.2.2.2.1 (by rw [qx_41, qx_42]; omega) hFX.2.2.2.2.2.2.2.2.2.2.2.2.2.2.2.2.2.2.2.2.2.2.2.2.2.2.2.2.2.2.2.2.2.2.2.2.2.2.2.2.2.2.2.2.2.2.2.2.2.2.2.2.2.2.2.1 (by rw [qx_2, qx_26]; omega) hFX.2.2.2.2.2.2.2.2.2.2.2.2.2.2.2.2.2.2.2.2.2.2.2.2.2.2.2.2.2.2.2.2.2.2.2.2.2.2.2.2.2.2.2.2.2.2.2.2.2.2.2.2.2.2.2.2.1 hFX.2.2.2.2.2.2.2.2.2.2.2.2.2.2.2.2.2.2.2.2.2.2.2.2.2.2.2.2.2.2.2.2.2.2.2.2.2.2.2.2.2.2.2.2.2.2.2.2.2.2.2.2.2.2.2.2.2 (by rw [qx_33, qx_40]; omega) (by rw [qx_32, qx_39]; omega) (by rw [qx_31, qx_38]; omega) (by rw [qx_29, qx_36]; omega) (by rw [qx_34, qx_41]; omega) (by rw [qx_34, qx_42]; omega) (by rw [qx_35, qx_41]; omega) (by rw [qx_35, qx_42]; omega) (by rw [qx_37, qx_43]; omega)) lk_L_76 yd_X11_calm hTX hτX rfl (by decide) ⟨rfl, fun _ _ => rfl, hlo⟩ (fun q h => by have h : q = rq B (rq B (B + 0) 3) 0 ∨ q = rq B (rq B (B + 0) 3) 1 ∨ q = rq B (rq B (B + 0) 3) 2 ∨ q = rq B (rq B (B + 0) 3) 3 ∨ q = rq B (rq B (rq B (B + 0) 3) 3) 4 ∨ q = rq B (rq B (rq B (rq B (B + 0) 3) 3) 4) 7 ∨ q = rq B (rq B (rq B (B + 0) 3) 3) 5 ∨ q = rq B (rq B (rq B (rq B (B + 0) 3) 3) 5) 6 ∨ q = rq B (rq B (rq B (B + 0) 3) 3) 6 ∨ q = rq B (rq B (rq B (rq B (B + 0) 3) 3) 6) 6 ∨ q = rq B (rq B (B + 0) 3) 4 ∨ q = rq B (rq B (rq B (B + 0) 3) 4) 4 ∨ q = rq B (rq B (rq B (rq B (B + 0) 3) 4) 4) 7 ∨ q = rq B (rq B (rq B (B + 0) 3) 4) 5 ∨ q = rq B (rq B (rq B (rq B (B + 0) 3) 4) 5) 6 ∨ q = rq B (rq B (rq B (B + 0) 3) 4) 6 ∨ q = rq B (rq B (rq B (rq B (B + 0) 3) 4) 6) 6 ∨ q = rq B (B + 0) 3 := h; simp only [qn_0_3, qn_162_4, qn_162_5, qn_162_6, qn_163_7, qn_165_6, qn_167_6, qn_169_4, qn_169_5, qn_169_6, qn_170_7, qn_172_6, qn_174_6, qn_91_0, qn_91_1, qn_91_2, qn_91_3, qn_91_4] at h; show B ≤ q; omega) ⟨Nat.le_of_ble_eq_true rfl, Nat.le_of_ble_eq_true rfl⟩ (Nat.le_of_ble_eq_true rfl) ⟨Nat.le_of_ble_eq_true rfl, Nat.le_of_ble_eq_true rfl⟩ rfl dL_law_495 (fun r_1 H_1 locs_1 p_1 hT_1 hk_1 hS_1 => ?_)
  refine th_topi (y := 0) (show (0 : Int32) = r_1 from p_1.1).symm ?_
  have kM : ∀ q, B + 178 ≤ q → H_1[q]? = H[q]? := fun q hq => hk_1 q (fun h => by have h : q = rq B (rq B (B + 0) 3) 0 ∨ q = rq B (rq B (B + 0) 3) 1 ∨ q = rq B (rq B (B + 0) 3) 2 ∨ q = rq B (rq B (B + 0) 3) 3 ∨ q = rq B (rq B (rq B (B + 0) 3) 3) 4 ∨ q = rq B (rq B (rq B (rq B (B + 0) 3) 3) 4) 7 ∨ q = rq B (rq B (rq B (B + 0) 3) 3) 5 ∨ q = rq B (rq B (rq B (rq B (B + 0) 3) 3) 5) 6 ∨ q = rq B (rq B (rq B (B + 0) 3) 3) 6 ∨ q = rq B (rq B (rq B (rq B (B + 0) 3) 3) 6) 6 ∨ q = rq B (rq B (B + 0) 3) 4 ∨ q = rq B (rq B (rq B (B + 0) 3) 4) 4 ∨ q = rq B (rq B (rq B (rq B (B + 0) 3) 4) 4) 7 ∨ q = rq B (rq B (rq B (B + 0) 3) 4) 5 ∨ q = rq B (rq B (rq B (rq B (B + 0) 3) 4) 5) 6 ∨ q = rq B (rq B (rq B (B + 0) 3) 4) 6 ∨ q = rq B (rq B (rq B (rq B (B + 0) 3) 4) 6) 6 ∨ q = rq B (B + 0) 3 := h; simp only [qn_0_3, qn_162_4, qn_162_5, qn_162_6, qn_163_7, qn_165_6, qn_167_6, qn_169_4, qn_169_5, qn_169_6, qn_170_7, qn_172_6, qn_174_6, qn_91_0, qn_91_1, qn_91_2, qn_91_3, qn_91_4] at h; omega)
  have hTM := hTM.same (H1 := H_1) (fun q t h => kM q (by obtain ⟨j, rfl, z1, -, -⟩ := tq_some h; omega))
  have hFM := hFM.kept (H1 := H_1) kM
  have hX_1 : va_X b 4 xs s H_1 := hX.kept (hS_1.2.1 b (Nat.not_le.mpr hbB))
  refine lv_aload_n hx hb dL_law_498 rfl (lv_at hl 1 rfl) ?_
  refine lv_aload_n hx hb dL_law_499 rfl (lv_at hl 3 rfl) ?_
  refine lv_iload_n hx hb dL_law_500 rfl (lv_at hl 0 rfl) ?_
  refine lv_iconst (v := 1) hx hb dL_law_501 (by decide) ?_
  refine lv_iadd hx hb dL_law_502 ?_
  refine th_topi (y := 1) (by decide) ?_
  refine lw_sld (j := 1) hx hb hX_1 (by decide) (by decide) (by decide) dL_law_503 ?_
  refine th_topi h1 ?_
  refine th_Vi (A := fun q => B ≤ q) (As := [.int 0]) (rest := [.int 0]) E hml hl.1 (c_X12_calm_v2 l D cI cS (tq B 178 186) (rq B) hWM H_1 hTM (B + 178) hτM (by rw [qx_14, qx_44]; omega) ((hFM.2.2.2.2.1 976 (by decide)).trans (by decide)) ((hFM.2.2.2.2.1 11 (by decide)).trans (by decide)) ((hFM.2.2.2.2.1 299 (by decide)).trans (by decide)) ((hFM.2.2.2.2.1 0 (by decide)).trans (by decide)) ((hFM.2.2.2.2.1 288 (by decide)).trans (by decide)) (by rw [qx_14, qx_44]; omega) ((hFM.2.2.2.2.1 978 (by decide)).trans (by decide))) lk_L_79 yd_X12_calm hTM hτM rfl (by decide) ⟨rfl, fun _ _ => rfl, hS_1.2.2⟩ (fun q h => by have h : q = rq B (B + 178) 1 ∨ q = rq B (B + 178) 0 := h; simp only [qn_178_0, qn_178_1] at h; show B ≤ q; omega) ⟨Nat.le_of_ble_eq_true rfl, Nat.le_of_ble_eq_true rfl⟩ (Nat.le_of_ble_eq_true rfl) ⟨Nat.le_of_ble_eq_true rfl, Nat.le_of_ble_eq_true rfl⟩ rfl dL_law_504 (fun r_2 H_2 locs_2 p_2 hT_2 hk_2 hS_2 => ?_)
  refine th_topi (y := 0) (show (0 : Int32) = r_2 from p_2).symm ?_
  have hX_2 : va_X b 4 xs s H_2 := hX_1.kept (hS_2.2.1 b (Nat.not_le.mpr hbB))
  refine lv_icmp_eq (tgt := 766) hx hb dL_law_507 (by decide) (fun c_ => ?_) (fun c_ => absurd (by decide) c_)
  exact kk H_2 locs_2 hS_2.2.2 hX_2
set_option maxHeartbeats 4000000 in
set_option maxRecDepth 100000 in
theorem w_calm_2 (E : EE p s m args c cL_law RL D cI cS) (hml : c.maxLocals = 4) (hl : lv_has ls 4 [(3, .int 0), (2, .ref (B + 178)), (1, .ref (B + 0)), (0, .ref b)]) (hWX : WF (tq B 0 178) (rq B)) (hWM : WF (tq B 178 186) (rq B)) (hTX : TH D cI cS (tq B 0 178) (rq B) H) (hFX : FX D B H) (hTM : TH D cI cS (tq B 178 186) (rq B) H) (hFM : FM D B H) (hX : va_X b 4 xs s H) (hbB : b < B) (hlo : ∀ x ∈ locs, B ≤ x.base) (h1 : xs 1 = 1) (kk : KL p l e s m args below meth c ls Q B b xs) : WL p l e s m args below meth c H locs ls Q 489 := by
  have hx := E.1
  have hb := E.2.1
  have hτX := ttX B
  have hτM := ttM B
  refine lv_aload_n hx hb dL_law_489 rfl (lv_at hl 2 rfl) ?_
  refine lv_aload_n hx hb dL_law_490 rfl (lv_at hl 3 rfl) ?_
  refine lv_iload_n hx hb dL_law_491 rfl (lv_at hl 0 rfl) ?_
  refine lv_iconst (v := 1) hx hb dL_law_492 (by decide) ?_
  refine lv_iadd hx hb dL_law_493 ?_
  refine th_topi (y := 1) (by decide) ?_
  refine lw_sld (j := 1) hx hb hX (by decide) (by decide) (by decide) dL_law_494 ?_
  refine th_topi h1 ?_
  refine th_Vi (A := fun q => B ≤ q) (As := [.int 1]) (rest := []) E hml hl.1 (c_X11_calm_v3 l D cI cS (tq B 0 178) (rq B) hWX H hTX (B + 0) hτX hFX.2.2.2.2.2.1 (by rw [qx_3, qx_27]; omega) hFX.2.2.2.2.1 hFX.2.2.2.1 hFX.2.2.1 hFX.2.1 hFX.2.2.2.2.2.2.2.2.2.1 (by rw [qx_17, qx_28]; omega) hFX.2.2.2.2.2.2.2.2.1 hFX.2.2.2.2.2.2.2.1 hFX.2.2.2.2.2.2.1 hFX.2.2.2.2.2.2.2.2.2.2.1 hFX.2.2.2.2.2.2.2.2.2.2.2.2.2.2.2.2.2.2.2.2.2.2.2.2.2.2.2.2.2.2.1 (by rw [qx_4, qx_29]; omega) hFX.2.2.2.2.2.2.2.2.2.2.2.2.2.2.2.2.2.2.2.2.2.2.2.2.2.2.2.2.2.2.2.1 hFX.2.2.2.2.2.2.2.2.2.2.2.2.2.2.2.2.2.2.2.2.2.2.2.2.2.2.2.2.2.2.2.2.1 (by rw [qx_12, qx_30]; omega) (by rw [qx_12, qx_28]; omega) (by rw [qx_12, qx_27]; omega) hFX.2.2.2.2.2.2.2.2.2.2.2.2.2.2.2.2.2.2.2.2.2.2.2.1 (by rw [qx_12, qx_31]; omega) hFX.2.2.2.2.2.2.2.2.2.2.2.2.2.2.2.2.2.2.2.2.2.2.2.2.1 hFX.2.2.2.2.2.2.2.2.2.2.2.2.2.2.2.2.2.2.2.2.2.2.2.2.2.1 hFX.2.2.2.2.2.2.2.2.2.2.2.2.2.2.2.2.2.2.2.2.2.2.2.2.2.2.1 hFX.2.2.2.2.2.2.2.2.2.2.2.2.2.2.2.2.2.2.2.2.2.2.2.2.2.2.2.1 hFX.2.2.2.2.2.2.2.2.2.2.2.2.2.2.2.2.2.2.2.2.2.2.2.2.2.2.2.2.1 hFX.2.2.2.2.2.2.2.2.2.2.2.2.2.2.2.2.2.2.2.2.2.2.2.2.2.2.2.2.2.1 (by rw [qx_10, qx_30]; omega) (by rw [qx_10, qx_28]; omega) (by rw [qx_10, qx_27]; omega) hFX.2.2.2.2.2.2.2.2.2.2.2.2.2.2.2.2.2.1 (by rw [qx_10, qx_32]; omega) hFX.2.2.2.2.2.2.2.2.2.2.2.2.2.2.2.2.2.2.1 hFX.2.2.2.2.2.2.2.2.2.2.2.2.2.2.2.2.2.2.2.1 hFX.2.2.2.2.2.2.2.2.2.2.2.2.2.2.2.2.2.2.2.2.1 hFX.2.2.2.2.2.2.2.2.2.2.2.2.2.2.2.2.2.2.2.2.2.1 hFX.2.2.2.2.2.2.2.2.2.2.2.2.2.2.2.2.2.2.2.2.2.2.1 (by rw [qx_8, qx_30]; omega) (by rw [qx_8, qx_28]; omega) (by rw [qx_8, qx_27]; omega) hFX.2.2.2.2.2.2.2.2.2.2.2.1 (by rw [qx_8, qx_33]; omega) hFX.2.2.2.2.2.2.2.2.2.2.2.2.1 hFX.2.2.2.2.2.2.2.2.2.2.2.2.2.1 hFX.2.2.2.2.2.2.2.2.2.2.2.2.2.2.1 hFX.2.2.2.2.2.2.2.2.2.2.2.2.2.2.2.1 hFX.2.2.2.2.2.2.2.2.2.2.2.2.2.2.2.2.1 (by rw [qx_34, qx_35]; omega) (by rw [qx_6, qx_29]; omega) hFX.2.2.2.2.2.2.2.2.2.2.2.2.2.2.2.2.2.2.2.2.2.2.2.2.2.2.2.2.2.2.2.2.2.2.2.2.2.2.2.2.2.2.2.2.2.2.2.2.2.2.2.2.1 (by rw [qx_6, qx_36]; omega) hFX.2.2.2.2.2.2.2.2.2.2.2.2.2.2.2.2.2.2.2.2.2.2.2.2.2.2.2.2.2.2.2.2.2.2.2.2.2.2.2.2.2.2.2.2.2.2.2.2.2.2.2.2.2.1 hFX.2.2.2.2.2.2.2.2.2.2.2.2.2.2.2.2.2.2.2.2.2.2.2.2.2.2.2.2.2.2.2.2.2.2.2.2.2.2.2.2.2.2.2.2.2.2.2.2.2.2.2.2.2.2.1 (by rw [qx_13, qx_29]; omega) (by rw [qx_13, qx_31]; omega) (by rw [qx_13, qx_34]; omega) (by rw [qx_13, qx_32]; omega) (by rw [qx_13, qx_35]; omega) (by rw [qx_13, qx_33]; omega) (by rw [qx_13, qx_37]; omega) (by rw [qx_13, qx_30]; omega) (by rw [qx_13, qx_28]; omega) (by rw [qx_13, qx_27]; omega) hFX.2.2.2.2.2.2.2.2.2.2.2.2.2.2.2.2.2.2.2.2.2.2.2.2.2.2.2.2.2.2.2.2.2.2.2.2.2.2.2.2.2.2.2.2.2.1 (by rw [qx_13, qx_38]; omega) hFX.2.2.2.2.2.2.2.2.2.2.2.2.2.2.2.2.2.2.2.2.2.2.2.2.2.2.2.2.2.2.2.2.2.2.2.2.2.2.2.2.2.2.2.2.2.2.1 hFX.2.2.2.2.2.2.2.2.2.2.2.2.2.2.2.2.2.2.2.2.2.2.2.2.2.2.2.2.2.2.2.2.2.2.2.2.2.2.2.2.2.2.2.2.2.2.2.1 hFX.2.2.2.2.2.2.2.2.2.2.2.2.2.2.2.2.2.2.2.2.2.2.2.2.2.2.2.2.2.2.2.2.2.2.2.2.2.2.2.2.2.2.2.2.2.2.2.2.1 hFX.2.2.2.2.2.2.2.2.2.2.2.2.2.2.2.2.2.2.2.2.2.2.2.2.2.2.2.2.2.2.2.2.2.2.2.2.2.2.2.2.2.2.2.2.2.2.2.2.2.1 hFX.2.2.2.2.2.2.2.2.2.2.2.2.2.2.2.2.2.2.2.2.2.2.2.2.2.2.2.2.2.2.2.2.2.2.2.2.2.2.2.2.2.2.2.2.2.2.2.2.2.2.1 hFX.2.2.2.2.2.2.2.2.2.2.2.2.2.2.2.2.2.2.2.2.2.2.2.2.2.2.2.2.2.2.2.2.2.2.2.2.2.2.2.2.2.2.2.2.2.2.2.2.2.2.2.1 (by rw [qx_11, qx_29]; omega) (by rw [qx_11, qx_31]; omega) (by rw [qx_11, qx_34]; omega) (by rw [qx_11, qx_32]; omega) (by rw [qx_11, qx_35]; omega) (by rw [qx_11, qx_33]; omega) (by rw [qx_11, qx_37]; omega) (by rw [qx_11, qx_30]; omega) (by rw [qx_11, qx_28]; omega) (by rw [qx_11, qx_27]; omega) hFX.2.2.2.2.2.2.2.2.2.2.2.2.2.2.2.2.2.2.2.2.2.2.2.2.2.2.2.2.2.2.2.2.2.2.2.2.2.2.2.1 (by rw [qx_11, qx_39]; omega) hFX.2.2.2.2.2.2.2.2.2.2.2.2.2.2.2.2.2.2.2.2.2.2.2.2.2.2.2.2.2.2.2.2.2.2.2.2.2.2.2.2.1 hFX.2.2.2.2.2.2.2.2.2.2.2.2.2.2.2.2.2.2.2.2.2.2.2.2.2.2.2.2.2.2.2.2.2.2.2.2.2.2.2.2.2.1 hFX.2.2.2.2.2.2.2.2.2.2.2.2.2.2.2.2.2.2.2.2.2.2.2.2.2.2.2.2.2.2.2.2.2.2.2.2.2.2.2.2.2.2.1 hFX.2.2.2.2.2.2.2.2.2.2.2.2.2.2.2.2.2.2.2.2.2.2.2.2.2.2.2.2.2.2.2.2.2.2.2.2.2.2.2.2.2.2.2.1 hFX.2.2.2.2.2.2.2.2.2.2.2.2.2.2.2.2.2.2.2.2.2.2.2.2.2.2.2.2.2.2.2.2.2.2.2.2.2.2.2.2.2.2.2.2.1 (by rw [qx_9, qx_29]; omega) (by rw [qx_9, qx_31]; omega) (by rw [qx_9, qx_34]; omega) (by rw [qx_9, qx_32]; omega) (by rw [qx_9, qx_35]; omega) (by rw [qx_9, qx_33]; omega) (by rw [qx_9, qx_37]; omega) (by rw [qx_9, qx_30]; omega) (by rw [qx_9, qx_28]; omega) (by rw [qx_9, qx_27]; omega) hFX.2.2.2.2.2.2.2.2.2.2.2.2.2.2.2.2.2.2.2.2.2.2.2.2.2.2.2.2.2.2.2.2.2.1 (by rw [qx_9, qx_40]; omega) hFX.2.2.2.2.2.2.2.2.2.2.2.2.2.2.2.2.2.2.2.2.2.2.2.2.2.2.2.2.2.2.2.2.2.2.1 hFX.2.2.2.2.2.2.2.2.2.2.2.2.2.2.2.2.2.2.2.2.2.2.2.2.2.2.2.2.2.2.2.2.2.2.2.1 hFX.2.2.2.2.2.2.2.2.2.2.2.2.2.2.2.2.2.2.2.2.2.2.2.2.2.2.2.2.2.2.2.2.2.2.2.2.1 hFX.2.2.2.2.2.2.2.2.2.2.2.2.2.2.2.2.2.2.2.2.2.2.2.2.2.2.2.2.2.2.2.2.2.2.2.2.2.1 hFX.2.2.2.2.2.2.2.2.2.2.2.2.2.2.2.2.2.2.2.2.2.2.2.2.2.2.2.2.2.2.2.2.2.2.2.2.2.2.1 (by rw [qx_41, qx_42]; omega) hFX.2.2.2.2.2.2.2.2.2.2.2.2.2.2.2.2.2.2.2.2.2.2.2.2.2.2.2.2.2.2.2.2.2.2.2.2.2.2.2.2.2.2.2.2.2.2.2.2.2.2.2.2.2.2.2.1 (by rw [qx_2, qx_26]; omega) hFX.2.2.2.2.2.2.2.2.2.2.2.2.2.2.2.2.2.2.2.2.2.2.2.2.2.2.2.2.2.2.2.2.2.2.2.2.2.2.2.2.2.2.2.2.2.2.2.2.2.2.2.2.2.2.2.2.1 hFX.2.2.2.2.2.2.2.2.2.2.2.2.2.2.2.2.2.2.2.2.2.2.2.2.2.2.2.2.2.2.2.2.2.2.2.2.2.2.2.2.2.2.2.2.2.2.2.2.2.2.2.2.2.2.2.2.2 (by rw [qx_33, qx_40]; omega) (by rw [qx_32, qx_39]; omega) (by rw [qx_31, qx_38]; omega) (by rw [qx_29, qx_36]; omega) (by rw [qx_34, qx_41]; omega) (by rw [qx_34, qx_42]; omega) (by rw [qx_35, qx_41]; omega) (by rw [qx_35, qx_42]; omega) (by rw [qx_37, qx_43]; omega)) lk_L_76 yd_X11_calm hTX hτX rfl (by decide) ⟨rfl, fun _ _ => rfl, hlo⟩ (fun q h => by have h : q = rq B (rq B (B + 0) 3) 0 ∨ q = rq B (rq B (B + 0) 3) 1 ∨ q = rq B (rq B (B + 0) 3) 2 ∨ q = rq B (rq B (B + 0) 3) 3 ∨ q = rq B (rq B (rq B (B + 0) 3) 3) 4 ∨ q = rq B (rq B (rq B (rq B (B + 0) 3) 3) 4) 7 ∨ q = rq B (rq B (rq B (B + 0) 3) 3) 5 ∨ q = rq B (rq B (rq B (rq B (B + 0) 3) 3) 5) 6 ∨ q = rq B (rq B (rq B (B + 0) 3) 3) 6 ∨ q = rq B (rq B (rq B (rq B (B + 0) 3) 3) 6) 6 ∨ q = rq B (rq B (B + 0) 3) 4 ∨ q = rq B (rq B (rq B (B + 0) 3) 4) 4 ∨ q = rq B (rq B (rq B (rq B (B + 0) 3) 4) 4) 7 ∨ q = rq B (rq B (rq B (B + 0) 3) 4) 5 ∨ q = rq B (rq B (rq B (rq B (B + 0) 3) 4) 5) 6 ∨ q = rq B (rq B (rq B (B + 0) 3) 4) 6 ∨ q = rq B (rq B (rq B (rq B (B + 0) 3) 4) 6) 6 ∨ q = rq B (B + 0) 3 := h; simp only [qn_0_3, qn_162_4, qn_162_5, qn_162_6, qn_163_7, qn_165_6, qn_167_6, qn_169_4, qn_169_5, qn_169_6, qn_170_7, qn_172_6, qn_174_6, qn_91_0, qn_91_1, qn_91_2, qn_91_3, qn_91_4] at h; show B ≤ q; omega) ⟨Nat.le_of_ble_eq_true rfl, Nat.le_of_ble_eq_true rfl⟩ (Nat.le_of_ble_eq_true rfl) ⟨Nat.le_of_ble_eq_true rfl, Nat.le_of_ble_eq_true rfl⟩ rfl dL_law_495 (fun r_1 H_1 locs_1 p_1 hT_1 hk_1 hS_1 => ?_)
  refine th_topi (y := 0) (show (0 : Int32) = r_1 from p_1.1).symm ?_
  have kM : ∀ q, B + 178 ≤ q → H_1[q]? = H[q]? := fun q hq => hk_1 q (fun h => by have h : q = rq B (rq B (B + 0) 3) 0 ∨ q = rq B (rq B (B + 0) 3) 1 ∨ q = rq B (rq B (B + 0) 3) 2 ∨ q = rq B (rq B (B + 0) 3) 3 ∨ q = rq B (rq B (rq B (B + 0) 3) 3) 4 ∨ q = rq B (rq B (rq B (rq B (B + 0) 3) 3) 4) 7 ∨ q = rq B (rq B (rq B (B + 0) 3) 3) 5 ∨ q = rq B (rq B (rq B (rq B (B + 0) 3) 3) 5) 6 ∨ q = rq B (rq B (rq B (B + 0) 3) 3) 6 ∨ q = rq B (rq B (rq B (rq B (B + 0) 3) 3) 6) 6 ∨ q = rq B (rq B (B + 0) 3) 4 ∨ q = rq B (rq B (rq B (B + 0) 3) 4) 4 ∨ q = rq B (rq B (rq B (rq B (B + 0) 3) 4) 4) 7 ∨ q = rq B (rq B (rq B (B + 0) 3) 4) 5 ∨ q = rq B (rq B (rq B (rq B (B + 0) 3) 4) 5) 6 ∨ q = rq B (rq B (rq B (B + 0) 3) 4) 6 ∨ q = rq B (rq B (rq B (rq B (B + 0) 3) 4) 6) 6 ∨ q = rq B (B + 0) 3 := h; simp only [qn_0_3, qn_162_4, qn_162_5, qn_162_6, qn_163_7, qn_165_6, qn_167_6, qn_169_4, qn_169_5, qn_169_6, qn_170_7, qn_172_6, qn_174_6, qn_91_0, qn_91_1, qn_91_2, qn_91_3, qn_91_4] at h; omega)
  have hTM := hTM.same (H1 := H_1) (fun q t h => kM q (by obtain ⟨j, rfl, z1, -, -⟩ := tq_some h; omega))
  have hFM := hFM.kept (H1 := H_1) kM
  have hX_1 : va_X b 4 xs s H_1 := hX.kept (hS_1.2.1 b (Nat.not_le.mpr hbB))
  refine lv_aload_n hx hb dL_law_498 rfl (lv_at hl 1 rfl) ?_
  refine lv_aload_n hx hb dL_law_499 rfl (lv_at hl 3 rfl) ?_
  refine lv_iload_n hx hb dL_law_500 rfl (lv_at hl 0 rfl) ?_
  refine lv_iconst (v := 1) hx hb dL_law_501 (by decide) ?_
  refine lv_iadd hx hb dL_law_502 ?_
  refine th_topi (y := 1) (by decide) ?_
  refine lw_sld (j := 1) hx hb hX_1 (by decide) (by decide) (by decide) dL_law_503 ?_
  refine th_topi h1 ?_
  refine th_Vi (A := fun q => B ≤ q) (As := [.int 1]) (rest := [.int 0]) E hml hl.1 (c_X12_calm_v3 l D cI cS (tq B 178 186) (rq B) hWM H_1 hTM (B + 178) hτM (by rw [qx_14, qx_44]; omega) ((hFM.2.2.2.2.1 976 (by decide)).trans (by decide)) ((hFM.2.2.2.2.1 11 (by decide)).trans (by decide)) ((hFM.2.2.2.2.1 299 (by decide)).trans (by decide)) ((hFM.2.2.2.2.1 0 (by decide)).trans (by decide)) ((hFM.2.2.2.2.1 288 (by decide)).trans (by decide)) (by rw [qx_14, qx_44]; omega) ((hFM.2.2.2.2.1 978 (by decide)).trans (by decide))) lk_L_79 yd_X12_calm hTM hτM rfl (by decide) ⟨rfl, fun _ _ => rfl, hS_1.2.2⟩ (fun q h => by have h : q = rq B (B + 178) 1 ∨ q = rq B (B + 178) 0 := h; simp only [qn_178_0, qn_178_1] at h; show B ≤ q; omega) ⟨Nat.le_of_ble_eq_true rfl, Nat.le_of_ble_eq_true rfl⟩ (Nat.le_of_ble_eq_true rfl) ⟨Nat.le_of_ble_eq_true rfl, Nat.le_of_ble_eq_true rfl⟩ rfl dL_law_504 (fun r_2 H_2 locs_2 p_2 hT_2 hk_2 hS_2 => ?_)
  refine th_topi (y := 0) (show (0 : Int32) = r_2 from p_2).symm ?_
  have hX_2 : va_X b 4 xs s H_2 := hX_1.kept (hS_2.2.1 b (Nat.not_le.mpr hbB))
  refine lv_icmp_eq (tgt := 766) hx hb dL_law_507 (by decide) (fun c_ => ?_) (fun c_ => absurd (by decide) c_)
  exact kk H_2 locs_2 hS_2.2.2 hX_2
set_option maxHeartbeats 4000000 in
set_option maxRecDepth 100000 in
theorem w_calm_3 (E : EE p s m args c cL_law RL D cI cS) (hml : c.maxLocals = 4) (hl : lv_has ls 4 [(3, .int 0), (2, .ref (B + 178)), (1, .ref (B + 0)), (0, .ref b)]) (hWX : WF (tq B 0 178) (rq B)) (hWM : WF (tq B 178 186) (rq B)) (hTX : TH D cI cS (tq B 0 178) (rq B) H) (hFX : FX D B H) (hTM : TH D cI cS (tq B 178 186) (rq B) H) (hFM : FM D B H) (hX : va_X b 4 xs s H) (hbB : b < B) (hlo : ∀ x ∈ locs, B ≤ x.base) (h1 : xs 1 = 2) (kk : KL p l e s m args below meth c ls Q B b xs) : WL p l e s m args below meth c H locs ls Q 489 := by
  have hx := E.1
  have hb := E.2.1
  have hτX := ttX B
  have hτM := ttM B
  refine lv_aload_n hx hb dL_law_489 rfl (lv_at hl 2 rfl) ?_
  refine lv_aload_n hx hb dL_law_490 rfl (lv_at hl 3 rfl) ?_
  refine lv_iload_n hx hb dL_law_491 rfl (lv_at hl 0 rfl) ?_
  refine lv_iconst (v := 1) hx hb dL_law_492 (by decide) ?_
  refine lv_iadd hx hb dL_law_493 ?_
  refine th_topi (y := 1) (by decide) ?_
  refine lw_sld (j := 1) hx hb hX (by decide) (by decide) (by decide) dL_law_494 ?_
  refine th_topi h1 ?_
  refine th_Vi (A := fun q => B ≤ q) (As := [.int 2]) (rest := []) E hml hl.1 (c_X11_calm_v4 l D cI cS (tq B 0 178) (rq B) hWX H hTX (B + 0) hτX hFX.2.2.2.2.2.1 (by rw [qx_3, qx_27]; omega) hFX.2.2.2.2.1 hFX.2.2.2.1 hFX.2.2.1 hFX.2.1 hFX.2.2.2.2.2.2.2.2.2.1 (by rw [qx_17, qx_28]; omega) hFX.2.2.2.2.2.2.2.2.1 hFX.2.2.2.2.2.2.2.1 hFX.2.2.2.2.2.2.1 hFX.2.2.2.2.2.2.2.2.2.2.1 hFX.2.2.2.2.2.2.2.2.2.2.2.2.2.2.2.2.2.2.2.2.2.2.2.2.2.2.2.2.2.2.1 (by rw [qx_4, qx_29]; omega) hFX.2.2.2.2.2.2.2.2.2.2.2.2.2.2.2.2.2.2.2.2.2.2.2.2.2.2.2.2.2.2.2.1 hFX.2.2.2.2.2.2.2.2.2.2.2.2.2.2.2.2.2.2.2.2.2.2.2.2.2.2.2.2.2.2.2.2.1 (by rw [qx_12, qx_30]; omega) (by rw [qx_12, qx_28]; omega) (by rw [qx_12, qx_27]; omega) hFX.2.2.2.2.2.2.2.2.2.2.2.2.2.2.2.2.2.2.2.2.2.2.2.1 (by rw [qx_12, qx_31]; omega) hFX.2.2.2.2.2.2.2.2.2.2.2.2.2.2.2.2.2.2.2.2.2.2.2.2.1 hFX.2.2.2.2.2.2.2.2.2.2.2.2.2.2.2.2.2.2.2.2.2.2.2.2.2.1 hFX.2.2.2.2.2.2.2.2.2.2.2.2.2.2.2.2.2.2.2.2.2.2.2.2.2.2.1 hFX.2.2.2.2.2.2.2.2.2.2.2.2.2.2.2.2.2.2.2.2.2.2.2.2.2.2.2.1 hFX.2.2.2.2.2.2.2.2.2.2.2.2.2.2.2.2.2.2.2.2.2.2.2.2.2.2.2.2.1 hFX.2.2.2.2.2.2.2.2.2.2.2.2.2.2.2.2.2.2.2.2.2.2.2.2.2.2.2.2.2.1 (by rw [qx_10, qx_30]; omega) (by rw [qx_10, qx_28]; omega) (by rw [qx_10, qx_27]; omega) hFX.2.2.2.2.2.2.2.2.2.2.2.2.2.2.2.2.2.1 (by rw [qx_10, qx_32]; omega) hFX.2.2.2.2.2.2.2.2.2.2.2.2.2.2.2.2.2.2.1 hFX.2.2.2.2.2.2.2.2.2.2.2.2.2.2.2.2.2.2.2.1 hFX.2.2.2.2.2.2.2.2.2.2.2.2.2.2.2.2.2.2.2.2.1 hFX.2.2.2.2.2.2.2.2.2.2.2.2.2.2.2.2.2.2.2.2.2.1 hFX.2.2.2.2.2.2.2.2.2.2.2.2.2.2.2.2.2.2.2.2.2.2.1 (by rw [qx_8, qx_30]; omega) (by rw [qx_8, qx_28]; omega) (by rw [qx_8, qx_27]; omega) hFX.2.2.2.2.2.2.2.2.2.2.2.1 (by rw [qx_8, qx_33]; omega) hFX.2.2.2.2.2.2.2.2.2.2.2.2.1 hFX.2.2.2.2.2.2.2.2.2.2.2.2.2.1 hFX.2.2.2.2.2.2.2.2.2.2.2.2.2.2.1 hFX.2.2.2.2.2.2.2.2.2.2.2.2.2.2.2.1 hFX.2.2.2.2.2.2.2.2.2.2.2.2.2.2.2.2.1 (by rw [qx_34, qx_35]; omega) (by rw [qx_6, qx_29]; omega) hFX.2.2.2.2.2.2.2.2.2.2.2.2.2.2.2.2.2.2.2.2.2.2.2.2.2.2.2.2.2.2.2.2.2.2.2.2.2.2.2.2.2.2.2.2.2.2.2.2.2.2.2.2.1 (by rw [qx_6, qx_36]; omega) hFX.2.2.2.2.2.2.2.2.2.2.2.2.2.2.2.2.2.2.2.2.2.2.2.2.2.2.2.2.2.2.2.2.2.2.2.2.2.2.2.2.2.2.2.2.2.2.2.2.2.2.2.2.2.1 hFX.2.2.2.2.2.2.2.2.2.2.2.2.2.2.2.2.2.2.2.2.2.2.2.2.2.2.2.2.2.2.2.2.2.2.2.2.2.2.2.2.2.2.2.2.2.2.2.2.2.2.2.2.2.2.1 (by rw [qx_13, qx_29]; omega) (by rw [qx_13, qx_31]; omega) (by rw [qx_13, qx_34]; omega) (by rw [qx_13, qx_32]; omega) (by rw [qx_13, qx_35]; omega) (by rw [qx_13, qx_33]; omega) (by rw [qx_13, qx_37]; omega) (by rw [qx_13, qx_30]; omega) (by rw [qx_13, qx_28]; omega) (by rw [qx_13, qx_27]; omega) hFX.2.2.2.2.2.2.2.2.2.2.2.2.2.2.2.2.2.2.2.2.2.2.2.2.2.2.2.2.2.2.2.2.2.2.2.2.2.2.2.2.2.2.2.2.2.1 (by rw [qx_13, qx_38]; omega) hFX.2.2.2.2.2.2.2.2.2.2.2.2.2.2.2.2.2.2.2.2.2.2.2.2.2.2.2.2.2.2.2.2.2.2.2.2.2.2.2.2.2.2.2.2.2.2.1 hFX.2.2.2.2.2.2.2.2.2.2.2.2.2.2.2.2.2.2.2.2.2.2.2.2.2.2.2.2.2.2.2.2.2.2.2.2.2.2.2.2.2.2.2.2.2.2.2.1 hFX.2.2.2.2.2.2.2.2.2.2.2.2.2.2.2.2.2.2.2.2.2.2.2.2.2.2.2.2.2.2.2.2.2.2.2.2.2.2.2.2.2.2.2.2.2.2.2.2.1 hFX.2.2.2.2.2.2.2.2.2.2.2.2.2.2.2.2.2.2.2.2.2.2.2.2.2.2.2.2.2.2.2.2.2.2.2.2.2.2.2.2.2.2.2.2.2.2.2.2.2.1 hFX.2.2.2.2.2.2.2.2.2.2.2.2.2.2.2.2.2.2.2.2.2.2.2.2.2.2.2.2.2.2.2.2.2.2.2.2.2.2.2.2.2.2.2.2.2.2.2.2.2.2.1 hFX.2.2.2.2.2.2.2.2.2.2.2.2.2.2.2.2.2.2.2.2.2.2.2.2.2.2.2.2.2.2.2.2.2.2.2.2.2.2.2.2.2.2.2.2.2.2.2.2.2.2.2.1 (by rw [qx_11, qx_29]; omega) (by rw [qx_11, qx_31]; omega) (by rw [qx_11, qx_34]; omega) (by rw [qx_11, qx_32]; omega) (by rw [qx_11, qx_35]; omega) (by rw [qx_11, qx_33]; omega) (by rw [qx_11, qx_37]; omega) (by rw [qx_11, qx_30]; omega) (by rw [qx_11, qx_28]; omega) (by rw [qx_11, qx_27]; omega) hFX.2.2.2.2.2.2.2.2.2.2.2.2.2.2.2.2.2.2.2.2.2.2.2.2.2.2.2.2.2.2.2.2.2.2.2.2.2.2.2.1 (by rw [qx_11, qx_39]; omega) hFX.2.2.2.2.2.2.2.2.2.2.2.2.2.2.2.2.2.2.2.2.2.2.2.2.2.2.2.2.2.2.2.2.2.2.2.2.2.2.2.2.1 hFX.2.2.2.2.2.2.2.2.2.2.2.2.2.2.2.2.2.2.2.2.2.2.2.2.2.2.2.2.2.2.2.2.2.2.2.2.2.2.2.2.2.1 hFX.2.2.2.2.2.2.2.2.2.2.2.2.2.2.2.2.2.2.2.2.2.2.2.2.2.2.2.2.2.2.2.2.2.2.2.2.2.2.2.2.2.2.1 hFX.2.2.2.2.2.2.2.2.2.2.2.2.2.2.2.2.2.2.2.2.2.2.2.2.2.2.2.2.2.2.2.2.2.2.2.2.2.2.2.2.2.2.2.1 hFX.2.2.2.2.2.2.2.2.2.2.2.2.2.2.2.2.2.2.2.2.2.2.2.2.2.2.2.2.2.2.2.2.2.2.2.2.2.2.2.2.2.2.2.2.1 (by rw [qx_9, qx_29]; omega) (by rw [qx_9, qx_31]; omega) (by rw [qx_9, qx_34]; omega) (by rw [qx_9, qx_32]; omega) (by rw [qx_9, qx_35]; omega) (by rw [qx_9, qx_33]; omega) (by rw [qx_9, qx_37]; omega) (by rw [qx_9, qx_30]; omega) (by rw [qx_9, qx_28]; omega) (by rw [qx_9, qx_27]; omega) hFX.2.2.2.2.2.2.2.2.2.2.2.2.2.2.2.2.2.2.2.2.2.2.2.2.2.2.2.2.2.2.2.2.2.1 (by rw [qx_9, qx_40]; omega) hFX.2.2.2.2.2.2.2.2.2.2.2.2.2.2.2.2.2.2.2.2.2.2.2.2.2.2.2.2.2.2.2.2.2.2.1 hFX.2.2.2.2.2.2.2.2.2.2.2.2.2.2.2.2.2.2.2.2.2.2.2.2.2.2.2.2.2.2.2.2.2.2.2.1 hFX.2.2.2.2.2.2.2.2.2.2.2.2.2.2.2.2.2.2.2.2.2.2.2.2.2.2.2.2.2.2.2.2.2.2.2.2.1 hFX.2.2.2.2.2.2.2.2.2.2.2.2.2.2.2.2.2.2.2.2.2.2.2.2.2.2.2.2.2.2.2.2.2.2.2.2.2.1 hFX.2.2.2.2.2.2.2.2.2.2.2.2.2.2.2.2.2.2.2.2.2.2.2.2.2.2.2.2.2.2.2.2.2.2.2.2.2.2.1 (by rw [qx_41, qx_42]; omega) hFX.2.2.2.2.2.2.2.2.2.2.2.2.2.2.2.2.2.2.2.2.2.2.2.2.2.2.2.2.2.2.2.2.2.2.2.2.2.2.2.2.2.2.2.2.2.2.2.2.2.2.2.2.2.2.2.1 (by rw [qx_2, qx_26]; omega) hFX.2.2.2.2.2.2.2.2.2.2.2.2.2.2.2.2.2.2.2.2.2.2.2.2.2.2.2.2.2.2.2.2.2.2.2.2.2.2.2.2.2.2.2.2.2.2.2.2.2.2.2.2.2.2.2.2.1 hFX.2.2.2.2.2.2.2.2.2.2.2.2.2.2.2.2.2.2.2.2.2.2.2.2.2.2.2.2.2.2.2.2.2.2.2.2.2.2.2.2.2.2.2.2.2.2.2.2.2.2.2.2.2.2.2.2.2 (by rw [qx_33, qx_40]; omega) (by rw [qx_32, qx_39]; omega) (by rw [qx_31, qx_38]; omega) (by rw [qx_29, qx_36]; omega) (by rw [qx_34, qx_41]; omega) (by rw [qx_34, qx_42]; omega) (by rw [qx_35, qx_41]; omega) (by rw [qx_35, qx_42]; omega) (by rw [qx_37, qx_43]; omega)) lk_L_76 yd_X11_calm hTX hτX rfl (by decide) ⟨rfl, fun _ _ => rfl, hlo⟩ (fun q h => by have h : q = rq B (rq B (B + 0) 3) 0 ∨ q = rq B (rq B (B + 0) 3) 1 ∨ q = rq B (rq B (B + 0) 3) 2 ∨ q = rq B (rq B (B + 0) 3) 3 ∨ q = rq B (rq B (rq B (B + 0) 3) 3) 4 ∨ q = rq B (rq B (rq B (rq B (B + 0) 3) 3) 4) 7 ∨ q = rq B (rq B (rq B (B + 0) 3) 3) 5 ∨ q = rq B (rq B (rq B (rq B (B + 0) 3) 3) 5) 6 ∨ q = rq B (rq B (rq B (B + 0) 3) 3) 6 ∨ q = rq B (rq B (rq B (rq B (B + 0) 3) 3) 6) 6 ∨ q = rq B (rq B (B + 0) 3) 4 ∨ q = rq B (rq B (rq B (B + 0) 3) 4) 4 ∨ q = rq B (rq B (rq B (rq B (B + 0) 3) 4) 4) 7 ∨ q = rq B (rq B (rq B (B + 0) 3) 4) 5 ∨ q = rq B (rq B (rq B (rq B (B + 0) 3) 4) 5) 6 ∨ q = rq B (rq B (rq B (B + 0) 3) 4) 6 ∨ q = rq B (rq B (rq B (rq B (B + 0) 3) 4) 6) 6 ∨ q = rq B (B + 0) 3 := h; simp only [qn_0_3, qn_162_4, qn_162_5, qn_162_6, qn_163_7, qn_165_6, qn_167_6, qn_169_4, qn_169_5, qn_169_6, qn_170_7, qn_172_6, qn_174_6, qn_91_0, qn_91_1, qn_91_2, qn_91_3, qn_91_4] at h; show B ≤ q; omega) ⟨Nat.le_of_ble_eq_true rfl, Nat.le_of_ble_eq_true rfl⟩ (Nat.le_of_ble_eq_true rfl) ⟨Nat.le_of_ble_eq_true rfl, Nat.le_of_ble_eq_true rfl⟩ rfl dL_law_495 (fun r_1 H_1 locs_1 p_1 hT_1 hk_1 hS_1 => ?_)
  refine th_topi (y := 0) (show (0 : Int32) = r_1 from p_1.1).symm ?_
  have kM : ∀ q, B + 178 ≤ q → H_1[q]? = H[q]? := fun q hq => hk_1 q (fun h => by have h : q = rq B (rq B (B + 0) 3) 0 ∨ q = rq B (rq B (B + 0) 3) 1 ∨ q = rq B (rq B (B + 0) 3) 2 ∨ q = rq B (rq B (B + 0) 3) 3 ∨ q = rq B (rq B (rq B (B + 0) 3) 3) 4 ∨ q = rq B (rq B (rq B (rq B (B + 0) 3) 3) 4) 7 ∨ q = rq B (rq B (rq B (B + 0) 3) 3) 5 ∨ q = rq B (rq B (rq B (rq B (B + 0) 3) 3) 5) 6 ∨ q = rq B (rq B (rq B (B + 0) 3) 3) 6 ∨ q = rq B (rq B (rq B (rq B (B + 0) 3) 3) 6) 6 ∨ q = rq B (rq B (B + 0) 3) 4 ∨ q = rq B (rq B (rq B (B + 0) 3) 4) 4 ∨ q = rq B (rq B (rq B (rq B (B + 0) 3) 4) 4) 7 ∨ q = rq B (rq B (rq B (B + 0) 3) 4) 5 ∨ q = rq B (rq B (rq B (rq B (B + 0) 3) 4) 5) 6 ∨ q = rq B (rq B (rq B (B + 0) 3) 4) 6 ∨ q = rq B (rq B (rq B (rq B (B + 0) 3) 4) 6) 6 ∨ q = rq B (B + 0) 3 := h; simp only [qn_0_3, qn_162_4, qn_162_5, qn_162_6, qn_163_7, qn_165_6, qn_167_6, qn_169_4, qn_169_5, qn_169_6, qn_170_7, qn_172_6, qn_174_6, qn_91_0, qn_91_1, qn_91_2, qn_91_3, qn_91_4] at h; omega)
  have hTM := hTM.same (H1 := H_1) (fun q t h => kM q (by obtain ⟨j, rfl, z1, -, -⟩ := tq_some h; omega))
  have hFM := hFM.kept (H1 := H_1) kM
  have hX_1 : va_X b 4 xs s H_1 := hX.kept (hS_1.2.1 b (Nat.not_le.mpr hbB))
  refine lv_aload_n hx hb dL_law_498 rfl (lv_at hl 1 rfl) ?_
  refine lv_aload_n hx hb dL_law_499 rfl (lv_at hl 3 rfl) ?_
  refine lv_iload_n hx hb dL_law_500 rfl (lv_at hl 0 rfl) ?_
  refine lv_iconst (v := 1) hx hb dL_law_501 (by decide) ?_
  refine lv_iadd hx hb dL_law_502 ?_
  refine th_topi (y := 1) (by decide) ?_
  refine lw_sld (j := 1) hx hb hX_1 (by decide) (by decide) (by decide) dL_law_503 ?_
  refine th_topi h1 ?_
  refine th_Vi (A := fun q => B ≤ q) (As := [.int 2]) (rest := [.int 0]) E hml hl.1 (c_X12_calm_v4 l D cI cS (tq B 178 186) (rq B) hWM H_1 hTM (B + 178) hτM (by rw [qx_14, qx_44]; omega) ((hFM.2.2.2.2.1 976 (by decide)).trans (by decide)) ((hFM.2.2.2.2.1 11 (by decide)).trans (by decide)) ((hFM.2.2.2.2.1 299 (by decide)).trans (by decide)) ((hFM.2.2.2.2.1 0 (by decide)).trans (by decide)) ((hFM.2.2.2.2.1 288 (by decide)).trans (by decide)) (by rw [qx_14, qx_44]; omega) ((hFM.2.2.2.2.1 978 (by decide)).trans (by decide))) lk_L_79 yd_X12_calm hTM hτM rfl (by decide) ⟨rfl, fun _ _ => rfl, hS_1.2.2⟩ (fun q h => by have h : q = rq B (B + 178) 1 ∨ q = rq B (B + 178) 0 := h; simp only [qn_178_0, qn_178_1] at h; show B ≤ q; omega) ⟨Nat.le_of_ble_eq_true rfl, Nat.le_of_ble_eq_true rfl⟩ (Nat.le_of_ble_eq_true rfl) ⟨Nat.le_of_ble_eq_true rfl, Nat.le_of_ble_eq_true rfl⟩ rfl dL_law_504 (fun r_2 H_2 locs_2 p_2 hT_2 hk_2 hS_2 => ?_)
  refine th_topi (y := 0) (show (0 : Int32) = r_2 from p_2).symm ?_
  have hX_2 : va_X b 4 xs s H_2 := hX_1.kept (hS_2.2.1 b (Nat.not_le.mpr hbB))
  refine lv_icmp_eq (tgt := 766) hx hb dL_law_507 (by decide) (fun c_ => ?_) (fun c_ => absurd (by decide) c_)
  exact kk H_2 locs_2 hS_2.2.2 hX_2
set_option maxHeartbeats 4000000 in
set_option maxRecDepth 100000 in
theorem w_calm_4 (E : EE p s m args c cL_law RL D cI cS) (hml : c.maxLocals = 4) (hl : lv_has ls 4 [(3, .int 0), (2, .ref (B + 178)), (1, .ref (B + 0)), (0, .ref b)]) (hWX : WF (tq B 0 178) (rq B)) (hWM : WF (tq B 178 186) (rq B)) (hTX : TH D cI cS (tq B 0 178) (rq B) H) (hFX : FX D B H) (hTM : TH D cI cS (tq B 178 186) (rq B) H) (hFM : FM D B H) (hX : va_X b 4 xs s H) (hbB : b < B) (hlo : ∀ x ∈ locs, B ≤ x.base) (h1 : xs 1 = 3) (kk : KL p l e s m args below meth c ls Q B b xs) : WL p l e s m args below meth c H locs ls Q 489 := by
  have hx := E.1
  have hb := E.2.1
  have hτX := ttX B
  have hτM := ttM B
  refine lv_aload_n hx hb dL_law_489 rfl (lv_at hl 2 rfl) ?_
  refine lv_aload_n hx hb dL_law_490 rfl (lv_at hl 3 rfl) ?_
  refine lv_iload_n hx hb dL_law_491 rfl (lv_at hl 0 rfl) ?_
  refine lv_iconst (v := 1) hx hb dL_law_492 (by decide) ?_
  refine lv_iadd hx hb dL_law_493 ?_
  refine th_topi (y := 1) (by decide) ?_
  refine lw_sld (j := 1) hx hb hX (by decide) (by decide) (by decide) dL_law_494 ?_
  refine th_topi h1 ?_
  refine th_Vi (A := fun q => B ≤ q) (As := [.int 3]) (rest := []) E hml hl.1 (c_X11_calm_v5 l D cI cS (tq B 0 178) (rq B) hWX H hTX (B + 0) hτX hFX.2.2.2.2.2.1 (by rw [qx_3, qx_27]; omega) hFX.2.2.2.2.1 hFX.2.2.2.1 hFX.2.2.1 hFX.2.1 hFX.2.2.2.2.2.2.2.2.2.1 (by rw [qx_17, qx_28]; omega) hFX.2.2.2.2.2.2.2.2.1 hFX.2.2.2.2.2.2.2.1 hFX.2.2.2.2.2.2.1 hFX.2.2.2.2.2.2.2.2.2.2.1 hFX.2.2.2.2.2.2.2.2.2.2.2.2.2.2.2.2.2.2.2.2.2.2.2.2.2.2.2.2.2.2.1 (by rw [qx_4, qx_29]; omega) hFX.2.2.2.2.2.2.2.2.2.2.2.2.2.2.2.2.2.2.2.2.2.2.2.2.2.2.2.2.2.2.2.1 hFX.2.2.2.2.2.2.2.2.2.2.2.2.2.2.2.2.2.2.2.2.2.2.2.2.2.2.2.2.2.2.2.2.1 (by rw [qx_12, qx_30]; omega) (by rw [qx_12, qx_28]; omega) (by rw [qx_12, qx_27]; omega) hFX.2.2.2.2.2.2.2.2.2.2.2.2.2.2.2.2.2.2.2.2.2.2.2.1 (by rw [qx_12, qx_31]; omega) hFX.2.2.2.2.2.2.2.2.2.2.2.2.2.2.2.2.2.2.2.2.2.2.2.2.1 hFX.2.2.2.2.2.2.2.2.2.2.2.2.2.2.2.2.2.2.2.2.2.2.2.2.2.1 hFX.2.2.2.2.2.2.2.2.2.2.2.2.2.2.2.2.2.2.2.2.2.2.2.2.2.2.1 hFX.2.2.2.2.2.2.2.2.2.2.2.2.2.2.2.2.2.2.2.2.2.2.2.2.2.2.2.1 hFX.2.2.2.2.2.2.2.2.2.2.2.2.2.2.2.2.2.2.2.2.2.2.2.2.2.2.2.2.1 hFX.2.2.2.2.2.2.2.2.2.2.2.2.2.2.2.2.2.2.2.2.2.2.2.2.2.2.2.2.2.1 (by rw [qx_10, qx_30]; omega) (by rw [qx_10, qx_28]; omega) (by rw [qx_10, qx_27]; omega) hFX.2.2.2.2.2.2.2.2.2.2.2.2.2.2.2.2.2.1 (by rw [qx_10, qx_32]; omega) hFX.2.2.2.2.2.2.2.2.2.2.2.2.2.2.2.2.2.2.1 hFX.2.2.2.2.2.2.2.2.2.2.2.2.2.2.2.2.2.2.2.1 hFX.2.2.2.2.2.2.2.2.2.2.2.2.2.2.2.2.2.2.2.2.1 hFX.2.2.2.2.2.2.2.2.2.2.2.2.2.2.2.2.2.2.2.2.2.1 hFX.2.2.2.2.2.2.2.2.2.2.2.2.2.2.2.2.2.2.2.2.2.2.1 (by rw [qx_8, qx_30]; omega) (by rw [qx_8, qx_28]; omega) (by rw [qx_8, qx_27]; omega) hFX.2.2.2.2.2.2.2.2.2.2.2.1 (by rw [qx_8, qx_33]; omega) hFX.2.2.2.2.2.2.2.2.2.2.2.2.1 hFX.2.2.2.2.2.2.2.2.2.2.2.2.2.1 hFX.2.2.2.2.2.2.2.2.2.2.2.2.2.2.1 hFX.2.2.2.2.2.2.2.2.2.2.2.2.2.2.2.1 hFX.2.2.2.2.2.2.2.2.2.2.2.2.2.2.2.2.1 (by rw [qx_34, qx_35]; omega) (by rw [qx_6, qx_29]; omega) hFX.2.2.2.2.2.2.2.2.2.2.2.2.2.2.2.2.2.2.2.2.2.2.2.2.2.2.2.2.2.2.2.2.2.2.2.2.2.2.2.2.2.2.2.2.2.2.2.2.2.2.2.2.1 (by rw [qx_6, qx_36]; omega) hFX.2.2.2.2.2.2.2.2.2.2.2.2.2.2.2.2.2.2.2.2.2.2.2.2.2.2.2.2.2.2.2.2.2.2.2.2.2.2.2.2.2.2.2.2.2.2.2.2.2.2.2.2.2.1 hFX.2.2.2.2.2.2.2.2.2.2.2.2.2.2.2.2.2.2.2.2.2.2.2.2.2.2.2.2.2.2.2.2.2.2.2.2.2.2.2.2.2.2.2.2.2.2.2.2.2.2.2.2.2.2.1 (by rw [qx_13, qx_29]; omega) (by rw [qx_13, qx_31]; omega) (by rw [qx_13, qx_34]; omega) (by rw [qx_13, qx_32]; omega) (by rw [qx_13, qx_35]; omega) (by rw [qx_13, qx_33]; omega) (by rw [qx_13, qx_37]; omega) (by rw [qx_13, qx_30]; omega) (by rw [qx_13, qx_28]; omega) (by rw [qx_13, qx_27]; omega) hFX.2.2.2.2.2.2.2.2.2.2.2.2.2.2.2.2.2.2.2.2.2.2.2.2.2.2.2.2.2.2.2.2.2.2.2.2.2.2.2.2.2.2.2.2.2.1 (by rw [qx_13, qx_38]; omega) hFX.2.2.2.2.2.2.2.2.2.2.2.2.2.2.2.2.2.2.2.2.2.2.2.2.2.2.2.2.2.2.2.2.2.2.2.2.2.2.2.2.2.2.2.2.2.2.1 hFX.2.2.2.2.2.2.2.2.2.2.2.2.2.2.2.2.2.2.2.2.2.2.2.2.2.2.2.2.2.2.2.2.2.2.2.2.2.2.2.2.2.2.2.2.2.2.2.1 hFX.2.2.2.2.2.2.2.2.2.2.2.2.2.2.2.2.2.2.2.2.2.2.2.2.2.2.2.2.2.2.2.2.2.2.2.2.2.2.2.2.2.2.2.2.2.2.2.2.1 hFX.2.2.2.2.2.2.2.2.2.2.2.2.2.2.2.2.2.2.2.2.2.2.2.2.2.2.2.2.2.2.2.2.2.2.2.2.2.2.2.2.2.2.2.2.2.2.2.2.2.1 hFX.2.2.2.2.2.2.2.2.2.2.2.2.2.2.2.2.2.2.2.2.2.2.2.2.2.2.2.2.2.2.2.2.2.2.2.2.2.2.2.2.2.2.2.2.2.2.2.2.2.2.1 hFX.2.2.2.2.2.2.2.2.2.2.2.2.2.2.2.2.2.2.2.2.2.2.2.2.2.2.2.2.2.2.2.2.2.2.2.2.2.2.2.2.2.2.2.2.2.2.2.2.2.2.2.1 (by rw [qx_11, qx_29]; omega) (by rw [qx_11, qx_31]; omega) (by rw [qx_11, qx_34]; omega) (by rw [qx_11, qx_32]; omega) (by rw [qx_11, qx_35]; omega) (by rw [qx_11, qx_33]; omega) (by rw [qx_11, qx_37]; omega) (by rw [qx_11, qx_30]; omega) (by rw [qx_11, qx_28]; omega) (by rw [qx_11, qx_27]; omega) hFX.2.2.2.2.2.2.2.2.2.2.2.2.2.2.2.2.2.2.2.2.2.2.2.2.2.2.2.2.2.2.2.2.2.2.2.2.2.2.2.1 (by rw [qx_11, qx_39]; omega) hFX.2.2.2.2.2.2.2.2.2.2.2.2.2.2.2.2.2.2.2.2.2.2.2.2.2.2.2.2.2.2.2.2.2.2.2.2.2.2.2.2.1 hFX.2.2.2.2.2.2.2.2.2.2.2.2.2.2.2.2.2.2.2.2.2.2.2.2.2.2.2.2.2.2.2.2.2.2.2.2.2.2.2.2.2.1 hFX.2.2.2.2.2.2.2.2.2.2.2.2.2.2.2.2.2.2.2.2.2.2.2.2.2.2.2.2.2.2.2.2.2.2.2.2.2.2.2.2.2.2.1 hFX.2.2.2.2.2.2.2.2.2.2.2.2.2.2.2.2.2.2.2.2.2.2.2.2.2.2.2.2.2.2.2.2.2.2.2.2.2.2.2.2.2.2.2.1 hFX.2.2.2.2.2.2.2.2.2.2.2.2.2.2.2.2.2.2.2.2.2.2.2.2.2.2.2.2.2.2.2.2.2.2.2.2.2.2.2.2.2.2.2.2.1 (by rw [qx_9, qx_29]; omega) (by rw [qx_9, qx_31]; omega) (by rw [qx_9, qx_34]; omega) (by rw [qx_9, qx_32]; omega) (by rw [qx_9, qx_35]; omega) (by rw [qx_9, qx_33]; omega) (by rw [qx_9, qx_37]; omega) (by rw [qx_9, qx_30]; omega) (by rw [qx_9, qx_28]; omega) (by rw [qx_9, qx_27]; omega) hFX.2.2.2.2.2.2.2.2.2.2.2.2.2.2.2.2.2.2.2.2.2.2.2.2.2.2.2.2.2.2.2.2.2.1 (by rw [qx_9, qx_40]; omega) hFX.2.2.2.2.2.2.2.2.2.2.2.2.2.2.2.2.2.2.2.2.2.2.2.2.2.2.2.2.2.2.2.2.2.2.1 hFX.2.2.2.2.2.2.2.2.2.2.2.2.2.2.2.2.2.2.2.2.2.2.2.2.2.2.2.2.2.2.2.2.2.2.2.1 hFX.2.2.2.2.2.2.2.2.2.2.2.2.2.2.2.2.2.2.2.2.2.2.2.2.2.2.2.2.2.2.2.2.2.2.2.2.1 hFX.2.2.2.2.2.2.2.2.2.2.2.2.2.2.2.2.2.2.2.2.2.2.2.2.2.2.2.2.2.2.2.2.2.2.2.2.2.1 hFX.2.2.2.2.2.2.2.2.2.2.2.2.2.2.2.2.2.2.2.2.2.2.2.2.2.2.2.2.2.2.2.2.2.2.2.2.2.2.1 (by rw [qx_41, qx_42]; omega) hFX.2.2.2.2.2.2.2.2.2.2.2.2.2.2.2.2.2.2.2.2.2.2.2.2.2.2.2.2.2.2.2.2.2.2.2.2.2.2.2.2.2.2.2.2.2.2.2.2.2.2.2.2.2.2.2.1 (by rw [qx_2, qx_26]; omega) hFX.2.2.2.2.2.2.2.2.2.2.2.2.2.2.2.2.2.2.2.2.2.2.2.2.2.2.2.2.2.2.2.2.2.2.2.2.2.2.2.2.2.2.2.2.2.2.2.2.2.2.2.2.2.2.2.2.1 hFX.2.2.2.2.2.2.2.2.2.2.2.2.2.2.2.2.2.2.2.2.2.2.2.2.2.2.2.2.2.2.2.2.2.2.2.2.2.2.2.2.2.2.2.2.2.2.2.2.2.2.2.2.2.2.2.2.2 (by rw [qx_33, qx_40]; omega) (by rw [qx_32, qx_39]; omega) (by rw [qx_31, qx_38]; omega) (by rw [qx_29, qx_36]; omega) (by rw [qx_34, qx_41]; omega) (by rw [qx_34, qx_42]; omega) (by rw [qx_35, qx_41]; omega) (by rw [qx_35, qx_42]; omega) (by rw [qx_37, qx_43]; omega)) lk_L_76 yd_X11_calm hTX hτX rfl (by decide) ⟨rfl, fun _ _ => rfl, hlo⟩ (fun q h => by have h : q = rq B (rq B (B + 0) 3) 0 ∨ q = rq B (rq B (B + 0) 3) 1 ∨ q = rq B (rq B (B + 0) 3) 2 ∨ q = rq B (rq B (B + 0) 3) 3 ∨ q = rq B (rq B (rq B (B + 0) 3) 3) 4 ∨ q = rq B (rq B (rq B (rq B (B + 0) 3) 3) 4) 7 ∨ q = rq B (rq B (rq B (B + 0) 3) 3) 5 ∨ q = rq B (rq B (rq B (rq B (B + 0) 3) 3) 5) 6 ∨ q = rq B (rq B (rq B (B + 0) 3) 3) 6 ∨ q = rq B (rq B (rq B (rq B (B + 0) 3) 3) 6) 6 ∨ q = rq B (rq B (B + 0) 3) 4 ∨ q = rq B (rq B (rq B (B + 0) 3) 4) 4 ∨ q = rq B (rq B (rq B (rq B (B + 0) 3) 4) 4) 7 ∨ q = rq B (rq B (rq B (B + 0) 3) 4) 5 ∨ q = rq B (rq B (rq B (rq B (B + 0) 3) 4) 5) 6 ∨ q = rq B (rq B (rq B (B + 0) 3) 4) 6 ∨ q = rq B (rq B (rq B (rq B (B + 0) 3) 4) 6) 6 ∨ q = rq B (B + 0) 3 := h; simp only [qn_0_3, qn_162_4, qn_162_5, qn_162_6, qn_163_7, qn_165_6, qn_167_6, qn_169_4, qn_169_5, qn_169_6, qn_170_7, qn_172_6, qn_174_6, qn_91_0, qn_91_1, qn_91_2, qn_91_3, qn_91_4] at h; show B ≤ q; omega) ⟨Nat.le_of_ble_eq_true rfl, Nat.le_of_ble_eq_true rfl⟩ (Nat.le_of_ble_eq_true rfl) ⟨Nat.le_of_ble_eq_true rfl, Nat.le_of_ble_eq_true rfl⟩ rfl dL_law_495 (fun r_1 H_1 locs_1 p_1 hT_1 hk_1 hS_1 => ?_)
  refine th_topi (y := 0) (show (0 : Int32) = r_1 from p_1.1).symm ?_
  have kM : ∀ q, B + 178 ≤ q → H_1[q]? = H[q]? := fun q hq => hk_1 q (fun h => by have h : q = rq B (rq B (B + 0) 3) 0 ∨ q = rq B (rq B (B + 0) 3) 1 ∨ q = rq B (rq B (B + 0) 3) 2 ∨ q = rq B (rq B (B + 0) 3) 3 ∨ q = rq B (rq B (rq B (B + 0) 3) 3) 4 ∨ q = rq B (rq B (rq B (rq B (B + 0) 3) 3) 4) 7 ∨ q = rq B (rq B (rq B (B + 0) 3) 3) 5 ∨ q = rq B (rq B (rq B (rq B (B + 0) 3) 3) 5) 6 ∨ q = rq B (rq B (rq B (B + 0) 3) 3) 6 ∨ q = rq B (rq B (rq B (rq B (B + 0) 3) 3) 6) 6 ∨ q = rq B (rq B (B + 0) 3) 4 ∨ q = rq B (rq B (rq B (B + 0) 3) 4) 4 ∨ q = rq B (rq B (rq B (rq B (B + 0) 3) 4) 4) 7 ∨ q = rq B (rq B (rq B (B + 0) 3) 4) 5 ∨ q = rq B (rq B (rq B (rq B (B + 0) 3) 4) 5) 6 ∨ q = rq B (rq B (rq B (B + 0) 3) 4) 6 ∨ q = rq B (rq B (rq B (rq B (B + 0) 3) 4) 6) 6 ∨ q = rq B (B + 0) 3 := h; simp only [qn_0_3, qn_162_4, qn_162_5, qn_162_6, qn_163_7, qn_165_6, qn_167_6, qn_169_4, qn_169_5, qn_169_6, qn_170_7, qn_172_6, qn_174_6, qn_91_0, qn_91_1, qn_91_2, qn_91_3, qn_91_4] at h; omega)
  have hTM := hTM.same (H1 := H_1) (fun q t h => kM q (by obtain ⟨j, rfl, z1, -, -⟩ := tq_some h; omega))
  have hFM := hFM.kept (H1 := H_1) kM
  have hX_1 : va_X b 4 xs s H_1 := hX.kept (hS_1.2.1 b (Nat.not_le.mpr hbB))
  refine lv_aload_n hx hb dL_law_498 rfl (lv_at hl 1 rfl) ?_
  refine lv_aload_n hx hb dL_law_499 rfl (lv_at hl 3 rfl) ?_
  refine lv_iload_n hx hb dL_law_500 rfl (lv_at hl 0 rfl) ?_
  refine lv_iconst (v := 1) hx hb dL_law_501 (by decide) ?_
  refine lv_iadd hx hb dL_law_502 ?_
  refine th_topi (y := 1) (by decide) ?_
  refine lw_sld (j := 1) hx hb hX_1 (by decide) (by decide) (by decide) dL_law_503 ?_
  refine th_topi h1 ?_
  refine th_Vi (A := fun q => B ≤ q) (As := [.int 3]) (rest := [.int 0]) E hml hl.1 (c_X12_calm_v5 l D cI cS (tq B 178 186) (rq B) hWM H_1 hTM (B + 178) hτM (by rw [qx_14, qx_44]; omega) ((hFM.2.2.2.2.1 976 (by decide)).trans (by decide)) ((hFM.2.2.2.2.1 11 (by decide)).trans (by decide)) ((hFM.2.2.2.2.1 299 (by decide)).trans (by decide)) ((hFM.2.2.2.2.1 0 (by decide)).trans (by decide)) ((hFM.2.2.2.2.1 288 (by decide)).trans (by decide)) ((hFM.2.2.2.2.1 5 (by decide)).trans (by decide)) ((hFM.2.2.2.2.1 17 (by decide)).trans (by decide)) ((hFM.2.2.2.2.1 6 (by decide)).trans (by decide)) (by rw [qx_14, qx_44]; omega) ((hFM.2.2.2.2.1 978 (by decide)).trans (by decide))) lk_L_79 yd_X12_calm hTM hτM rfl (by decide) ⟨rfl, fun _ _ => rfl, hS_1.2.2⟩ (fun q h => by have h : q = rq B (B + 178) 1 ∨ q = rq B (B + 178) 0 := h; simp only [qn_178_0, qn_178_1] at h; show B ≤ q; omega) ⟨Nat.le_of_ble_eq_true rfl, Nat.le_of_ble_eq_true rfl⟩ (Nat.le_of_ble_eq_true rfl) ⟨Nat.le_of_ble_eq_true rfl, Nat.le_of_ble_eq_true rfl⟩ rfl dL_law_504 (fun r_2 H_2 locs_2 p_2 hT_2 hk_2 hS_2 => ?_)
  refine th_topi (y := 0) (show (0 : Int32) = r_2 from p_2).symm ?_
  have hX_2 : va_X b 4 xs s H_2 := hX_1.kept (hS_2.2.1 b (Nat.not_le.mpr hbB))
  refine lv_icmp_eq (tgt := 766) hx hb dL_law_507 (by decide) (fun c_ => ?_) (fun c_ => absurd (by decide) c_)
  exact kk H_2 locs_2 hS_2.2.2 hX_2
set_option maxHeartbeats 4000000 in
set_option maxRecDepth 100000 in
theorem w_calm_5 (E : EE p s m args c cL_law RL D cI cS) (hml : c.maxLocals = 4) (hl : lv_has ls 4 [(3, .int 0), (2, .ref (B + 178)), (1, .ref (B + 0)), (0, .ref b)]) (hWX : WF (tq B 0 178) (rq B)) (hWM : WF (tq B 178 186) (rq B)) (hTX : TH D cI cS (tq B 0 178) (rq B) H) (hFX : FX D B H) (hTM : TH D cI cS (tq B 178 186) (rq B) H) (hFM : FM D B H) (hX : va_X b 4 xs s H) (hbB : b < B) (hlo : ∀ x ∈ locs, B ≤ x.base) (h1 : xs 1 = 4) (kk : KL p l e s m args below meth c ls Q B b xs) : WL p l e s m args below meth c H locs ls Q 489 := by
  have hx := E.1
  have hb := E.2.1
  have hτX := ttX B
  have hτM := ttM B
  refine lv_aload_n hx hb dL_law_489 rfl (lv_at hl 2 rfl) ?_
  refine lv_aload_n hx hb dL_law_490 rfl (lv_at hl 3 rfl) ?_
  refine lv_iload_n hx hb dL_law_491 rfl (lv_at hl 0 rfl) ?_
  refine lv_iconst (v := 1) hx hb dL_law_492 (by decide) ?_
  refine lv_iadd hx hb dL_law_493 ?_
  refine th_topi (y := 1) (by decide) ?_
  refine lw_sld (j := 1) hx hb hX (by decide) (by decide) (by decide) dL_law_494 ?_
  refine th_topi h1 ?_
  refine th_Vi (A := fun q => B ≤ q) (As := [.int 4]) (rest := []) E hml hl.1 (c_X11_calm_v6 l D cI cS (tq B 0 178) (rq B) hWX H hTX (B + 0) hτX hFX.2.2.2.2.2.1 (by rw [qx_3, qx_27]; omega) hFX.2.2.2.2.1 hFX.2.2.2.1 hFX.2.2.1 hFX.2.1 hFX.2.2.2.2.2.2.2.2.2.1 (by rw [qx_17, qx_28]; omega) hFX.2.2.2.2.2.2.2.2.1 hFX.2.2.2.2.2.2.2.1 hFX.2.2.2.2.2.2.1 hFX.2.2.2.2.2.2.2.2.2.2.1 hFX.2.2.2.2.2.2.2.2.2.2.2.2.2.2.2.2.2.2.2.2.2.2.2.2.2.2.2.2.2.2.1 (by rw [qx_4, qx_29]; omega) hFX.2.2.2.2.2.2.2.2.2.2.2.2.2.2.2.2.2.2.2.2.2.2.2.2.2.2.2.2.2.2.2.1 hFX.2.2.2.2.2.2.2.2.2.2.2.2.2.2.2.2.2.2.2.2.2.2.2.2.2.2.2.2.2.2.2.2.1 (by rw [qx_12, qx_30]; omega) (by rw [qx_12, qx_28]; omega) (by rw [qx_12, qx_27]; omega) hFX.2.2.2.2.2.2.2.2.2.2.2.2.2.2.2.2.2.2.2.2.2.2.2.1 (by rw [qx_12, qx_31]; omega) hFX.2.2.2.2.2.2.2.2.2.2.2.2.2.2.2.2.2.2.2.2.2.2.2.2.1 hFX.2.2.2.2.2.2.2.2.2.2.2.2.2.2.2.2.2.2.2.2.2.2.2.2.2.1 hFX.2.2.2.2.2.2.2.2.2.2.2.2.2.2.2.2.2.2.2.2.2.2.2.2.2.2.1 hFX.2.2.2.2.2.2.2.2.2.2.2.2.2.2.2.2.2.2.2.2.2.2.2.2.2.2.2.1 hFX.2.2.2.2.2.2.2.2.2.2.2.2.2.2.2.2.2.2.2.2.2.2.2.2.2.2.2.2.1 hFX.2.2.2.2.2.2.2.2.2.2.2.2.2.2.2.2.2.2.2.2.2.2.2.2.2.2.2.2.2.1 (by rw [qx_10, qx_30]; omega) (by rw [qx_10, qx_28]; omega) (by rw [qx_10, qx_27]; omega) hFX.2.2.2.2.2.2.2.2.2.2.2.2.2.2.2.2.2.1 (by rw [qx_10, qx_32]; omega) hFX.2.2.2.2.2.2.2.2.2.2.2.2.2.2.2.2.2.2.1 hFX.2.2.2.2.2.2.2.2.2.2.2.2.2.2.2.2.2.2.2.1 hFX.2.2.2.2.2.2.2.2.2.2.2.2.2.2.2.2.2.2.2.2.1 hFX.2.2.2.2.2.2.2.2.2.2.2.2.2.2.2.2.2.2.2.2.2.1 hFX.2.2.2.2.2.2.2.2.2.2.2.2.2.2.2.2.2.2.2.2.2.2.1 (by rw [qx_8, qx_30]; omega) (by rw [qx_8, qx_28]; omega) (by rw [qx_8, qx_27]; omega) hFX.2.2.2.2.2.2.2.2.2.2.2.1 (by rw [qx_8, qx_33]; omega) hFX.2.2.2.2.2.2.2.2.2.2.2.2.1 hFX.2.2.2.2.2.2.2.2.2.2.2.2.2.1 hFX.2.2.2.2.2.2.2.2.2.2.2.2.2.2.1 hFX.2.2.2.2.2.2.2.2.2.2.2.2.2.2.2.1 hFX.2.2.2.2.2.2.2.2.2.2.2.2.2.2.2.2.1 (by rw [qx_34, qx_35]; omega) (by rw [qx_6, qx_29]; omega) hFX.2.2.2.2.2.2.2.2.2.2.2.2.2.2.2.2.2.2.2.2.2.2.2.2.2.2.2.2.2.2.2.2.2.2.2.2.2.2.2.2.2.2.2.2.2.2.2.2.2.2.2.2.1 (by rw [qx_6, qx_36]; omega) hFX.2.2.2.2.2.2.2.2.2.2.2.2.2.2.2.2.2.2.2.2.2.2.2.2.2.2.2.2.2.2.2.2.2.2.2.2.2.2.2.2.2.2.2.2.2.2.2.2.2.2.2.2.2.1 hFX.2.2.2.2.2.2.2.2.2.2.2.2.2.2.2.2.2.2.2.2.2.2.2.2.2.2.2.2.2.2.2.2.2.2.2.2.2.2.2.2.2.2.2.2.2.2.2.2.2.2.2.2.2.2.1 (by rw [qx_13, qx_29]; omega) (by rw [qx_13, qx_31]; omega) (by rw [qx_13, qx_34]; omega) (by rw [qx_13, qx_32]; omega) (by rw [qx_13, qx_35]; omega) (by rw [qx_13, qx_33]; omega) (by rw [qx_13, qx_37]; omega) (by rw [qx_13, qx_30]; omega) (by rw [qx_13, qx_28]; omega) (by rw [qx_13, qx_27]; omega) hFX.2.2.2.2.2.2.2.2.2.2.2.2.2.2.2.2.2.2.2.2.2.2.2.2.2.2.2.2.2.2.2.2.2.2.2.2.2.2.2.2.2.2.2.2.2.1 (by rw [qx_13, qx_38]; omega) hFX.2.2.2.2.2.2.2.2.2.2.2.2.2.2.2.2.2.2.2.2.2.2.2.2.2.2.2.2.2.2.2.2.2.2.2.2.2.2.2.2.2.2.2.2.2.2.1 hFX.2.2.2.2.2.2.2.2.2.2.2.2.2.2.2.2.2.2.2.2.2.2.2.2.2.2.2.2.2.2.2.2.2.2.2.2.2.2.2.2.2.2.2.2.2.2.2.1 hFX.2.2.2.2.2.2.2.2.2.2.2.2.2.2.2.2.2.2.2.2.2.2.2.2.2.2.2.2.2.2.2.2.2.2.2.2.2.2.2.2.2.2.2.2.2.2.2.2.1 hFX.2.2.2.2.2.2.2.2.2.2.2.2.2.2.2.2.2.2.2.2.2.2.2.2.2.2.2.2.2.2.2.2.2.2.2.2.2.2.2.2.2.2.2.2.2.2.2.2.2.1 hFX.2.2.2.2.2.2.2.2.2.2.2.2.2.2.2.2.2.2.2.2.2.2.2.2.2.2.2.2.2.2.2.2.2.2.2.2.2.2.2.2.2.2.2.2.2.2.2.2.2.2.1 hFX.2.2.2.2.2.2.2.2.2.2.2.2.2.2.2.2.2.2.2.2.2.2.2.2.2.2.2.2.2.2.2.2.2.2.2.2.2.2.2.2.2.2.2.2.2.2.2.2.2.2.2.1 (by rw [qx_11, qx_29]; omega) (by rw [qx_11, qx_31]; omega) (by rw [qx_11, qx_34]; omega) (by rw [qx_11, qx_32]; omega) (by rw [qx_11, qx_35]; omega) (by rw [qx_11, qx_33]; omega) (by rw [qx_11, qx_37]; omega) (by rw [qx_11, qx_30]; omega) (by rw [qx_11, qx_28]; omega) (by rw [qx_11, qx_27]; omega) hFX.2.2.2.2.2.2.2.2.2.2.2.2.2.2.2.2.2.2.2.2.2.2.2.2.2.2.2.2.2.2.2.2.2.2.2.2.2.2.2.1 (by rw [qx_11, qx_39]; omega) hFX.2.2.2.2.2.2.2.2.2.2.2.2.2.2.2.2.2.2.2.2.2.2.2.2.2.2.2.2.2.2.2.2.2.2.2.2.2.2.2.2.1 hFX.2.2.2.2.2.2.2.2.2.2.2.2.2.2.2.2.2.2.2.2.2.2.2.2.2.2.2.2.2.2.2.2.2.2.2.2.2.2.2.2.2.1 hFX.2.2.2.2.2.2.2.2.2.2.2.2.2.2.2.2.2.2.2.2.2.2.2.2.2.2.2.2.2.2.2.2.2.2.2.2.2.2.2.2.2.2.1 hFX.2.2.2.2.2.2.2.2.2.2.2.2.2.2.2.2.2.2.2.2.2.2.2.2.2.2.2.2.2.2.2.2.2.2.2.2.2.2.2.2.2.2.2.1 hFX.2.2.2.2.2.2.2.2.2.2.2.2.2.2.2.2.2.2.2.2.2.2.2.2.2.2.2.2.2.2.2.2.2.2.2.2.2.2.2.2.2.2.2.2.1 (by rw [qx_9, qx_29]; omega) (by rw [qx_9, qx_31]; omega) (by rw [qx_9, qx_34]; omega) (by rw [qx_9, qx_32]; omega) (by rw [qx_9, qx_35]; omega) (by rw [qx_9, qx_33]; omega) (by rw [qx_9, qx_37]; omega) (by rw [qx_9, qx_30]; omega) (by rw [qx_9, qx_28]; omega) (by rw [qx_9, qx_27]; omega) hFX.2.2.2.2.2.2.2.2.2.2.2.2.2.2.2.2.2.2.2.2.2.2.2.2.2.2.2.2.2.2.2.2.2.1 (by rw [qx_9, qx_40]; omega) hFX.2.2.2.2.2.2.2.2.2.2.2.2.2.2.2.2.2.2.2.2.2.2.2.2.2.2.2.2.2.2.2.2.2.2.1 hFX.2.2.2.2.2.2.2.2.2.2.2.2.2.2.2.2.2.2.2.2.2.2.2.2.2.2.2.2.2.2.2.2.2.2.2.1 hFX.2.2.2.2.2.2.2.2.2.2.2.2.2.2.2.2.2.2.2.2.2.2.2.2.2.2.2.2.2.2.2.2.2.2.2.2.1 hFX.2.2.2.2.2.2.2.2.2.2.2.2.2.2.2.2.2.2.2.2.2.2.2.2.2.2.2.2.2.2.2.2.2.2.2.2.2.1 hFX.2.2.2.2.2.2.2.2.2.2.2.2.2.2.2.2.2.2.2.2.2.2.2.2.2.2.2.2.2.2.2.2.2.2.2.2.2.2.1 (by rw [qx_41, qx_42]; omega) hFX.2.2.2.2.2.2.2.2.2.2.2.2.2.2.2.2.2.2.2.2.2.2.2.2.2.2.2.2.2.2.2.2.2.2.2.2.2.2.2.2.2.2.2.2.2.2.2.2.2.2.2.2.2.2.2.1 (by rw [qx_2, qx_26]; omega) hFX.2.2.2.2.2.2.2.2.2.2.2.2.2.2.2.2.2.2.2.2.2.2.2.2.2.2.2.2.2.2.2.2.2.2.2.2.2.2.2.2.2.2.2.2.2.2.2.2.2.2.2.2.2.2.2.2.1 hFX.2.2.2.2.2.2.2.2.2.2.2.2.2.2.2.2.2.2.2.2.2.2.2.2.2.2.2.2.2.2.2.2.2.2.2.2.2.2.2.2.2.2.2.2.2.2.2.2.2.2.2.2.2.2.2.2.2 (by rw [qx_33, qx_40]; omega) (by rw [qx_32, qx_39]; omega) (by rw [qx_31, qx_38]; omega) (by rw [qx_29, qx_36]; omega) (by rw [qx_34, qx_41]; omega) (by rw [qx_34, qx_42]; omega) (by rw [qx_35, qx_41]; omega) (by rw [qx_35, qx_42]; omega) (by rw [qx_37, qx_43]; omega)) lk_L_76 yd_X11_calm hTX hτX rfl (by decide) ⟨rfl, fun _ _ => rfl, hlo⟩ (fun q h => by have h : q = rq B (rq B (B + 0) 3) 0 ∨ q = rq B (rq B (B + 0) 3) 1 ∨ q = rq B (rq B (B + 0) 3) 2 ∨ q = rq B (rq B (B + 0) 3) 3 ∨ q = rq B (rq B (rq B (B + 0) 3) 3) 4 ∨ q = rq B (rq B (rq B (rq B (B + 0) 3) 3) 4) 7 ∨ q = rq B (rq B (rq B (B + 0) 3) 3) 5 ∨ q = rq B (rq B (rq B (rq B (B + 0) 3) 3) 5) 6 ∨ q = rq B (rq B (rq B (B + 0) 3) 3) 6 ∨ q = rq B (rq B (rq B (rq B (B + 0) 3) 3) 6) 6 ∨ q = rq B (rq B (B + 0) 3) 4 ∨ q = rq B (rq B (rq B (B + 0) 3) 4) 4 ∨ q = rq B (rq B (rq B (rq B (B + 0) 3) 4) 4) 7 ∨ q = rq B (rq B (rq B (B + 0) 3) 4) 5 ∨ q = rq B (rq B (rq B (rq B (B + 0) 3) 4) 5) 6 ∨ q = rq B (rq B (rq B (B + 0) 3) 4) 6 ∨ q = rq B (rq B (rq B (rq B (B + 0) 3) 4) 6) 6 ∨ q = rq B (B + 0) 3 := h; simp only [qn_0_3, qn_162_4, qn_162_5, qn_162_6, qn_163_7, qn_165_6, qn_167_6, qn_169_4, qn_169_5, qn_169_6, qn_170_7, qn_172_6, qn_174_6, qn_91_0, qn_91_1, qn_91_2, qn_91_3, qn_91_4] at h; show B ≤ q; omega) ⟨Nat.le_of_ble_eq_true rfl, Nat.le_of_ble_eq_true rfl⟩ (Nat.le_of_ble_eq_true rfl) ⟨Nat.le_of_ble_eq_true rfl, Nat.le_of_ble_eq_true rfl⟩ rfl dL_law_495 (fun r_1 H_1 locs_1 p_1 hT_1 hk_1 hS_1 => ?_)
  refine th_topi (y := 0) (show (0 : Int32) = r_1 from p_1.1).symm ?_
  have kM : ∀ q, B + 178 ≤ q → H_1[q]? = H[q]? := fun q hq => hk_1 q (fun h => by have h : q = rq B (rq B (B + 0) 3) 0 ∨ q = rq B (rq B (B + 0) 3) 1 ∨ q = rq B (rq B (B + 0) 3) 2 ∨ q = rq B (rq B (B + 0) 3) 3 ∨ q = rq B (rq B (rq B (B + 0) 3) 3) 4 ∨ q = rq B (rq B (rq B (rq B (B + 0) 3) 3) 4) 7 ∨ q = rq B (rq B (rq B (B + 0) 3) 3) 5 ∨ q = rq B (rq B (rq B (rq B (B + 0) 3) 3) 5) 6 ∨ q = rq B (rq B (rq B (B + 0) 3) 3) 6 ∨ q = rq B (rq B (rq B (rq B (B + 0) 3) 3) 6) 6 ∨ q = rq B (rq B (B + 0) 3) 4 ∨ q = rq B (rq B (rq B (B + 0) 3) 4) 4 ∨ q = rq B (rq B (rq B (rq B (B + 0) 3) 4) 4) 7 ∨ q = rq B (rq B (rq B (B + 0) 3) 4) 5 ∨ q = rq B (rq B (rq B (rq B (B + 0) 3) 4) 5) 6 ∨ q = rq B (rq B (rq B (B + 0) 3) 4) 6 ∨ q = rq B (rq B (rq B (rq B (B + 0) 3) 4) 6) 6 ∨ q = rq B (B + 0) 3 := h; simp only [qn_0_3, qn_162_4, qn_162_5, qn_162_6, qn_163_7, qn_165_6, qn_167_6, qn_169_4, qn_169_5, qn_169_6, qn_170_7, qn_172_6, qn_174_6, qn_91_0, qn_91_1, qn_91_2, qn_91_3, qn_91_4] at h; omega)
  have hTM := hTM.same (H1 := H_1) (fun q t h => kM q (by obtain ⟨j, rfl, z1, -, -⟩ := tq_some h; omega))
  have hFM := hFM.kept (H1 := H_1) kM
  have hX_1 : va_X b 4 xs s H_1 := hX.kept (hS_1.2.1 b (Nat.not_le.mpr hbB))
  refine lv_aload_n hx hb dL_law_498 rfl (lv_at hl 1 rfl) ?_
  refine lv_aload_n hx hb dL_law_499 rfl (lv_at hl 3 rfl) ?_
  refine lv_iload_n hx hb dL_law_500 rfl (lv_at hl 0 rfl) ?_
  refine lv_iconst (v := 1) hx hb dL_law_501 (by decide) ?_
  refine lv_iadd hx hb dL_law_502 ?_
  refine th_topi (y := 1) (by decide) ?_
  refine lw_sld (j := 1) hx hb hX_1 (by decide) (by decide) (by decide) dL_law_503 ?_
  refine th_topi h1 ?_
  refine th_Vi (A := fun q => B ≤ q) (As := [.int 4]) (rest := [.int 0]) E hml hl.1 (c_X12_calm_v6 l D cI cS (tq B 178 186) (rq B) hWM H_1 hTM (B + 178) hτM (by rw [qx_14, qx_44]; omega) ((hFM.2.2.2.2.1 976 (by decide)).trans (by decide)) ((hFM.2.2.2.2.1 11 (by decide)).trans (by decide)) ((hFM.2.2.2.2.1 299 (by decide)).trans (by decide)) ((hFM.2.2.2.2.1 0 (by decide)).trans (by decide)) ((hFM.2.2.2.2.1 288 (by decide)).trans (by decide)) ((hFM.2.2.2.2.1 293 (by decide)).trans (by decide)) ((hFM.2.2.2.2.1 305 (by decide)).trans (by decide)) ((hFM.2.2.2.2.1 294 (by decide)).trans (by decide)) (by rw [qx_14, qx_44]; omega) ((hFM.2.2.2.2.1 978 (by decide)).trans (by decide))) lk_L_79 yd_X12_calm hTM hτM rfl (by decide) ⟨rfl, fun _ _ => rfl, hS_1.2.2⟩ (fun q h => by have h : q = rq B (B + 178) 1 ∨ q = rq B (B + 178) 0 := h; simp only [qn_178_0, qn_178_1] at h; show B ≤ q; omega) ⟨Nat.le_of_ble_eq_true rfl, Nat.le_of_ble_eq_true rfl⟩ (Nat.le_of_ble_eq_true rfl) ⟨Nat.le_of_ble_eq_true rfl, Nat.le_of_ble_eq_true rfl⟩ rfl dL_law_504 (fun r_2 H_2 locs_2 p_2 hT_2 hk_2 hS_2 => ?_)
  refine th_topi (y := 0) (show (0 : Int32) = r_2 from p_2).symm ?_
  have hX_2 : va_X b 4 xs s H_2 := hX_1.kept (hS_2.2.1 b (Nat.not_le.mpr hbB))
  refine lv_icmp_eq (tgt := 766) hx hb dL_law_507 (by decide) (fun c_ => ?_) (fun c_ => absurd (by decide) c_)
  exact kk H_2 locs_2 hS_2.2.2 hX_2
set_option maxHeartbeats 4000000 in
set_option maxRecDepth 100000 in
theorem w_calm_6 (E : EE p s m args c cL_law RL D cI cS) (hml : c.maxLocals = 4) (hl : lv_has ls 4 [(3, .int 0), (2, .ref (B + 178)), (1, .ref (B + 0)), (0, .ref b)]) (hWX : WF (tq B 0 178) (rq B)) (hWM : WF (tq B 178 186) (rq B)) (hTX : TH D cI cS (tq B 0 178) (rq B) H) (hFX : FX D B H) (hTM : TH D cI cS (tq B 178 186) (rq B) H) (hFM : FM D B H) (hX : va_X b 4 xs s H) (hbB : b < B) (hlo : ∀ x ∈ locs, B ≤ x.base) (h1 : xs 1 = 5) (kk : KL p l e s m args below meth c ls Q B b xs) : WL p l e s m args below meth c H locs ls Q 489 := by
  have hx := E.1
  have hb := E.2.1
  have hτX := ttX B
  have hτM := ttM B
  refine lv_aload_n hx hb dL_law_489 rfl (lv_at hl 2 rfl) ?_
  refine lv_aload_n hx hb dL_law_490 rfl (lv_at hl 3 rfl) ?_
  refine lv_iload_n hx hb dL_law_491 rfl (lv_at hl 0 rfl) ?_
  refine lv_iconst (v := 1) hx hb dL_law_492 (by decide) ?_
  refine lv_iadd hx hb dL_law_493 ?_
  refine th_topi (y := 1) (by decide) ?_
  refine lw_sld (j := 1) hx hb hX (by decide) (by decide) (by decide) dL_law_494 ?_
  refine th_topi h1 ?_
  refine th_Vi (A := fun q => B ≤ q) (As := [.int 5]) (rest := []) E hml hl.1 (c_X11_calm_v7 l D cI cS (tq B 0 178) (rq B) hWX H hTX (B + 0) hτX hFX.2.2.2.2.2.1 (by rw [qx_3, qx_27]; omega) hFX.2.2.2.2.1 hFX.2.2.2.1 hFX.2.2.1 hFX.2.1 hFX.2.2.2.2.2.2.2.2.2.1 (by rw [qx_17, qx_28]; omega) hFX.2.2.2.2.2.2.2.2.1 hFX.2.2.2.2.2.2.2.1 hFX.2.2.2.2.2.2.1 hFX.2.2.2.2.2.2.2.2.2.2.1 hFX.2.2.2.2.2.2.2.2.2.2.2.2.2.2.2.2.2.2.2.2.2.2.2.2.2.2.2.2.2.2.1 (by rw [qx_4, qx_29]; omega) hFX.2.2.2.2.2.2.2.2.2.2.2.2.2.2.2.2.2.2.2.2.2.2.2.2.2.2.2.2.2.2.2.1 hFX.2.2.2.2.2.2.2.2.2.2.2.2.2.2.2.2.2.2.2.2.2.2.2.2.2.2.2.2.2.2.2.2.1 (by rw [qx_12, qx_30]; omega) (by rw [qx_12, qx_28]; omega) (by rw [qx_12, qx_27]; omega) hFX.2.2.2.2.2.2.2.2.2.2.2.2.2.2.2.2.2.2.2.2.2.2.2.1 (by rw [qx_12, qx_31]; omega) hFX.2.2.2.2.2.2.2.2.2.2.2.2.2.2.2.2.2.2.2.2.2.2.2.2.1 hFX.2.2.2.2.2.2.2.2.2.2.2.2.2.2.2.2.2.2.2.2.2.2.2.2.2.1 hFX.2.2.2.2.2.2.2.2.2.2.2.2.2.2.2.2.2.2.2.2.2.2.2.2.2.2.1 hFX.2.2.2.2.2.2.2.2.2.2.2.2.2.2.2.2.2.2.2.2.2.2.2.2.2.2.2.1 hFX.2.2.2.2.2.2.2.2.2.2.2.2.2.2.2.2.2.2.2.2.2.2.2.2.2.2.2.2.1 hFX.2.2.2.2.2.2.2.2.2.2.2.2.2.2.2.2.2.2.2.2.2.2.2.2.2.2.2.2.2.1 (by rw [qx_10, qx_30]; omega) (by rw [qx_10, qx_28]; omega) (by rw [qx_10, qx_27]; omega) hFX.2.2.2.2.2.2.2.2.2.2.2.2.2.2.2.2.2.1 (by rw [qx_10, qx_32]; omega) hFX.2.2.2.2.2.2.2.2.2.2.2.2.2.2.2.2.2.2.1 hFX.2.2.2.2.2.2.2.2.2.2.2.2.2.2.2.2.2.2.2.1 hFX.2.2.2.2.2.2.2.2.2.2.2.2.2.2.2.2.2.2.2.2.1 hFX.2.2.2.2.2.2.2.2.2.2.2.2.2.2.2.2.2.2.2.2.2.1 hFX.2.2.2.2.2.2.2.2.2.2.2.2.2.2.2.2.2.2.2.2.2.2.1 (by rw [qx_8, qx_30]; omega) (by rw [qx_8, qx_28]; omega) (by rw [qx_8, qx_27]; omega) hFX.2.2.2.2.2.2.2.2.2.2.2.1 (by rw [qx_8, qx_33]; omega) hFX.2.2.2.2.2.2.2.2.2.2.2.2.1 hFX.2.2.2.2.2.2.2.2.2.2.2.2.2.1 hFX.2.2.2.2.2.2.2.2.2.2.2.2.2.2.1 hFX.2.2.2.2.2.2.2.2.2.2.2.2.2.2.2.1 hFX.2.2.2.2.2.2.2.2.2.2.2.2.2.2.2.2.1 (by rw [qx_34, qx_35]; omega) (by rw [qx_6, qx_29]; omega) hFX.2.2.2.2.2.2.2.2.2.2.2.2.2.2.2.2.2.2.2.2.2.2.2.2.2.2.2.2.2.2.2.2.2.2.2.2.2.2.2.2.2.2.2.2.2.2.2.2.2.2.2.2.1 (by rw [qx_6, qx_36]; omega) hFX.2.2.2.2.2.2.2.2.2.2.2.2.2.2.2.2.2.2.2.2.2.2.2.2.2.2.2.2.2.2.2.2.2.2.2.2.2.2.2.2.2.2.2.2.2.2.2.2.2.2.2.2.2.1 hFX.2.2.2.2.2.2.2.2.2.2.2.2.2.2.2.2.2.2.2.2.2.2.2.2.2.2.2.2.2.2.2.2.2.2.2.2.2.2.2.2.2.2.2.2.2.2.2.2.2.2.2.2.2.2.1 (by rw [qx_13, qx_29]; omega) (by rw [qx_13, qx_31]; omega) (by rw [qx_13, qx_34]; omega) (by rw [qx_13, qx_32]; omega) (by rw [qx_13, qx_35]; omega) (by rw [qx_13, qx_33]; omega) (by rw [qx_13, qx_37]; omega) (by rw [qx_13, qx_30]; omega) (by rw [qx_13, qx_28]; omega) (by rw [qx_13, qx_27]; omega) hFX.2.2.2.2.2.2.2.2.2.2.2.2.2.2.2.2.2.2.2.2.2.2.2.2.2.2.2.2.2.2.2.2.2.2.2.2.2.2.2.2.2.2.2.2.2.1 (by rw [qx_13, qx_38]; omega) hFX.2.2.2.2.2.2.2.2.2.2.2.2.2.2.2.2.2.2.2.2.2.2.2.2.2.2.2.2.2.2.2.2.2.2.2.2.2.2.2.2.2.2.2.2.2.2.1 hFX.2.2.2.2.2.2.2.2.2.2.2.2.2.2.2.2.2.2.2.2.2.2.2.2.2.2.2.2.2.2.2.2.2.2.2.2.2.2.2.2.2.2.2.2.2.2.2.1 hFX.2.2.2.2.2.2.2.2.2.2.2.2.2.2.2.2.2.2.2.2.2.2.2.2.2.2.2.2.2.2.2.2.2.2.2.2.2.2.2.2.2.2.2.2.2.2.2.2.1 hFX.2.2.2.2.2.2.2.2.2.2.2.2.2.2.2.2.2.2.2.2.2.2.2.2.2.2.2.2.2.2.2.2.2.2.2.2.2.2.2.2.2.2.2.2.2.2.2.2.2.1 hFX.2.2.2.2.2.2.2.2.2.2.2.2.2.2.2.2.2.2.2.2.2.2.2.2.2.2.2.2.2.2.2.2.2.2.2.2.2.2.2.2.2.2.2.2.2.2.2.2.2.2.1 hFX.2.2.2.2.2.2.2.2.2.2.2.2.2.2.2.2.2.2.2.2.2.2.2.2.2.2.2.2.2.2.2.2.2.2.2.2.2.2.2.2.2.2.2.2.2.2.2.2.2.2.2.1 (by rw [qx_11, qx_29]; omega) (by rw [qx_11, qx_31]; omega) (by rw [qx_11, qx_34]; omega) (by rw [qx_11, qx_32]; omega) (by rw [qx_11, qx_35]; omega) (by rw [qx_11, qx_33]; omega) (by rw [qx_11, qx_37]; omega) (by rw [qx_11, qx_30]; omega) (by rw [qx_11, qx_28]; omega) (by rw [qx_11, qx_27]; omega) hFX.2.2.2.2.2.2.2.2.2.2.2.2.2.2.2.2.2.2.2.2.2.2.2.2.2.2.2.2.2.2.2.2.2.2.2.2.2.2.2.1 (by rw [qx_11, qx_39]; omega) hFX.2.2.2.2.2.2.2.2.2.2.2.2.2.2.2.2.2.2.2.2.2.2.2.2.2.2.2.2.2.2.2.2.2.2.2.2.2.2.2.2.1 hFX.2.2.2.2.2.2.2.2.2.2.2.2.2.2.2.2.2.2.2.2.2.2.2.2.2.2.2.2.2.2.2.2.2.2.2.2.2.2.2.2.2.1 hFX.2.2.2.2.2.2.2.2.2.2.2.2.2.2.2.2.2.2.2.2.2.2.2.2.2.2.2.2.2.2.2.2.2.2.2.2.2.2.2.2.2.2.1 hFX.2.2.2.2.2.2.2.2.2.2.2.2.2.2.2.2.2.2.2.2.2.2.2.2.2.2.2.2.2.2.2.2.2.2.2.2.2.2.2.2.2.2.2.1 hFX.2.2.2.2.2.2.2.2.2.2.2.2.2.2.2.2.2.2.2.2.2.2.2.2.2.2.2.2.2.2.2.2.2.2.2.2.2.2.2.2.2.2.2.2.1 (by rw [qx_9, qx_29]; omega) (by rw [qx_9, qx_31]; omega) (by rw [qx_9, qx_34]; omega) (by rw [qx_9, qx_32]; omega) (by rw [qx_9, qx_35]; omega) (by rw [qx_9, qx_33]; omega) (by rw [qx_9, qx_37]; omega) (by rw [qx_9, qx_30]; omega) (by rw [qx_9, qx_28]; omega) (by rw [qx_9, qx_27]; omega) hFX.2.2.2.2.2.2.2.2.2.2.2.2.2.2.2.2.2.2.2.2.2.2.2.2.2.2.2.2.2.2.2.2.2.1 (by rw [qx_9, qx_40]; omega) hFX.2.2.2.2.2.2.2.2.2.2.2.2.2.2.2.2.2.2.2.2.2.2.2.2.2.2.2.2.2.2.2.2.2.2.1 hFX.2.2.2.2.2.2.2.2.2.2.2.2.2.2.2.2.2.2.2.2.2.2.2.2.2.2.2.2.2.2.2.2.2.2.2.1 hFX.2.2.2.2.2.2.2.2.2.2.2.2.2.2.2.2.2.2.2.2.2.2.2.2.2.2.2.2.2.2.2.2.2.2.2.2.1 hFX.2.2.2.2.2.2.2.2.2.2.2.2.2.2.2.2.2.2.2.2.2.2.2.2.2.2.2.2.2.2.2.2.2.2.2.2.2.1 hFX.2.2.2.2.2.2.2.2.2.2.2.2.2.2.2.2.2.2.2.2.2.2.2.2.2.2.2.2.2.2.2.2.2.2.2.2.2.2.1 (by rw [qx_41, qx_42]; omega) hFX.2.2.2.2.2.2.2.2.2.2.2.2.2.2.2.2.2.2.2.2.2.2.2.2.2.2.2.2.2.2.2.2.2.2.2.2.2.2.2.2.2.2.2.2.2.2.2.2.2.2.2.2.2.2.2.1 (by rw [qx_2, qx_26]; omega) hFX.2.2.2.2.2.2.2.2.2.2.2.2.2.2.2.2.2.2.2.2.2.2.2.2.2.2.2.2.2.2.2.2.2.2.2.2.2.2.2.2.2.2.2.2.2.2.2.2.2.2.2.2.2.2.2.2.1 hFX.2.2.2.2.2.2.2.2.2.2.2.2.2.2.2.2.2.2.2.2.2.2.2.2.2.2.2.2.2.2.2.2.2.2.2.2.2.2.2.2.2.2.2.2.2.2.2.2.2.2.2.2.2.2.2.2.2 (by rw [qx_33, qx_40]; omega) (by rw [qx_32, qx_39]; omega) (by rw [qx_31, qx_38]; omega) (by rw [qx_29, qx_36]; omega) (by rw [qx_34, qx_41]; omega) (by rw [qx_34, qx_42]; omega) (by rw [qx_35, qx_41]; omega) (by rw [qx_35, qx_42]; omega) (by rw [qx_37, qx_43]; omega)) lk_L_76 yd_X11_calm hTX hτX rfl (by decide) ⟨rfl, fun _ _ => rfl, hlo⟩ (fun q h => by have h : q = rq B (rq B (B + 0) 3) 0 ∨ q = rq B (rq B (B + 0) 3) 1 ∨ q = rq B (rq B (B + 0) 3) 2 ∨ q = rq B (rq B (B + 0) 3) 3 ∨ q = rq B (rq B (rq B (B + 0) 3) 3) 4 ∨ q = rq B (rq B (rq B (rq B (B + 0) 3) 3) 4) 7 ∨ q = rq B (rq B (rq B (B + 0) 3) 3) 5 ∨ q = rq B (rq B (rq B (rq B (B + 0) 3) 3) 5) 6 ∨ q = rq B (rq B (rq B (B + 0) 3) 3) 6 ∨ q = rq B (rq B (rq B (rq B (B + 0) 3) 3) 6) 6 ∨ q = rq B (rq B (B + 0) 3) 4 ∨ q = rq B (rq B (rq B (B + 0) 3) 4) 4 ∨ q = rq B (rq B (rq B (rq B (B + 0) 3) 4) 4) 7 ∨ q = rq B (rq B (rq B (B + 0) 3) 4) 5 ∨ q = rq B (rq B (rq B (rq B (B + 0) 3) 4) 5) 6 ∨ q = rq B (rq B (rq B (B + 0) 3) 4) 6 ∨ q = rq B (rq B (rq B (rq B (B + 0) 3) 4) 6) 6 ∨ q = rq B (B + 0) 3 := h; simp only [qn_0_3, qn_162_4, qn_162_5, qn_162_6, qn_163_7, qn_165_6, qn_167_6, qn_169_4, qn_169_5, qn_169_6, qn_170_7, qn_172_6, qn_174_6, qn_91_0, qn_91_1, qn_91_2, qn_91_3, qn_91_4] at h; show B ≤ q; omega) ⟨Nat.le_of_ble_eq_true rfl, Nat.le_of_ble_eq_true rfl⟩ (Nat.le_of_ble_eq_true rfl) ⟨Nat.le_of_ble_eq_true rfl, Nat.le_of_ble_eq_true rfl⟩ rfl dL_law_495 (fun r_1 H_1 locs_1 p_1 hT_1 hk_1 hS_1 => ?_)
  refine th_topi (y := 0) (show (0 : Int32) = r_1 from p_1.1).symm ?_
  have kM : ∀ q, B + 178 ≤ q → H_1[q]? = H[q]? := fun q hq => hk_1 q (fun h => by have h : q = rq B (rq B (B + 0) 3) 0 ∨ q = rq B (rq B (B + 0) 3) 1 ∨ q = rq B (rq B (B + 0) 3) 2 ∨ q = rq B (rq B (B + 0) 3) 3 ∨ q = rq B (rq B (rq B (B + 0) 3) 3) 4 ∨ q = rq B (rq B (rq B (rq B (B + 0) 3) 3) 4) 7 ∨ q = rq B (rq B (rq B (B + 0) 3) 3) 5 ∨ q = rq B (rq B (rq B (rq B (B + 0) 3) 3) 5) 6 ∨ q = rq B (rq B (rq B (B + 0) 3) 3) 6 ∨ q = rq B (rq B (rq B (rq B (B + 0) 3) 3) 6) 6 ∨ q = rq B (rq B (B + 0) 3) 4 ∨ q = rq B (rq B (rq B (B + 0) 3) 4) 4 ∨ q = rq B (rq B (rq B (rq B (B + 0) 3) 4) 4) 7 ∨ q = rq B (rq B (rq B (B + 0) 3) 4) 5 ∨ q = rq B (rq B (rq B (rq B (B + 0) 3) 4) 5) 6 ∨ q = rq B (rq B (rq B (B + 0) 3) 4) 6 ∨ q = rq B (rq B (rq B (rq B (B + 0) 3) 4) 6) 6 ∨ q = rq B (B + 0) 3 := h; simp only [qn_0_3, qn_162_4, qn_162_5, qn_162_6, qn_163_7, qn_165_6, qn_167_6, qn_169_4, qn_169_5, qn_169_6, qn_170_7, qn_172_6, qn_174_6, qn_91_0, qn_91_1, qn_91_2, qn_91_3, qn_91_4] at h; omega)
  have hTM := hTM.same (H1 := H_1) (fun q t h => kM q (by obtain ⟨j, rfl, z1, -, -⟩ := tq_some h; omega))
  have hFM := hFM.kept (H1 := H_1) kM
  have hX_1 : va_X b 4 xs s H_1 := hX.kept (hS_1.2.1 b (Nat.not_le.mpr hbB))
  refine lv_aload_n hx hb dL_law_498 rfl (lv_at hl 1 rfl) ?_
  refine lv_aload_n hx hb dL_law_499 rfl (lv_at hl 3 rfl) ?_
  refine lv_iload_n hx hb dL_law_500 rfl (lv_at hl 0 rfl) ?_
  refine lv_iconst (v := 1) hx hb dL_law_501 (by decide) ?_
  refine lv_iadd hx hb dL_law_502 ?_
  refine th_topi (y := 1) (by decide) ?_
  refine lw_sld (j := 1) hx hb hX_1 (by decide) (by decide) (by decide) dL_law_503 ?_
  refine th_topi h1 ?_
  refine th_Vi (A := fun q => B ≤ q) (As := [.int 5]) (rest := [.int 0]) E hml hl.1 (c_X12_calm_v7 l D cI cS (tq B 178 186) (rq B) hWM H_1 hTM (B + 178) hτM (by rw [qx_14, qx_44]; omega) ((hFM.2.2.2.2.1 976 (by decide)).trans (by decide)) ((hFM.2.2.2.2.1 11 (by decide)).trans (by decide)) ((hFM.2.2.2.2.1 299 (by decide)).trans (by decide)) ((hFM.2.2.2.2.1 0 (by decide)).trans (by decide)) ((hFM.2.2.2.2.1 288 (by decide)).trans (by decide)) ((hFM.2.2.2.2.1 978 (by decide)).trans (by decide)) (by rw [qx_14, qx_44]; omega) ((hFM.2.2.2.2.1 978 (by decide)).trans (by decide))) lk_L_79 yd_X12_calm hTM hτM rfl (by decide) ⟨rfl, fun _ _ => rfl, hS_1.2.2⟩ (fun q h => by have h : q = rq B (B + 178) 1 ∨ q = rq B (B + 178) 0 := h; simp only [qn_178_0, qn_178_1] at h; show B ≤ q; omega) ⟨Nat.le_of_ble_eq_true rfl, Nat.le_of_ble_eq_true rfl⟩ (Nat.le_of_ble_eq_true rfl) ⟨Nat.le_of_ble_eq_true rfl, Nat.le_of_ble_eq_true rfl⟩ rfl dL_law_504 (fun r_2 H_2 locs_2 p_2 hT_2 hk_2 hS_2 => ?_)
  refine th_topi (y := 0) (show (0 : Int32) = r_2 from p_2).symm ?_
  have hX_2 : va_X b 4 xs s H_2 := hX_1.kept (hS_2.2.1 b (Nat.not_le.mpr hbB))
  refine lv_icmp_eq (tgt := 766) hx hb dL_law_507 (by decide) (fun c_ => ?_) (fun c_ => absurd (by decide) c_)
  exact kk H_2 locs_2 hS_2.2.2 hX_2
set_option maxHeartbeats 4000000 in
set_option maxRecDepth 100000 in
theorem w_calm_7 (E : EE p s m args c cL_law RL D cI cS) (hml : c.maxLocals = 4) (hl : lv_has ls 4 [(3, .int 0), (2, .ref (B + 178)), (1, .ref (B + 0)), (0, .ref b)]) (hWX : WF (tq B 0 178) (rq B)) (hWM : WF (tq B 178 186) (rq B)) (hTX : TH D cI cS (tq B 0 178) (rq B) H) (hFX : FX D B H) (hTM : TH D cI cS (tq B 178 186) (rq B) H) (hFM : FM D B H) (hX : va_X b 4 xs s H) (hbB : b < B) (hlo : ∀ x ∈ locs, B ≤ x.base) (l1 : 6 ≤ (xs 1).toInt) (kk : KL p l e s m args below meth c ls Q B b xs) : WL p l e s m args below meth c H locs ls Q 489 := by
  have hx := E.1
  have hb := E.2.1
  have hτX := ttX B
  have hτM := ttM B
  refine lv_aload_n hx hb dL_law_489 rfl (lv_at hl 2 rfl) ?_
  refine lv_aload_n hx hb dL_law_490 rfl (lv_at hl 3 rfl) ?_
  refine lv_iload_n hx hb dL_law_491 rfl (lv_at hl 0 rfl) ?_
  refine lv_iconst (v := 1) hx hb dL_law_492 (by decide) ?_
  refine lv_iadd hx hb dL_law_493 ?_
  refine th_topi (y := 1) (by decide) ?_
  refine lw_sld (j := 1) hx hb hX (by decide) (by decide) (by decide) dL_law_494 ?_
  refine th_Vi (A := fun q => B ≤ q) (As := [.int (xs 1)]) (rest := []) E hml hl.1 (c_X11_calm_v8 l D cI cS (tq B 0 178) (rq B) hWX H hTX (B + 0) (xs 1) hτX l1) lk_L_76 yd_X11_calm hTX hτX rfl (by decide) ⟨rfl, fun _ _ => rfl, hlo⟩ (fun q h => h.elim) ⟨Nat.le_of_ble_eq_true rfl, Nat.le_of_ble_eq_true rfl⟩ (Nat.le_of_ble_eq_true rfl) ⟨Nat.le_of_ble_eq_true rfl, Nat.le_of_ble_eq_true rfl⟩ rfl dL_law_495 (fun r_1 H_1 locs_1 p_1 hT_1 hk_1 hS_1 => ?_)
  refine th_topi (y := (-1)) (show ((-1) : Int32) = r_1 from p_1.2).symm ?_
  have kM : ∀ q, B + 178 ≤ q → H_1[q]? = H[q]? := fun q hq => hk_1 q (fun h => h.elim)
  have hTM := hTM.same (H1 := H_1) (fun q t h => kM q (by obtain ⟨j, rfl, z1, -, -⟩ := tq_some h; omega))
  have hFM := hFM.kept (H1 := H_1) kM
  have hX_1 : va_X b 4 xs s H_1 := hX.kept (hS_1.2.1 b (Nat.not_le.mpr hbB))
  refine lv_aload_n hx hb dL_law_498 rfl (lv_at hl 1 rfl) ?_
  refine lv_aload_n hx hb dL_law_499 rfl (lv_at hl 3 rfl) ?_
  refine lv_iload_n hx hb dL_law_500 rfl (lv_at hl 0 rfl) ?_
  refine lv_iconst (v := 1) hx hb dL_law_501 (by decide) ?_
  refine lv_iadd hx hb dL_law_502 ?_
  refine th_topi (y := 1) (by decide) ?_
  refine lw_sld (j := 1) hx hb hX_1 (by decide) (by decide) (by decide) dL_law_503 ?_
  refine th_Vi (A := fun q => B ≤ q) (As := [.int (xs 1)]) (rest := [.int (-1)]) E hml hl.1 (c_X12_calm_v8 l D cI cS (tq B 178 186) (rq B) hWM H_1 hTM (B + 178) (xs 1) hτM l1) lk_L_79 yd_X12_calm hTM hτM rfl (by decide) ⟨rfl, fun _ _ => rfl, hS_1.2.2⟩ (fun q h => h.elim) ⟨Nat.le_of_ble_eq_true rfl, Nat.le_of_ble_eq_true rfl⟩ (Nat.le_of_ble_eq_true rfl) ⟨Nat.le_of_ble_eq_true rfl, Nat.le_of_ble_eq_true rfl⟩ rfl dL_law_504 (fun r_2 H_2 locs_2 p_2 hT_2 hk_2 hS_2 => ?_)
  refine th_topi (y := (-1)) (show ((-1) : Int32) = r_2 from p_2.2).symm ?_
  have hX_2 : va_X b 4 xs s H_2 := hX_1.kept (hS_2.2.1 b (Nat.not_le.mpr hbB))
  refine lv_icmp_eq (tgt := 766) hx hb dL_law_507 (by decide) (fun c_ => ?_) (fun c_ => absurd (by decide) c_)
  exact kk H_2 locs_2 hS_2.2.2 hX_2
theorem w_calm (E : EE p s m args c cL_law RL D cI cS) (hml : c.maxLocals = 4) (hl : lv_has ls 4 [(3, .int 0), (2, .ref (B + 178)), (1, .ref (B + 0)), (0, .ref b)]) (hWX : WF (tq B 0 178) (rq B)) (hWM : WF (tq B 178 186) (rq B)) (hTX : TH D cI cS (tq B 0 178) (rq B) H) (hFX : FX D B H) (hTM : TH D cI cS (tq B 178 186) (rq B) H) (hFM : FM D B H) (hX : va_X b 4 xs s H) (hbB : b < B) (hlo : ∀ x ∈ locs, B ≤ x.base) (kk : KL p l e s m args below meth c ls Q B b xs) : WL p l e s m args below meth c H locs ls Q 489 := by
  rcases (show (xs 1).toInt ≤ -1 ∨ (xs 1).toInt = 0 ∨ (xs 1).toInt = 1 ∨ (xs 1).toInt = 2 ∨ (xs 1).toInt = 3 ∨ (xs 1).toInt = 4 ∨ (xs 1).toInt = 5 ∨ 6 ≤ (xs 1).toInt by omega) with g1 | t1 | t1 | t1 | t1 | t1 | t1 | l1
  · exact w_calm_0 E hml hl hWX hWM hTX hFX hTM hFM hX hbB hlo g1 kk
  · have h1 : xs 1 = 0 := i_eq t1 (by decide)
    exact w_calm_1 E hml hl hWX hWM hTX hFX hTM hFM hX hbB hlo h1 kk
  · have h1 : xs 1 = 1 := i_eq t1 (by decide)
    exact w_calm_2 E hml hl hWX hWM hTX hFX hTM hFM hX hbB hlo h1 kk
  · have h1 : xs 1 = 2 := i_eq t1 (by decide)
    exact w_calm_3 E hml hl hWX hWM hTX hFX hTM hFM hX hbB hlo h1 kk
  · have h1 : xs 1 = 3 := i_eq t1 (by decide)
    exact w_calm_4 E hml hl hWX hWM hTX hFX hTM hFM hX hbB hlo h1 kk
  · have h1 : xs 1 = 4 := i_eq t1 (by decide)
    exact w_calm_5 E hml hl hWX hWM hTX hFX hTM hFM hX hbB hlo h1 kk
  · have h1 : xs 1 = 5 := i_eq t1 (by decide)
    exact w_calm_6 E hml hl hWX hWM hTX hFX hTM hFM hX hbB hlo h1 kk
  · exact w_calm_7 E hml hl hWX hWM hTX hFX hTM hFM hX hbB hlo l1 kk
set_option maxHeartbeats 4000000 in
set_option maxRecDepth 100000 in
theorem w_end_0 (E : EE p s m args c cL_law RL D cI cS) (hml : c.maxLocals = 4) (hl : lv_has ls 4 [(3, .int 0), (2, .ref (B + 178)), (1, .ref (B + 0)), (0, .ref b)]) (hWX : WF (tq B 0 178) (rq B)) (hWM : WF (tq B 178 186) (rq B)) (hTX : TH D cI cS (tq B 0 178) (rq B) H) (hFX : FX D B H) (hTM : TH D cI cS (tq B 178 186) (rq B) H) (hFM : FM D B H) (hX : va_X b 4 xs s H) (hbB : b < B) (hlo : ∀ x ∈ locs, B ≤ x.base) (g1 : (xs 1).toInt ≤ -1) (kk : KL p l e s m args below meth c ls Q B b xs) : WL p l e s m args below meth c H locs ls Q 512 := by
  have hx := E.1
  have hb := E.2.1
  have hτX := ttX B
  have hτM := ttM B
  refine lv_aload_n hx hb dL_law_512 rfl (lv_at hl 2 rfl) ?_
  refine lv_aload_n hx hb dL_law_513 rfl (lv_at hl 3 rfl) ?_
  refine lv_iload_n hx hb dL_law_514 rfl (lv_at hl 0 rfl) ?_
  refine lv_iconst (v := 1) hx hb dL_law_515 (by decide) ?_
  refine lv_iadd hx hb dL_law_516 ?_
  refine th_topi (y := 1) (by decide) ?_
  refine lw_sld (j := 1) hx hb hX (by decide) (by decide) (by decide) dL_law_517 ?_
  refine lv_aload_n hx hb dL_law_518 rfl (lv_at hl 3 rfl) ?_
  refine lv_iload_n hx hb dL_law_519 rfl (lv_at hl 0 rfl) ?_
  refine lv_iconst (v := 2) hx hb dL_law_520 (by decide) ?_
  refine lv_iadd hx hb dL_law_521 ?_
  refine th_topi (y := 2) (by decide) ?_
  refine lw_sld (j := 2) hx hb hX (by decide) (by decide) (by decide) dL_law_522 ?_
  refine th_Vi (A := fun q => B ≤ q) (As := [.int (xs 1), .int (xs 2)]) (rest := []) E hml hl.1 (c_X11_end l D cI cS (tq B 0 178) (rq B) hWX H hTX (B + 0) (xs 1) (xs 2) hτX g1) lk_L_80 yd_X11_end hTX hτX rfl (by decide) ⟨rfl, fun _ _ => rfl, hlo⟩ (fun q h => h.elim) ⟨Nat.le_of_ble_eq_true rfl, Nat.le_of_ble_eq_true rfl⟩ (Nat.le_of_ble_eq_true rfl) ⟨Nat.le_of_ble_eq_true rfl, Nat.le_of_ble_eq_true rfl⟩ rfl dL_law_523 (fun r_1 H_1 locs_1 p_1 hT_1 hk_1 hS_1 => ?_)
  refine th_topi (y := (-1)) (show ((-1) : Int32) = r_1 from p_1.2).symm ?_
  have kM : ∀ q, B + 178 ≤ q → H_1[q]? = H[q]? := fun q hq => hk_1 q (fun h => h.elim)
  have hTM := hTM.same (H1 := H_1) (fun q t h => kM q (by obtain ⟨j, rfl, z1, -, -⟩ := tq_some h; omega))
  have hFM := hFM.kept (H1 := H_1) kM
  have hX_1 : va_X b 4 xs s H_1 := hX.kept (hS_1.2.1 b (Nat.not_le.mpr hbB))
  refine lv_aload_n hx hb dL_law_526 rfl (lv_at hl 1 rfl) ?_
  refine lv_aload_n hx hb dL_law_527 rfl (lv_at hl 3 rfl) ?_
  refine lv_iload_n hx hb dL_law_528 rfl (lv_at hl 0 rfl) ?_
  refine lv_iconst (v := 1) hx hb dL_law_529 (by decide) ?_
  refine lv_iadd hx hb dL_law_530 ?_
  refine th_topi (y := 1) (by decide) ?_
  refine lw_sld (j := 1) hx hb hX_1 (by decide) (by decide) (by decide) dL_law_531 ?_
  refine lv_aload_n hx hb dL_law_532 rfl (lv_at hl 3 rfl) ?_
  refine lv_iload_n hx hb dL_law_533 rfl (lv_at hl 0 rfl) ?_
  refine lv_iconst (v := 2) hx hb dL_law_534 (by decide) ?_
  refine lv_iadd hx hb dL_law_535 ?_
  refine th_topi (y := 2) (by decide) ?_
  refine lw_sld (j := 2) hx hb hX_1 (by decide) (by decide) (by decide) dL_law_536 ?_
  refine th_Vi (A := fun q => B ≤ q) (As := [.int (xs 1), .int (xs 2)]) (rest := [.int (-1)]) E hml hl.1 (c_X12_end l D cI cS (tq B 178 186) (rq B) hWM H_1 hTM (B + 178) (xs 1) (xs 2) hτM g1) lk_L_83 yd_X12_end hTM hτM rfl (by decide) ⟨rfl, fun _ _ => rfl, hS_1.2.2⟩ (fun q h => h.elim) ⟨Nat.le_of_ble_eq_true rfl, Nat.le_of_ble_eq_true rfl⟩ (Nat.le_of_ble_eq_true rfl) ⟨Nat.le_of_ble_eq_true rfl, Nat.le_of_ble_eq_true rfl⟩ rfl dL_law_537 (fun r_2 H_2 locs_2 p_2 hT_2 hk_2 hS_2 => ?_)
  refine th_topi (y := (-1)) (show ((-1) : Int32) = r_2 from p_2.2).symm ?_
  have hX_2 : va_X b 4 xs s H_2 := hX_1.kept (hS_2.2.1 b (Nat.not_le.mpr hbB))
  refine lv_icmp_eq (tgt := 766) hx hb dL_law_540 (by decide) (fun c_ => ?_) (fun c_ => absurd (by decide) c_)
  exact kk H_2 locs_2 hS_2.2.2 hX_2
set_option maxHeartbeats 4000000 in
set_option maxRecDepth 100000 in
theorem w_end_1 (E : EE p s m args c cL_law RL D cI cS) (hml : c.maxLocals = 4) (hl : lv_has ls 4 [(3, .int 0), (2, .ref (B + 178)), (1, .ref (B + 0)), (0, .ref b)]) (hWX : WF (tq B 0 178) (rq B)) (hWM : WF (tq B 178 186) (rq B)) (hTX : TH D cI cS (tq B 0 178) (rq B) H) (hFX : FX D B H) (hTM : TH D cI cS (tq B 178 186) (rq B) H) (hFM : FM D B H) (hX : va_X b 4 xs s H) (hbB : b < B) (hlo : ∀ x ∈ locs, B ≤ x.base) (l1 : 2 ≤ (xs 1).toInt) (kk : KL p l e s m args below meth c ls Q B b xs) : WL p l e s m args below meth c H locs ls Q 512 := by
  have hx := E.1
  have hb := E.2.1
  have hτX := ttX B
  have hτM := ttM B
  refine lv_aload_n hx hb dL_law_512 rfl (lv_at hl 2 rfl) ?_
  refine lv_aload_n hx hb dL_law_513 rfl (lv_at hl 3 rfl) ?_
  refine lv_iload_n hx hb dL_law_514 rfl (lv_at hl 0 rfl) ?_
  refine lv_iconst (v := 1) hx hb dL_law_515 (by decide) ?_
  refine lv_iadd hx hb dL_law_516 ?_
  refine th_topi (y := 1) (by decide) ?_
  refine lw_sld (j := 1) hx hb hX (by decide) (by decide) (by decide) dL_law_517 ?_
  refine lv_aload_n hx hb dL_law_518 rfl (lv_at hl 3 rfl) ?_
  refine lv_iload_n hx hb dL_law_519 rfl (lv_at hl 0 rfl) ?_
  refine lv_iconst (v := 2) hx hb dL_law_520 (by decide) ?_
  refine lv_iadd hx hb dL_law_521 ?_
  refine th_topi (y := 2) (by decide) ?_
  refine lw_sld (j := 2) hx hb hX (by decide) (by decide) (by decide) dL_law_522 ?_
  refine th_Vi (A := fun q => B ≤ q) (As := [.int (xs 1), .int (xs 2)]) (rest := []) E hml hl.1 (c_X11_end_v2 l D cI cS (tq B 0 178) (rq B) hWX H hTX (B + 0) (xs 1) (xs 2) hτX l1) lk_L_80 yd_X11_end hTX hτX rfl (by decide) ⟨rfl, fun _ _ => rfl, hlo⟩ (fun q h => h.elim) ⟨Nat.le_of_ble_eq_true rfl, Nat.le_of_ble_eq_true rfl⟩ (Nat.le_of_ble_eq_true rfl) ⟨Nat.le_of_ble_eq_true rfl, Nat.le_of_ble_eq_true rfl⟩ rfl dL_law_523 (fun r_1 H_1 locs_1 p_1 hT_1 hk_1 hS_1 => ?_)
  refine th_topi (y := (-1)) (show ((-1) : Int32) = r_1 from p_1.2).symm ?_
  have kM : ∀ q, B + 178 ≤ q → H_1[q]? = H[q]? := fun q hq => hk_1 q (fun h => h.elim)
  have hTM := hTM.same (H1 := H_1) (fun q t h => kM q (by obtain ⟨j, rfl, z1, -, -⟩ := tq_some h; omega))
  have hFM := hFM.kept (H1 := H_1) kM
  have hX_1 : va_X b 4 xs s H_1 := hX.kept (hS_1.2.1 b (Nat.not_le.mpr hbB))
  refine lv_aload_n hx hb dL_law_526 rfl (lv_at hl 1 rfl) ?_
  refine lv_aload_n hx hb dL_law_527 rfl (lv_at hl 3 rfl) ?_
  refine lv_iload_n hx hb dL_law_528 rfl (lv_at hl 0 rfl) ?_
  refine lv_iconst (v := 1) hx hb dL_law_529 (by decide) ?_
  refine lv_iadd hx hb dL_law_530 ?_
  refine th_topi (y := 1) (by decide) ?_
  refine lw_sld (j := 1) hx hb hX_1 (by decide) (by decide) (by decide) dL_law_531 ?_
  refine lv_aload_n hx hb dL_law_532 rfl (lv_at hl 3 rfl) ?_
  refine lv_iload_n hx hb dL_law_533 rfl (lv_at hl 0 rfl) ?_
  refine lv_iconst (v := 2) hx hb dL_law_534 (by decide) ?_
  refine lv_iadd hx hb dL_law_535 ?_
  refine th_topi (y := 2) (by decide) ?_
  refine lw_sld (j := 2) hx hb hX_1 (by decide) (by decide) (by decide) dL_law_536 ?_
  refine th_Vi (A := fun q => B ≤ q) (As := [.int (xs 1), .int (xs 2)]) (rest := [.int (-1)]) E hml hl.1 (c_X12_end_v2 l D cI cS (tq B 178 186) (rq B) hWM H_1 hTM (B + 178) (xs 1) (xs 2) hτM l1) lk_L_83 yd_X12_end hTM hτM rfl (by decide) ⟨rfl, fun _ _ => rfl, hS_1.2.2⟩ (fun q h => h.elim) ⟨Nat.le_of_ble_eq_true rfl, Nat.le_of_ble_eq_true rfl⟩ (Nat.le_of_ble_eq_true rfl) ⟨Nat.le_of_ble_eq_true rfl, Nat.le_of_ble_eq_true rfl⟩ rfl dL_law_537 (fun r_2 H_2 locs_2 p_2 hT_2 hk_2 hS_2 => ?_)
  refine th_topi (y := (-1)) (show ((-1) : Int32) = r_2 from p_2.2).symm ?_
  have hX_2 : va_X b 4 xs s H_2 := hX_1.kept (hS_2.2.1 b (Nat.not_le.mpr hbB))
  refine lv_icmp_eq (tgt := 766) hx hb dL_law_540 (by decide) (fun c_ => ?_) (fun c_ => absurd (by decide) c_)
  exact kk H_2 locs_2 hS_2.2.2 hX_2
set_option maxHeartbeats 4000000 in
set_option maxRecDepth 100000 in
theorem w_end_2 (E : EE p s m args c cL_law RL D cI cS) (hml : c.maxLocals = 4) (hl : lv_has ls 4 [(3, .int 0), (2, .ref (B + 178)), (1, .ref (B + 0)), (0, .ref b)]) (hWX : WF (tq B 0 178) (rq B)) (hWM : WF (tq B 178 186) (rq B)) (hTX : TH D cI cS (tq B 0 178) (rq B) H) (hFX : FX D B H) (hTM : TH D cI cS (tq B 178 186) (rq B) H) (hFM : FM D B H) (hX : va_X b 4 xs s H) (hbB : b < B) (hlo : ∀ x ∈ locs, B ≤ x.base) (h1 : xs 1 = 0) (g2 : (xs 2).toInt ≤ -1) (kk : KL p l e s m args below meth c ls Q B b xs) : WL p l e s m args below meth c H locs ls Q 512 := by
  have hx := E.1
  have hb := E.2.1
  have hτX := ttX B
  have hτM := ttM B
  refine lv_aload_n hx hb dL_law_512 rfl (lv_at hl 2 rfl) ?_
  refine lv_aload_n hx hb dL_law_513 rfl (lv_at hl 3 rfl) ?_
  refine lv_iload_n hx hb dL_law_514 rfl (lv_at hl 0 rfl) ?_
  refine lv_iconst (v := 1) hx hb dL_law_515 (by decide) ?_
  refine lv_iadd hx hb dL_law_516 ?_
  refine th_topi (y := 1) (by decide) ?_
  refine lw_sld (j := 1) hx hb hX (by decide) (by decide) (by decide) dL_law_517 ?_
  refine th_topi h1 ?_
  refine lv_aload_n hx hb dL_law_518 rfl (lv_at hl 3 rfl) ?_
  refine lv_iload_n hx hb dL_law_519 rfl (lv_at hl 0 rfl) ?_
  refine lv_iconst (v := 2) hx hb dL_law_520 (by decide) ?_
  refine lv_iadd hx hb dL_law_521 ?_
  refine th_topi (y := 2) (by decide) ?_
  refine lw_sld (j := 2) hx hb hX (by decide) (by decide) (by decide) dL_law_522 ?_
  refine th_Vi (A := fun q => B ≤ q) (As := [.int 0, .int (xs 2)]) (rest := []) E hml hl.1 (c_X11_end_v3 l D cI cS (tq B 0 178) (rq B) hWX H hTX (B + 0) (xs 2) hτX g2) lk_L_80 yd_X11_end hTX hτX rfl (by decide) ⟨rfl, fun _ _ => rfl, hlo⟩ (fun q h => h.elim) ⟨Nat.le_of_ble_eq_true rfl, Nat.le_of_ble_eq_true rfl⟩ (Nat.le_of_ble_eq_true rfl) ⟨Nat.le_of_ble_eq_true rfl, Nat.le_of_ble_eq_true rfl⟩ rfl dL_law_523 (fun r_1 H_1 locs_1 p_1 hT_1 hk_1 hS_1 => ?_)
  refine th_topi (y := (-1)) (show ((-1) : Int32) = r_1 from p_1.2).symm ?_
  have kM : ∀ q, B + 178 ≤ q → H_1[q]? = H[q]? := fun q hq => hk_1 q (fun h => h.elim)
  have hTM := hTM.same (H1 := H_1) (fun q t h => kM q (by obtain ⟨j, rfl, z1, -, -⟩ := tq_some h; omega))
  have hFM := hFM.kept (H1 := H_1) kM
  have hX_1 : va_X b 4 xs s H_1 := hX.kept (hS_1.2.1 b (Nat.not_le.mpr hbB))
  refine lv_aload_n hx hb dL_law_526 rfl (lv_at hl 1 rfl) ?_
  refine lv_aload_n hx hb dL_law_527 rfl (lv_at hl 3 rfl) ?_
  refine lv_iload_n hx hb dL_law_528 rfl (lv_at hl 0 rfl) ?_
  refine lv_iconst (v := 1) hx hb dL_law_529 (by decide) ?_
  refine lv_iadd hx hb dL_law_530 ?_
  refine th_topi (y := 1) (by decide) ?_
  refine lw_sld (j := 1) hx hb hX_1 (by decide) (by decide) (by decide) dL_law_531 ?_
  refine th_topi h1 ?_
  refine lv_aload_n hx hb dL_law_532 rfl (lv_at hl 3 rfl) ?_
  refine lv_iload_n hx hb dL_law_533 rfl (lv_at hl 0 rfl) ?_
  refine lv_iconst (v := 2) hx hb dL_law_534 (by decide) ?_
  refine lv_iadd hx hb dL_law_535 ?_
  refine th_topi (y := 2) (by decide) ?_
  refine lw_sld (j := 2) hx hb hX_1 (by decide) (by decide) (by decide) dL_law_536 ?_
  refine th_Vi (A := fun q => B ≤ q) (As := [.int 0, .int (xs 2)]) (rest := [.int (-1)]) E hml hl.1 (c_X12_end_v3 l D cI cS (tq B 178 186) (rq B) hWM H_1 hTM (B + 178) (xs 2) hτM g2) lk_L_83 yd_X12_end hTM hτM rfl (by decide) ⟨rfl, fun _ _ => rfl, hS_1.2.2⟩ (fun q h => h.elim) ⟨Nat.le_of_ble_eq_true rfl, Nat.le_of_ble_eq_true rfl⟩ (Nat.le_of_ble_eq_true rfl) ⟨Nat.le_of_ble_eq_true rfl, Nat.le_of_ble_eq_true rfl⟩ rfl dL_law_537 (fun r_2 H_2 locs_2 p_2 hT_2 hk_2 hS_2 => ?_)
  refine th_topi (y := (-1)) (show ((-1) : Int32) = r_2 from p_2.2).symm ?_
  have hX_2 : va_X b 4 xs s H_2 := hX_1.kept (hS_2.2.1 b (Nat.not_le.mpr hbB))
  refine lv_icmp_eq (tgt := 766) hx hb dL_law_540 (by decide) (fun c_ => ?_) (fun c_ => absurd (by decide) c_)
  exact kk H_2 locs_2 hS_2.2.2 hX_2
set_option maxHeartbeats 4000000 in
set_option maxRecDepth 100000 in
theorem w_end_3 (E : EE p s m args c cL_law RL D cI cS) (hml : c.maxLocals = 4) (hl : lv_has ls 4 [(3, .int 0), (2, .ref (B + 178)), (1, .ref (B + 0)), (0, .ref b)]) (hWX : WF (tq B 0 178) (rq B)) (hWM : WF (tq B 178 186) (rq B)) (hTX : TH D cI cS (tq B 0 178) (rq B) H) (hFX : FX D B H) (hTM : TH D cI cS (tq B 178 186) (rq B) H) (hFM : FM D B H) (hX : va_X b 4 xs s H) (hbB : b < B) (hlo : ∀ x ∈ locs, B ≤ x.base) (h1 : xs 1 = 0) (h2 : xs 2 = 0) (kk : KL p l e s m args below meth c ls Q B b xs) : WL p l e s m args below meth c H locs ls Q 512 := by
  have hx := E.1
  have hb := E.2.1
  have hτX := ttX B
  have hτM := ttM B
  refine lv_aload_n hx hb dL_law_512 rfl (lv_at hl 2 rfl) ?_
  refine lv_aload_n hx hb dL_law_513 rfl (lv_at hl 3 rfl) ?_
  refine lv_iload_n hx hb dL_law_514 rfl (lv_at hl 0 rfl) ?_
  refine lv_iconst (v := 1) hx hb dL_law_515 (by decide) ?_
  refine lv_iadd hx hb dL_law_516 ?_
  refine th_topi (y := 1) (by decide) ?_
  refine lw_sld (j := 1) hx hb hX (by decide) (by decide) (by decide) dL_law_517 ?_
  refine th_topi h1 ?_
  refine lv_aload_n hx hb dL_law_518 rfl (lv_at hl 3 rfl) ?_
  refine lv_iload_n hx hb dL_law_519 rfl (lv_at hl 0 rfl) ?_
  refine lv_iconst (v := 2) hx hb dL_law_520 (by decide) ?_
  refine lv_iadd hx hb dL_law_521 ?_
  refine th_topi (y := 2) (by decide) ?_
  refine lw_sld (j := 2) hx hb hX (by decide) (by decide) (by decide) dL_law_522 ?_
  refine th_topi h2 ?_
  refine th_Vi (A := fun q => B ≤ q) (As := [.int 0, .int 0]) (rest := []) E hml hl.1 (c_X11_end_v4 l D cI cS (tq B 0 178) (rq B) hWX H hTX (B + 0) hτX hFX.2.2.2.2.2.2.2.2.2.2.2.2.2.2.2.2.2.2.2.2.2.2.2.2.2.2.2.2.2.2.1) lk_L_80 yd_X11_end hTX hτX rfl (by decide) ⟨rfl, fun _ _ => rfl, hlo⟩ (fun q h => h.elim) ⟨Nat.le_of_ble_eq_true rfl, Nat.le_of_ble_eq_true rfl⟩ (Nat.le_of_ble_eq_true rfl) ⟨Nat.le_of_ble_eq_true rfl, Nat.le_of_ble_eq_true rfl⟩ rfl dL_law_523 (fun r_1 H_1 locs_1 p_1 hT_1 hk_1 hS_1 => ?_)
  refine th_topi (y := 0) (show (0 : Int32) = r_1 from p_1.2).symm ?_
  have kM : ∀ q, B + 178 ≤ q → H_1[q]? = H[q]? := fun q hq => hk_1 q (fun h => h.elim)
  have hTM := hTM.same (H1 := H_1) (fun q t h => kM q (by obtain ⟨j, rfl, z1, -, -⟩ := tq_some h; omega))
  have hFM := hFM.kept (H1 := H_1) kM
  have hX_1 : va_X b 4 xs s H_1 := hX.kept (hS_1.2.1 b (Nat.not_le.mpr hbB))
  refine lv_aload_n hx hb dL_law_526 rfl (lv_at hl 1 rfl) ?_
  refine lv_aload_n hx hb dL_law_527 rfl (lv_at hl 3 rfl) ?_
  refine lv_iload_n hx hb dL_law_528 rfl (lv_at hl 0 rfl) ?_
  refine lv_iconst (v := 1) hx hb dL_law_529 (by decide) ?_
  refine lv_iadd hx hb dL_law_530 ?_
  refine th_topi (y := 1) (by decide) ?_
  refine lw_sld (j := 1) hx hb hX_1 (by decide) (by decide) (by decide) dL_law_531 ?_
  refine th_topi h1 ?_
  refine lv_aload_n hx hb dL_law_532 rfl (lv_at hl 3 rfl) ?_
  refine lv_iload_n hx hb dL_law_533 rfl (lv_at hl 0 rfl) ?_
  refine lv_iconst (v := 2) hx hb dL_law_534 (by decide) ?_
  refine lv_iadd hx hb dL_law_535 ?_
  refine th_topi (y := 2) (by decide) ?_
  refine lw_sld (j := 2) hx hb hX_1 (by decide) (by decide) (by decide) dL_law_536 ?_
  refine th_topi h2 ?_
  refine th_Vi (A := fun q => B ≤ q) (As := [.int 0, .int 0]) (rest := [.int 0]) E hml hl.1 (c_X12_end_v4 l D cI cS (tq B 178 186) (rq B) hWM H_1 hTM (B + 178) hτM ((hFM.2.2.2.2.1 0 (by decide)).trans (by decide))) lk_L_83 yd_X12_end hTM hτM rfl (by decide) ⟨rfl, fun _ _ => rfl, hS_1.2.2⟩ (fun q h => h.elim) ⟨Nat.le_of_ble_eq_true rfl, Nat.le_of_ble_eq_true rfl⟩ (Nat.le_of_ble_eq_true rfl) ⟨Nat.le_of_ble_eq_true rfl, Nat.le_of_ble_eq_true rfl⟩ rfl dL_law_537 (fun r_2 H_2 locs_2 p_2 hT_2 hk_2 hS_2 => ?_)
  refine th_topi (y := 0) (show (0 : Int32) = r_2 from p_2.2).symm ?_
  have hX_2 : va_X b 4 xs s H_2 := hX_1.kept (hS_2.2.1 b (Nat.not_le.mpr hbB))
  refine lv_icmp_eq (tgt := 766) hx hb dL_law_540 (by decide) (fun c_ => ?_) (fun c_ => absurd (by decide) c_)
  exact kk H_2 locs_2 hS_2.2.2 hX_2
set_option maxHeartbeats 4000000 in
set_option maxRecDepth 100000 in
theorem w_end_4 (E : EE p s m args c cL_law RL D cI cS) (hml : c.maxLocals = 4) (hl : lv_has ls 4 [(3, .int 0), (2, .ref (B + 178)), (1, .ref (B + 0)), (0, .ref b)]) (hWX : WF (tq B 0 178) (rq B)) (hWM : WF (tq B 178 186) (rq B)) (hTX : TH D cI cS (tq B 0 178) (rq B) H) (hFX : FX D B H) (hTM : TH D cI cS (tq B 178 186) (rq B) H) (hFM : FM D B H) (hX : va_X b 4 xs s H) (hbB : b < B) (hlo : ∀ x ∈ locs, B ≤ x.base) (h1 : xs 1 = 0) (h2 : xs 2 = 1) (kk : KL p l e s m args below meth c ls Q B b xs) : WL p l e s m args below meth c H locs ls Q 512 := by
  have hx := E.1
  have hb := E.2.1
  have hτX := ttX B
  have hτM := ttM B
  refine lv_aload_n hx hb dL_law_512 rfl (lv_at hl 2 rfl) ?_
  refine lv_aload_n hx hb dL_law_513 rfl (lv_at hl 3 rfl) ?_
  refine lv_iload_n hx hb dL_law_514 rfl (lv_at hl 0 rfl) ?_
  refine lv_iconst (v := 1) hx hb dL_law_515 (by decide) ?_
  refine lv_iadd hx hb dL_law_516 ?_
  refine th_topi (y := 1) (by decide) ?_
  refine lw_sld (j := 1) hx hb hX (by decide) (by decide) (by decide) dL_law_517 ?_
  refine th_topi h1 ?_
  refine lv_aload_n hx hb dL_law_518 rfl (lv_at hl 3 rfl) ?_
  refine lv_iload_n hx hb dL_law_519 rfl (lv_at hl 0 rfl) ?_
  refine lv_iconst (v := 2) hx hb dL_law_520 (by decide) ?_
  refine lv_iadd hx hb dL_law_521 ?_
  refine th_topi (y := 2) (by decide) ?_
  refine lw_sld (j := 2) hx hb hX (by decide) (by decide) (by decide) dL_law_522 ?_
  refine th_topi h2 ?_
  refine th_Vi (A := fun q => B ≤ q) (As := [.int 0, .int 1]) (rest := []) E hml hl.1 (c_X11_end_v5 l D cI cS (tq B 0 178) (rq B) hWX H hTX (B + 0) hτX hFX.2.2.2.2.2.2.2.2.2.2.2.2.2.2.2.2.2.2.2.2.2.2.2.1) lk_L_80 yd_X11_end hTX hτX rfl (by decide) ⟨rfl, fun _ _ => rfl, hlo⟩ (fun q h => h.elim) ⟨Nat.le_of_ble_eq_true rfl, Nat.le_of_ble_eq_true rfl⟩ (Nat.le_of_ble_eq_true rfl) ⟨Nat.le_of_ble_eq_true rfl, Nat.le_of_ble_eq_true rfl⟩ rfl dL_law_523 (fun r_1 H_1 locs_1 p_1 hT_1 hk_1 hS_1 => ?_)
  refine th_topi (y := 0) (show (0 : Int32) = r_1 from p_1.2).symm ?_
  have kM : ∀ q, B + 178 ≤ q → H_1[q]? = H[q]? := fun q hq => hk_1 q (fun h => h.elim)
  have hTM := hTM.same (H1 := H_1) (fun q t h => kM q (by obtain ⟨j, rfl, z1, -, -⟩ := tq_some h; omega))
  have hFM := hFM.kept (H1 := H_1) kM
  have hX_1 : va_X b 4 xs s H_1 := hX.kept (hS_1.2.1 b (Nat.not_le.mpr hbB))
  refine lv_aload_n hx hb dL_law_526 rfl (lv_at hl 1 rfl) ?_
  refine lv_aload_n hx hb dL_law_527 rfl (lv_at hl 3 rfl) ?_
  refine lv_iload_n hx hb dL_law_528 rfl (lv_at hl 0 rfl) ?_
  refine lv_iconst (v := 1) hx hb dL_law_529 (by decide) ?_
  refine lv_iadd hx hb dL_law_530 ?_
  refine th_topi (y := 1) (by decide) ?_
  refine lw_sld (j := 1) hx hb hX_1 (by decide) (by decide) (by decide) dL_law_531 ?_
  refine th_topi h1 ?_
  refine lv_aload_n hx hb dL_law_532 rfl (lv_at hl 3 rfl) ?_
  refine lv_iload_n hx hb dL_law_533 rfl (lv_at hl 0 rfl) ?_
  refine lv_iconst (v := 2) hx hb dL_law_534 (by decide) ?_
  refine lv_iadd hx hb dL_law_535 ?_
  refine th_topi (y := 2) (by decide) ?_
  refine lw_sld (j := 2) hx hb hX_1 (by decide) (by decide) (by decide) dL_law_536 ?_
  refine th_topi h2 ?_
  refine th_Vi (A := fun q => B ≤ q) (As := [.int 0, .int 1]) (rest := [.int 0]) E hml hl.1 (c_X12_end_v5 l D cI cS (tq B 178 186) (rq B) hWM H_1 hTM (B + 178) hτM ((hFM.2.2.2.2.1 1 (by decide)).trans (by decide))) lk_L_83 yd_X12_end hTM hτM rfl (by decide) ⟨rfl, fun _ _ => rfl, hS_1.2.2⟩ (fun q h => h.elim) ⟨Nat.le_of_ble_eq_true rfl, Nat.le_of_ble_eq_true rfl⟩ (Nat.le_of_ble_eq_true rfl) ⟨Nat.le_of_ble_eq_true rfl, Nat.le_of_ble_eq_true rfl⟩ rfl dL_law_537 (fun r_2 H_2 locs_2 p_2 hT_2 hk_2 hS_2 => ?_)
  refine th_topi (y := 0) (show (0 : Int32) = r_2 from p_2.2).symm ?_
  have hX_2 : va_X b 4 xs s H_2 := hX_1.kept (hS_2.2.1 b (Nat.not_le.mpr hbB))
  refine lv_icmp_eq (tgt := 766) hx hb dL_law_540 (by decide) (fun c_ => ?_) (fun c_ => absurd (by decide) c_)
  exact kk H_2 locs_2 hS_2.2.2 hX_2
set_option maxHeartbeats 4000000 in
set_option maxRecDepth 100000 in
theorem w_end_5 (E : EE p s m args c cL_law RL D cI cS) (hml : c.maxLocals = 4) (hl : lv_has ls 4 [(3, .int 0), (2, .ref (B + 178)), (1, .ref (B + 0)), (0, .ref b)]) (hWX : WF (tq B 0 178) (rq B)) (hWM : WF (tq B 178 186) (rq B)) (hTX : TH D cI cS (tq B 0 178) (rq B) H) (hFX : FX D B H) (hTM : TH D cI cS (tq B 178 186) (rq B) H) (hFM : FM D B H) (hX : va_X b 4 xs s H) (hbB : b < B) (hlo : ∀ x ∈ locs, B ≤ x.base) (h1 : xs 1 = 0) (h2 : xs 2 = 2) (kk : KL p l e s m args below meth c ls Q B b xs) : WL p l e s m args below meth c H locs ls Q 512 := by
  have hx := E.1
  have hb := E.2.1
  have hτX := ttX B
  have hτM := ttM B
  refine lv_aload_n hx hb dL_law_512 rfl (lv_at hl 2 rfl) ?_
  refine lv_aload_n hx hb dL_law_513 rfl (lv_at hl 3 rfl) ?_
  refine lv_iload_n hx hb dL_law_514 rfl (lv_at hl 0 rfl) ?_
  refine lv_iconst (v := 1) hx hb dL_law_515 (by decide) ?_
  refine lv_iadd hx hb dL_law_516 ?_
  refine th_topi (y := 1) (by decide) ?_
  refine lw_sld (j := 1) hx hb hX (by decide) (by decide) (by decide) dL_law_517 ?_
  refine th_topi h1 ?_
  refine lv_aload_n hx hb dL_law_518 rfl (lv_at hl 3 rfl) ?_
  refine lv_iload_n hx hb dL_law_519 rfl (lv_at hl 0 rfl) ?_
  refine lv_iconst (v := 2) hx hb dL_law_520 (by decide) ?_
  refine lv_iadd hx hb dL_law_521 ?_
  refine th_topi (y := 2) (by decide) ?_
  refine lw_sld (j := 2) hx hb hX (by decide) (by decide) (by decide) dL_law_522 ?_
  refine th_topi h2 ?_
  refine th_Vi (A := fun q => B ≤ q) (As := [.int 0, .int 2]) (rest := []) E hml hl.1 (c_X11_end_v6 l D cI cS (tq B 0 178) (rq B) hWX H hTX (B + 0) hτX hFX.2.2.2.2.2.2.2.2.2.2.2.2.2.2.2.2.2.2.2.2.2.2.2.2.1) lk_L_80 yd_X11_end hTX hτX rfl (by decide) ⟨rfl, fun _ _ => rfl, hlo⟩ (fun q h => h.elim) ⟨Nat.le_of_ble_eq_true rfl, Nat.le_of_ble_eq_true rfl⟩ (Nat.le_of_ble_eq_true rfl) ⟨Nat.le_of_ble_eq_true rfl, Nat.le_of_ble_eq_true rfl⟩ rfl dL_law_523 (fun r_1 H_1 locs_1 p_1 hT_1 hk_1 hS_1 => ?_)
  refine th_topi (y := 0) (show (0 : Int32) = r_1 from p_1.2).symm ?_
  have kM : ∀ q, B + 178 ≤ q → H_1[q]? = H[q]? := fun q hq => hk_1 q (fun h => h.elim)
  have hTM := hTM.same (H1 := H_1) (fun q t h => kM q (by obtain ⟨j, rfl, z1, -, -⟩ := tq_some h; omega))
  have hFM := hFM.kept (H1 := H_1) kM
  have hX_1 : va_X b 4 xs s H_1 := hX.kept (hS_1.2.1 b (Nat.not_le.mpr hbB))
  refine lv_aload_n hx hb dL_law_526 rfl (lv_at hl 1 rfl) ?_
  refine lv_aload_n hx hb dL_law_527 rfl (lv_at hl 3 rfl) ?_
  refine lv_iload_n hx hb dL_law_528 rfl (lv_at hl 0 rfl) ?_
  refine lv_iconst (v := 1) hx hb dL_law_529 (by decide) ?_
  refine lv_iadd hx hb dL_law_530 ?_
  refine th_topi (y := 1) (by decide) ?_
  refine lw_sld (j := 1) hx hb hX_1 (by decide) (by decide) (by decide) dL_law_531 ?_
  refine th_topi h1 ?_
  refine lv_aload_n hx hb dL_law_532 rfl (lv_at hl 3 rfl) ?_
  refine lv_iload_n hx hb dL_law_533 rfl (lv_at hl 0 rfl) ?_
  refine lv_iconst (v := 2) hx hb dL_law_534 (by decide) ?_
  refine lv_iadd hx hb dL_law_535 ?_
  refine th_topi (y := 2) (by decide) ?_
  refine lw_sld (j := 2) hx hb hX_1 (by decide) (by decide) (by decide) dL_law_536 ?_
  refine th_topi h2 ?_
  refine th_Vi (A := fun q => B ≤ q) (As := [.int 0, .int 2]) (rest := [.int 0]) E hml hl.1 (c_X12_end_v6 l D cI cS (tq B 178 186) (rq B) hWM H_1 hTM (B + 178) hτM ((hFM.2.2.2.2.1 2 (by decide)).trans (by decide))) lk_L_83 yd_X12_end hTM hτM rfl (by decide) ⟨rfl, fun _ _ => rfl, hS_1.2.2⟩ (fun q h => h.elim) ⟨Nat.le_of_ble_eq_true rfl, Nat.le_of_ble_eq_true rfl⟩ (Nat.le_of_ble_eq_true rfl) ⟨Nat.le_of_ble_eq_true rfl, Nat.le_of_ble_eq_true rfl⟩ rfl dL_law_537 (fun r_2 H_2 locs_2 p_2 hT_2 hk_2 hS_2 => ?_)
  refine th_topi (y := 0) (show (0 : Int32) = r_2 from p_2.2).symm ?_
  have hX_2 : va_X b 4 xs s H_2 := hX_1.kept (hS_2.2.1 b (Nat.not_le.mpr hbB))
  refine lv_icmp_eq (tgt := 766) hx hb dL_law_540 (by decide) (fun c_ => ?_) (fun c_ => absurd (by decide) c_)
  exact kk H_2 locs_2 hS_2.2.2 hX_2
set_option maxHeartbeats 4000000 in
set_option maxRecDepth 100000 in
theorem w_end_6 (E : EE p s m args c cL_law RL D cI cS) (hml : c.maxLocals = 4) (hl : lv_has ls 4 [(3, .int 0), (2, .ref (B + 178)), (1, .ref (B + 0)), (0, .ref b)]) (hWX : WF (tq B 0 178) (rq B)) (hWM : WF (tq B 178 186) (rq B)) (hTX : TH D cI cS (tq B 0 178) (rq B) H) (hFX : FX D B H) (hTM : TH D cI cS (tq B 178 186) (rq B) H) (hFM : FM D B H) (hX : va_X b 4 xs s H) (hbB : b < B) (hlo : ∀ x ∈ locs, B ≤ x.base) (h1 : xs 1 = 0) (h2 : xs 2 = 3) (kk : KL p l e s m args below meth c ls Q B b xs) : WL p l e s m args below meth c H locs ls Q 512 := by
  have hx := E.1
  have hb := E.2.1
  have hτX := ttX B
  have hτM := ttM B
  refine lv_aload_n hx hb dL_law_512 rfl (lv_at hl 2 rfl) ?_
  refine lv_aload_n hx hb dL_law_513 rfl (lv_at hl 3 rfl) ?_
  refine lv_iload_n hx hb dL_law_514 rfl (lv_at hl 0 rfl) ?_
  refine lv_iconst (v := 1) hx hb dL_law_515 (by decide) ?_
  refine lv_iadd hx hb dL_law_516 ?_
  refine th_topi (y := 1) (by decide) ?_
  refine lw_sld (j := 1) hx hb hX (by decide) (by decide) (by decide) dL_law_517 ?_
  refine th_topi h1 ?_
  refine lv_aload_n hx hb dL_law_518 rfl (lv_at hl 3 rfl) ?_
  refine lv_iload_n hx hb dL_law_519 rfl (lv_at hl 0 rfl) ?_
  refine lv_iconst (v := 2) hx hb dL_law_520 (by decide) ?_
  refine lv_iadd hx hb dL_law_521 ?_
  refine th_topi (y := 2) (by decide) ?_
  refine lw_sld (j := 2) hx hb hX (by decide) (by decide) (by decide) dL_law_522 ?_
  refine th_topi h2 ?_
  refine th_Vi (A := fun q => B ≤ q) (As := [.int 0, .int 3]) (rest := []) E hml hl.1 (c_X11_end_v7 l D cI cS (tq B 0 178) (rq B) hWX H hTX (B + 0) hτX hFX.2.2.2.2.2.2.2.2.2.2.2.2.2.2.2.2.2.2.2.2.2.2.2.2.2.1) lk_L_80 yd_X11_end hTX hτX rfl (by decide) ⟨rfl, fun _ _ => rfl, hlo⟩ (fun q h => h.elim) ⟨Nat.le_of_ble_eq_true rfl, Nat.le_of_ble_eq_true rfl⟩ (Nat.le_of_ble_eq_true rfl) ⟨Nat.le_of_ble_eq_true rfl, Nat.le_of_ble_eq_true rfl⟩ rfl dL_law_523 (fun r_1 H_1 locs_1 p_1 hT_1 hk_1 hS_1 => ?_)
  refine th_topi (y := 1) (show (1 : Int32) = r_1 from p_1.2).symm ?_
  have kM : ∀ q, B + 178 ≤ q → H_1[q]? = H[q]? := fun q hq => hk_1 q (fun h => h.elim)
  have hTM := hTM.same (H1 := H_1) (fun q t h => kM q (by obtain ⟨j, rfl, z1, -, -⟩ := tq_some h; omega))
  have hFM := hFM.kept (H1 := H_1) kM
  have hX_1 : va_X b 4 xs s H_1 := hX.kept (hS_1.2.1 b (Nat.not_le.mpr hbB))
  refine lv_aload_n hx hb dL_law_526 rfl (lv_at hl 1 rfl) ?_
  refine lv_aload_n hx hb dL_law_527 rfl (lv_at hl 3 rfl) ?_
  refine lv_iload_n hx hb dL_law_528 rfl (lv_at hl 0 rfl) ?_
  refine lv_iconst (v := 1) hx hb dL_law_529 (by decide) ?_
  refine lv_iadd hx hb dL_law_530 ?_
  refine th_topi (y := 1) (by decide) ?_
  refine lw_sld (j := 1) hx hb hX_1 (by decide) (by decide) (by decide) dL_law_531 ?_
  refine th_topi h1 ?_
  refine lv_aload_n hx hb dL_law_532 rfl (lv_at hl 3 rfl) ?_
  refine lv_iload_n hx hb dL_law_533 rfl (lv_at hl 0 rfl) ?_
  refine lv_iconst (v := 2) hx hb dL_law_534 (by decide) ?_
  refine lv_iadd hx hb dL_law_535 ?_
  refine th_topi (y := 2) (by decide) ?_
  refine lw_sld (j := 2) hx hb hX_1 (by decide) (by decide) (by decide) dL_law_536 ?_
  refine th_topi h2 ?_
  refine th_Vi (A := fun q => B ≤ q) (As := [.int 0, .int 3]) (rest := [.int 1]) E hml hl.1 (c_X12_end_v7 l D cI cS (tq B 178 186) (rq B) hWM H_1 hTM (B + 178) hτM ((hFM.2.2.2.2.1 3 (by decide)).trans (by decide))) lk_L_83 yd_X12_end hTM hτM rfl (by decide) ⟨rfl, fun _ _ => rfl, hS_1.2.2⟩ (fun q h => h.elim) ⟨Nat.le_of_ble_eq_true rfl, Nat.le_of_ble_eq_true rfl⟩ (Nat.le_of_ble_eq_true rfl) ⟨Nat.le_of_ble_eq_true rfl, Nat.le_of_ble_eq_true rfl⟩ rfl dL_law_537 (fun r_2 H_2 locs_2 p_2 hT_2 hk_2 hS_2 => ?_)
  refine th_topi (y := 1) (show (1 : Int32) = r_2 from p_2.2).symm ?_
  have hX_2 : va_X b 4 xs s H_2 := hX_1.kept (hS_2.2.1 b (Nat.not_le.mpr hbB))
  refine lv_icmp_eq (tgt := 766) hx hb dL_law_540 (by decide) (fun c_ => ?_) (fun c_ => absurd (by decide) c_)
  exact kk H_2 locs_2 hS_2.2.2 hX_2
set_option maxHeartbeats 4000000 in
set_option maxRecDepth 100000 in
theorem w_end_7 (E : EE p s m args c cL_law RL D cI cS) (hml : c.maxLocals = 4) (hl : lv_has ls 4 [(3, .int 0), (2, .ref (B + 178)), (1, .ref (B + 0)), (0, .ref b)]) (hWX : WF (tq B 0 178) (rq B)) (hWM : WF (tq B 178 186) (rq B)) (hTX : TH D cI cS (tq B 0 178) (rq B) H) (hFX : FX D B H) (hTM : TH D cI cS (tq B 178 186) (rq B) H) (hFM : FM D B H) (hX : va_X b 4 xs s H) (hbB : b < B) (hlo : ∀ x ∈ locs, B ≤ x.base) (h1 : xs 1 = 0) (h2 : xs 2 = 4) (kk : KL p l e s m args below meth c ls Q B b xs) : WL p l e s m args below meth c H locs ls Q 512 := by
  have hx := E.1
  have hb := E.2.1
  have hτX := ttX B
  have hτM := ttM B
  refine lv_aload_n hx hb dL_law_512 rfl (lv_at hl 2 rfl) ?_
  refine lv_aload_n hx hb dL_law_513 rfl (lv_at hl 3 rfl) ?_
  refine lv_iload_n hx hb dL_law_514 rfl (lv_at hl 0 rfl) ?_
  refine lv_iconst (v := 1) hx hb dL_law_515 (by decide) ?_
  refine lv_iadd hx hb dL_law_516 ?_
  refine th_topi (y := 1) (by decide) ?_
  refine lw_sld (j := 1) hx hb hX (by decide) (by decide) (by decide) dL_law_517 ?_
  refine th_topi h1 ?_
  refine lv_aload_n hx hb dL_law_518 rfl (lv_at hl 3 rfl) ?_
  refine lv_iload_n hx hb dL_law_519 rfl (lv_at hl 0 rfl) ?_
  refine lv_iconst (v := 2) hx hb dL_law_520 (by decide) ?_
  refine lv_iadd hx hb dL_law_521 ?_
  refine th_topi (y := 2) (by decide) ?_
  refine lw_sld (j := 2) hx hb hX (by decide) (by decide) (by decide) dL_law_522 ?_
  refine th_topi h2 ?_
  refine th_Vi (A := fun q => B ≤ q) (As := [.int 0, .int 4]) (rest := []) E hml hl.1 (c_X11_end_v8 l D cI cS (tq B 0 178) (rq B) hWX H hTX (B + 0) hτX hFX.2.2.2.2.2.2.2.2.2.2.2.2.2.2.2.2.2.2.2.2.2.2.2.2.2.2.1 hFX.2.2.2.2.2.2.2.2.2.2.2.2.2.2.2.2.2.2.2.2.2.2.2.1) lk_L_80 yd_X11_end hTX hτX rfl (by decide) ⟨rfl, fun _ _ => rfl, hlo⟩ (fun q h => h.elim) ⟨Nat.le_of_ble_eq_true rfl, Nat.le_of_ble_eq_true rfl⟩ (Nat.le_of_ble_eq_true rfl) ⟨Nat.le_of_ble_eq_true rfl, Nat.le_of_ble_eq_true rfl⟩ rfl dL_law_523 (fun r_1 H_1 locs_1 p_1 hT_1 hk_1 hS_1 => ?_)
  refine th_topi (y := 0) (show (0 : Int32) = r_1 from p_1.2).symm ?_
  have kM : ∀ q, B + 178 ≤ q → H_1[q]? = H[q]? := fun q hq => hk_1 q (fun h => h.elim)
  have hTM := hTM.same (H1 := H_1) (fun q t h => kM q (by obtain ⟨j, rfl, z1, -, -⟩ := tq_some h; omega))
  have hFM := hFM.kept (H1 := H_1) kM
  have hX_1 : va_X b 4 xs s H_1 := hX.kept (hS_1.2.1 b (Nat.not_le.mpr hbB))
  refine lv_aload_n hx hb dL_law_526 rfl (lv_at hl 1 rfl) ?_
  refine lv_aload_n hx hb dL_law_527 rfl (lv_at hl 3 rfl) ?_
  refine lv_iload_n hx hb dL_law_528 rfl (lv_at hl 0 rfl) ?_
  refine lv_iconst (v := 1) hx hb dL_law_529 (by decide) ?_
  refine lv_iadd hx hb dL_law_530 ?_
  refine th_topi (y := 1) (by decide) ?_
  refine lw_sld (j := 1) hx hb hX_1 (by decide) (by decide) (by decide) dL_law_531 ?_
  refine th_topi h1 ?_
  refine lv_aload_n hx hb dL_law_532 rfl (lv_at hl 3 rfl) ?_
  refine lv_iload_n hx hb dL_law_533 rfl (lv_at hl 0 rfl) ?_
  refine lv_iconst (v := 2) hx hb dL_law_534 (by decide) ?_
  refine lv_iadd hx hb dL_law_535 ?_
  refine th_topi (y := 2) (by decide) ?_
  refine lw_sld (j := 2) hx hb hX_1 (by decide) (by decide) (by decide) dL_law_536 ?_
  refine th_topi h2 ?_
  refine th_Vi (A := fun q => B ≤ q) (As := [.int 0, .int 4]) (rest := [.int 0]) E hml hl.1 (c_X12_end_v8 l D cI cS (tq B 178 186) (rq B) hWM H_1 hTM (B + 178) hτM ((hFM.2.2.2.2.1 1 (by decide)).trans (by decide)) ((hFM.2.2.2.2.1 4 (by decide)).trans (by decide))) lk_L_83 yd_X12_end hTM hτM rfl (by decide) ⟨rfl, fun _ _ => rfl, hS_1.2.2⟩ (fun q h => h.elim) ⟨Nat.le_of_ble_eq_true rfl, Nat.le_of_ble_eq_true rfl⟩ (Nat.le_of_ble_eq_true rfl) ⟨Nat.le_of_ble_eq_true rfl, Nat.le_of_ble_eq_true rfl⟩ rfl dL_law_537 (fun r_2 H_2 locs_2 p_2 hT_2 hk_2 hS_2 => ?_)
  refine th_topi (y := 0) (show (0 : Int32) = r_2 from p_2.2).symm ?_
  have hX_2 : va_X b 4 xs s H_2 := hX_1.kept (hS_2.2.1 b (Nat.not_le.mpr hbB))
  refine lv_icmp_eq (tgt := 766) hx hb dL_law_540 (by decide) (fun c_ => ?_) (fun c_ => absurd (by decide) c_)
  exact kk H_2 locs_2 hS_2.2.2 hX_2
set_option maxHeartbeats 4000000 in
set_option maxRecDepth 100000 in
theorem w_end_8 (E : EE p s m args c cL_law RL D cI cS) (hml : c.maxLocals = 4) (hl : lv_has ls 4 [(3, .int 0), (2, .ref (B + 178)), (1, .ref (B + 0)), (0, .ref b)]) (hWX : WF (tq B 0 178) (rq B)) (hWM : WF (tq B 178 186) (rq B)) (hTX : TH D cI cS (tq B 0 178) (rq B) H) (hFX : FX D B H) (hTM : TH D cI cS (tq B 178 186) (rq B) H) (hFM : FM D B H) (hX : va_X b 4 xs s H) (hbB : b < B) (hlo : ∀ x ∈ locs, B ≤ x.base) (h1 : xs 1 = 0) (h2 : xs 2 = 5) (kk : KL p l e s m args below meth c ls Q B b xs) : WL p l e s m args below meth c H locs ls Q 512 := by
  have hx := E.1
  have hb := E.2.1
  have hτX := ttX B
  have hτM := ttM B
  refine lv_aload_n hx hb dL_law_512 rfl (lv_at hl 2 rfl) ?_
  refine lv_aload_n hx hb dL_law_513 rfl (lv_at hl 3 rfl) ?_
  refine lv_iload_n hx hb dL_law_514 rfl (lv_at hl 0 rfl) ?_
  refine lv_iconst (v := 1) hx hb dL_law_515 (by decide) ?_
  refine lv_iadd hx hb dL_law_516 ?_
  refine th_topi (y := 1) (by decide) ?_
  refine lw_sld (j := 1) hx hb hX (by decide) (by decide) (by decide) dL_law_517 ?_
  refine th_topi h1 ?_
  refine lv_aload_n hx hb dL_law_518 rfl (lv_at hl 3 rfl) ?_
  refine lv_iload_n hx hb dL_law_519 rfl (lv_at hl 0 rfl) ?_
  refine lv_iconst (v := 2) hx hb dL_law_520 (by decide) ?_
  refine lv_iadd hx hb dL_law_521 ?_
  refine th_topi (y := 2) (by decide) ?_
  refine lw_sld (j := 2) hx hb hX (by decide) (by decide) (by decide) dL_law_522 ?_
  refine th_topi h2 ?_
  refine th_Vi (A := fun q => B ≤ q) (As := [.int 0, .int 5]) (rest := []) E hml hl.1 (c_X11_end_v9 l D cI cS (tq B 0 178) (rq B) hWX H hTX (B + 0) hτX hFX.2.2.2.2.2.2.2.2.2.2.2.2.2.2.2.2.2.1) lk_L_80 yd_X11_end hTX hτX rfl (by decide) ⟨rfl, fun _ _ => rfl, hlo⟩ (fun q h => h.elim) ⟨Nat.le_of_ble_eq_true rfl, Nat.le_of_ble_eq_true rfl⟩ (Nat.le_of_ble_eq_true rfl) ⟨Nat.le_of_ble_eq_true rfl, Nat.le_of_ble_eq_true rfl⟩ rfl dL_law_523 (fun r_1 H_1 locs_1 p_1 hT_1 hk_1 hS_1 => ?_)
  refine th_topi (y := 0) (show (0 : Int32) = r_1 from p_1.2).symm ?_
  have kM : ∀ q, B + 178 ≤ q → H_1[q]? = H[q]? := fun q hq => hk_1 q (fun h => h.elim)
  have hTM := hTM.same (H1 := H_1) (fun q t h => kM q (by obtain ⟨j, rfl, z1, -, -⟩ := tq_some h; omega))
  have hFM := hFM.kept (H1 := H_1) kM
  have hX_1 : va_X b 4 xs s H_1 := hX.kept (hS_1.2.1 b (Nat.not_le.mpr hbB))
  refine lv_aload_n hx hb dL_law_526 rfl (lv_at hl 1 rfl) ?_
  refine lv_aload_n hx hb dL_law_527 rfl (lv_at hl 3 rfl) ?_
  refine lv_iload_n hx hb dL_law_528 rfl (lv_at hl 0 rfl) ?_
  refine lv_iconst (v := 1) hx hb dL_law_529 (by decide) ?_
  refine lv_iadd hx hb dL_law_530 ?_
  refine th_topi (y := 1) (by decide) ?_
  refine lw_sld (j := 1) hx hb hX_1 (by decide) (by decide) (by decide) dL_law_531 ?_
  refine th_topi h1 ?_
  refine lv_aload_n hx hb dL_law_532 rfl (lv_at hl 3 rfl) ?_
  refine lv_iload_n hx hb dL_law_533 rfl (lv_at hl 0 rfl) ?_
  refine lv_iconst (v := 2) hx hb dL_law_534 (by decide) ?_
  refine lv_iadd hx hb dL_law_535 ?_
  refine th_topi (y := 2) (by decide) ?_
  refine lw_sld (j := 2) hx hb hX_1 (by decide) (by decide) (by decide) dL_law_536 ?_
  refine th_topi h2 ?_
  refine th_Vi (A := fun q => B ≤ q) (As := [.int 0, .int 5]) (rest := [.int 0]) E hml hl.1 (c_X12_end_v9 l D cI cS (tq B 178 186) (rq B) hWM H_1 hTM (B + 178) hτM ((hFM.2.2.2.2.1 5 (by decide)).trans (by decide))) lk_L_83 yd_X12_end hTM hτM rfl (by decide) ⟨rfl, fun _ _ => rfl, hS_1.2.2⟩ (fun q h => h.elim) ⟨Nat.le_of_ble_eq_true rfl, Nat.le_of_ble_eq_true rfl⟩ (Nat.le_of_ble_eq_true rfl) ⟨Nat.le_of_ble_eq_true rfl, Nat.le_of_ble_eq_true rfl⟩ rfl dL_law_537 (fun r_2 H_2 locs_2 p_2 hT_2 hk_2 hS_2 => ?_)
  refine th_topi (y := 0) (show (0 : Int32) = r_2 from p_2.2).symm ?_
  have hX_2 : va_X b 4 xs s H_2 := hX_1.kept (hS_2.2.1 b (Nat.not_le.mpr hbB))
  refine lv_icmp_eq (tgt := 766) hx hb dL_law_540 (by decide) (fun c_ => ?_) (fun c_ => absurd (by decide) c_)
  exact kk H_2 locs_2 hS_2.2.2 hX_2
set_option maxHeartbeats 4000000 in
set_option maxRecDepth 100000 in
theorem w_end_9 (E : EE p s m args c cL_law RL D cI cS) (hml : c.maxLocals = 4) (hl : lv_has ls 4 [(3, .int 0), (2, .ref (B + 178)), (1, .ref (B + 0)), (0, .ref b)]) (hWX : WF (tq B 0 178) (rq B)) (hWM : WF (tq B 178 186) (rq B)) (hTX : TH D cI cS (tq B 0 178) (rq B) H) (hFX : FX D B H) (hTM : TH D cI cS (tq B 178 186) (rq B) H) (hFM : FM D B H) (hX : va_X b 4 xs s H) (hbB : b < B) (hlo : ∀ x ∈ locs, B ≤ x.base) (h1 : xs 1 = 0) (h2 : xs 2 = 6) (kk : KL p l e s m args below meth c ls Q B b xs) : WL p l e s m args below meth c H locs ls Q 512 := by
  have hx := E.1
  have hb := E.2.1
  have hτX := ttX B
  have hτM := ttM B
  refine lv_aload_n hx hb dL_law_512 rfl (lv_at hl 2 rfl) ?_
  refine lv_aload_n hx hb dL_law_513 rfl (lv_at hl 3 rfl) ?_
  refine lv_iload_n hx hb dL_law_514 rfl (lv_at hl 0 rfl) ?_
  refine lv_iconst (v := 1) hx hb dL_law_515 (by decide) ?_
  refine lv_iadd hx hb dL_law_516 ?_
  refine th_topi (y := 1) (by decide) ?_
  refine lw_sld (j := 1) hx hb hX (by decide) (by decide) (by decide) dL_law_517 ?_
  refine th_topi h1 ?_
  refine lv_aload_n hx hb dL_law_518 rfl (lv_at hl 3 rfl) ?_
  refine lv_iload_n hx hb dL_law_519 rfl (lv_at hl 0 rfl) ?_
  refine lv_iconst (v := 2) hx hb dL_law_520 (by decide) ?_
  refine lv_iadd hx hb dL_law_521 ?_
  refine th_topi (y := 2) (by decide) ?_
  refine lw_sld (j := 2) hx hb hX (by decide) (by decide) (by decide) dL_law_522 ?_
  refine th_topi h2 ?_
  refine th_Vi (A := fun q => B ≤ q) (As := [.int 0, .int 6]) (rest := []) E hml hl.1 (c_X11_end_v10 l D cI cS (tq B 0 178) (rq B) hWX H hTX (B + 0) hτX hFX.2.2.2.2.2.2.2.2.2.2.2.2.2.2.2.2.2.2.1) lk_L_80 yd_X11_end hTX hτX rfl (by decide) ⟨rfl, fun _ _ => rfl, hlo⟩ (fun q h => h.elim) ⟨Nat.le_of_ble_eq_true rfl, Nat.le_of_ble_eq_true rfl⟩ (Nat.le_of_ble_eq_true rfl) ⟨Nat.le_of_ble_eq_true rfl, Nat.le_of_ble_eq_true rfl⟩ rfl dL_law_523 (fun r_1 H_1 locs_1 p_1 hT_1 hk_1 hS_1 => ?_)
  refine th_topi (y := 1) (show (1 : Int32) = r_1 from p_1.2).symm ?_
  have kM : ∀ q, B + 178 ≤ q → H_1[q]? = H[q]? := fun q hq => hk_1 q (fun h => h.elim)
  have hTM := hTM.same (H1 := H_1) (fun q t h => kM q (by obtain ⟨j, rfl, z1, -, -⟩ := tq_some h; omega))
  have hFM := hFM.kept (H1 := H_1) kM
  have hX_1 : va_X b 4 xs s H_1 := hX.kept (hS_1.2.1 b (Nat.not_le.mpr hbB))
  refine lv_aload_n hx hb dL_law_526 rfl (lv_at hl 1 rfl) ?_
  refine lv_aload_n hx hb dL_law_527 rfl (lv_at hl 3 rfl) ?_
  refine lv_iload_n hx hb dL_law_528 rfl (lv_at hl 0 rfl) ?_
  refine lv_iconst (v := 1) hx hb dL_law_529 (by decide) ?_
  refine lv_iadd hx hb dL_law_530 ?_
  refine th_topi (y := 1) (by decide) ?_
  refine lw_sld (j := 1) hx hb hX_1 (by decide) (by decide) (by decide) dL_law_531 ?_
  refine th_topi h1 ?_
  refine lv_aload_n hx hb dL_law_532 rfl (lv_at hl 3 rfl) ?_
  refine lv_iload_n hx hb dL_law_533 rfl (lv_at hl 0 rfl) ?_
  refine lv_iconst (v := 2) hx hb dL_law_534 (by decide) ?_
  refine lv_iadd hx hb dL_law_535 ?_
  refine th_topi (y := 2) (by decide) ?_
  refine lw_sld (j := 2) hx hb hX_1 (by decide) (by decide) (by decide) dL_law_536 ?_
  refine th_topi h2 ?_
  refine th_Vi (A := fun q => B ≤ q) (As := [.int 0, .int 6]) (rest := [.int 1]) E hml hl.1 (c_X12_end_v10 l D cI cS (tq B 178 186) (rq B) hWM H_1 hTM (B + 178) hτM ((hFM.2.2.2.2.1 6 (by decide)).trans (by decide))) lk_L_83 yd_X12_end hTM hτM rfl (by decide) ⟨rfl, fun _ _ => rfl, hS_1.2.2⟩ (fun q h => h.elim) ⟨Nat.le_of_ble_eq_true rfl, Nat.le_of_ble_eq_true rfl⟩ (Nat.le_of_ble_eq_true rfl) ⟨Nat.le_of_ble_eq_true rfl, Nat.le_of_ble_eq_true rfl⟩ rfl dL_law_537 (fun r_2 H_2 locs_2 p_2 hT_2 hk_2 hS_2 => ?_)
  refine th_topi (y := 1) (show (1 : Int32) = r_2 from p_2.2).symm ?_
  have hX_2 : va_X b 4 xs s H_2 := hX_1.kept (hS_2.2.1 b (Nat.not_le.mpr hbB))
  refine lv_icmp_eq (tgt := 766) hx hb dL_law_540 (by decide) (fun c_ => ?_) (fun c_ => absurd (by decide) c_)
  exact kk H_2 locs_2 hS_2.2.2 hX_2
set_option maxHeartbeats 4000000 in
set_option maxRecDepth 100000 in
theorem w_end_10 (E : EE p s m args c cL_law RL D cI cS) (hml : c.maxLocals = 4) (hl : lv_has ls 4 [(3, .int 0), (2, .ref (B + 178)), (1, .ref (B + 0)), (0, .ref b)]) (hWX : WF (tq B 0 178) (rq B)) (hWM : WF (tq B 178 186) (rq B)) (hTX : TH D cI cS (tq B 0 178) (rq B) H) (hFX : FX D B H) (hTM : TH D cI cS (tq B 178 186) (rq B) H) (hFM : FM D B H) (hX : va_X b 4 xs s H) (hbB : b < B) (hlo : ∀ x ∈ locs, B ≤ x.base) (h1 : xs 1 = 0) (h2 : xs 2 = 7) (kk : KL p l e s m args below meth c ls Q B b xs) : WL p l e s m args below meth c H locs ls Q 512 := by
  have hx := E.1
  have hb := E.2.1
  have hτX := ttX B
  have hτM := ttM B
  refine lv_aload_n hx hb dL_law_512 rfl (lv_at hl 2 rfl) ?_
  refine lv_aload_n hx hb dL_law_513 rfl (lv_at hl 3 rfl) ?_
  refine lv_iload_n hx hb dL_law_514 rfl (lv_at hl 0 rfl) ?_
  refine lv_iconst (v := 1) hx hb dL_law_515 (by decide) ?_
  refine lv_iadd hx hb dL_law_516 ?_
  refine th_topi (y := 1) (by decide) ?_
  refine lw_sld (j := 1) hx hb hX (by decide) (by decide) (by decide) dL_law_517 ?_
  refine th_topi h1 ?_
  refine lv_aload_n hx hb dL_law_518 rfl (lv_at hl 3 rfl) ?_
  refine lv_iload_n hx hb dL_law_519 rfl (lv_at hl 0 rfl) ?_
  refine lv_iconst (v := 2) hx hb dL_law_520 (by decide) ?_
  refine lv_iadd hx hb dL_law_521 ?_
  refine th_topi (y := 2) (by decide) ?_
  refine lw_sld (j := 2) hx hb hX (by decide) (by decide) (by decide) dL_law_522 ?_
  refine th_topi h2 ?_
  refine th_Vi (A := fun q => B ≤ q) (As := [.int 0, .int 7]) (rest := []) E hml hl.1 (c_X11_end_v11 l D cI cS (tq B 0 178) (rq B) hWX H hTX (B + 0) hτX hFX.2.2.2.2.2.2.2.2.2.2.2.2.2.2.2.2.2.2.2.1) lk_L_80 yd_X11_end hTX hτX rfl (by decide) ⟨rfl, fun _ _ => rfl, hlo⟩ (fun q h => h.elim) ⟨Nat.le_of_ble_eq_true rfl, Nat.le_of_ble_eq_true rfl⟩ (Nat.le_of_ble_eq_true rfl) ⟨Nat.le_of_ble_eq_true rfl, Nat.le_of_ble_eq_true rfl⟩ rfl dL_law_523 (fun r_1 H_1 locs_1 p_1 hT_1 hk_1 hS_1 => ?_)
  refine th_topi (y := 13) (show (13 : Int32) = r_1 from p_1.2).symm ?_
  have kM : ∀ q, B + 178 ≤ q → H_1[q]? = H[q]? := fun q hq => hk_1 q (fun h => h.elim)
  have hTM := hTM.same (H1 := H_1) (fun q t h => kM q (by obtain ⟨j, rfl, z1, -, -⟩ := tq_some h; omega))
  have hFM := hFM.kept (H1 := H_1) kM
  have hX_1 : va_X b 4 xs s H_1 := hX.kept (hS_1.2.1 b (Nat.not_le.mpr hbB))
  refine lv_aload_n hx hb dL_law_526 rfl (lv_at hl 1 rfl) ?_
  refine lv_aload_n hx hb dL_law_527 rfl (lv_at hl 3 rfl) ?_
  refine lv_iload_n hx hb dL_law_528 rfl (lv_at hl 0 rfl) ?_
  refine lv_iconst (v := 1) hx hb dL_law_529 (by decide) ?_
  refine lv_iadd hx hb dL_law_530 ?_
  refine th_topi (y := 1) (by decide) ?_
  refine lw_sld (j := 1) hx hb hX_1 (by decide) (by decide) (by decide) dL_law_531 ?_
  refine th_topi h1 ?_
  refine lv_aload_n hx hb dL_law_532 rfl (lv_at hl 3 rfl) ?_
  refine lv_iload_n hx hb dL_law_533 rfl (lv_at hl 0 rfl) ?_
  refine lv_iconst (v := 2) hx hb dL_law_534 (by decide) ?_
  refine lv_iadd hx hb dL_law_535 ?_
  refine th_topi (y := 2) (by decide) ?_
  refine lw_sld (j := 2) hx hb hX_1 (by decide) (by decide) (by decide) dL_law_536 ?_
  refine th_topi h2 ?_
  refine th_Vi (A := fun q => B ≤ q) (As := [.int 0, .int 7]) (rest := [.int 13]) E hml hl.1 (c_X12_end_v11 l D cI cS (tq B 178 186) (rq B) hWM H_1 hTM (B + 178) hτM ((hFM.2.2.2.2.1 7 (by decide)).trans (by decide))) lk_L_83 yd_X12_end hTM hτM rfl (by decide) ⟨rfl, fun _ _ => rfl, hS_1.2.2⟩ (fun q h => h.elim) ⟨Nat.le_of_ble_eq_true rfl, Nat.le_of_ble_eq_true rfl⟩ (Nat.le_of_ble_eq_true rfl) ⟨Nat.le_of_ble_eq_true rfl, Nat.le_of_ble_eq_true rfl⟩ rfl dL_law_537 (fun r_2 H_2 locs_2 p_2 hT_2 hk_2 hS_2 => ?_)
  refine th_topi (y := 13) (show (13 : Int32) = r_2 from p_2.2).symm ?_
  have hX_2 : va_X b 4 xs s H_2 := hX_1.kept (hS_2.2.1 b (Nat.not_le.mpr hbB))
  refine lv_icmp_eq (tgt := 766) hx hb dL_law_540 (by decide) (fun c_ => ?_) (fun c_ => absurd (by decide) c_)
  exact kk H_2 locs_2 hS_2.2.2 hX_2
set_option maxHeartbeats 4000000 in
set_option maxRecDepth 100000 in
theorem w_end_11 (E : EE p s m args c cL_law RL D cI cS) (hml : c.maxLocals = 4) (hl : lv_has ls 4 [(3, .int 0), (2, .ref (B + 178)), (1, .ref (B + 0)), (0, .ref b)]) (hWX : WF (tq B 0 178) (rq B)) (hWM : WF (tq B 178 186) (rq B)) (hTX : TH D cI cS (tq B 0 178) (rq B) H) (hFX : FX D B H) (hTM : TH D cI cS (tq B 178 186) (rq B) H) (hFM : FM D B H) (hX : va_X b 4 xs s H) (hbB : b < B) (hlo : ∀ x ∈ locs, B ≤ x.base) (h1 : xs 1 = 0) (h2 : xs 2 = 8) (kk : KL p l e s m args below meth c ls Q B b xs) : WL p l e s m args below meth c H locs ls Q 512 := by
  have hx := E.1
  have hb := E.2.1
  have hτX := ttX B
  have hτM := ttM B
  refine lv_aload_n hx hb dL_law_512 rfl (lv_at hl 2 rfl) ?_
  refine lv_aload_n hx hb dL_law_513 rfl (lv_at hl 3 rfl) ?_
  refine lv_iload_n hx hb dL_law_514 rfl (lv_at hl 0 rfl) ?_
  refine lv_iconst (v := 1) hx hb dL_law_515 (by decide) ?_
  refine lv_iadd hx hb dL_law_516 ?_
  refine th_topi (y := 1) (by decide) ?_
  refine lw_sld (j := 1) hx hb hX (by decide) (by decide) (by decide) dL_law_517 ?_
  refine th_topi h1 ?_
  refine lv_aload_n hx hb dL_law_518 rfl (lv_at hl 3 rfl) ?_
  refine lv_iload_n hx hb dL_law_519 rfl (lv_at hl 0 rfl) ?_
  refine lv_iconst (v := 2) hx hb dL_law_520 (by decide) ?_
  refine lv_iadd hx hb dL_law_521 ?_
  refine th_topi (y := 2) (by decide) ?_
  refine lw_sld (j := 2) hx hb hX (by decide) (by decide) (by decide) dL_law_522 ?_
  refine th_topi h2 ?_
  refine th_Vi (A := fun q => B ≤ q) (As := [.int 0, .int 8]) (rest := []) E hml hl.1 (c_X11_end_v12 l D cI cS (tq B 0 178) (rq B) hWX H hTX (B + 0) hτX hFX.2.2.2.2.2.2.2.2.2.2.2.1) lk_L_80 yd_X11_end hTX hτX rfl (by decide) ⟨rfl, fun _ _ => rfl, hlo⟩ (fun q h => h.elim) ⟨Nat.le_of_ble_eq_true rfl, Nat.le_of_ble_eq_true rfl⟩ (Nat.le_of_ble_eq_true rfl) ⟨Nat.le_of_ble_eq_true rfl, Nat.le_of_ble_eq_true rfl⟩ rfl dL_law_523 (fun r_1 H_1 locs_1 p_1 hT_1 hk_1 hS_1 => ?_)
  refine th_topi (y := 6) (show (6 : Int32) = r_1 from p_1.2).symm ?_
  have kM : ∀ q, B + 178 ≤ q → H_1[q]? = H[q]? := fun q hq => hk_1 q (fun h => h.elim)
  have hTM := hTM.same (H1 := H_1) (fun q t h => kM q (by obtain ⟨j, rfl, z1, -, -⟩ := tq_some h; omega))
  have hFM := hFM.kept (H1 := H_1) kM
  have hX_1 : va_X b 4 xs s H_1 := hX.kept (hS_1.2.1 b (Nat.not_le.mpr hbB))
  refine lv_aload_n hx hb dL_law_526 rfl (lv_at hl 1 rfl) ?_
  refine lv_aload_n hx hb dL_law_527 rfl (lv_at hl 3 rfl) ?_
  refine lv_iload_n hx hb dL_law_528 rfl (lv_at hl 0 rfl) ?_
  refine lv_iconst (v := 1) hx hb dL_law_529 (by decide) ?_
  refine lv_iadd hx hb dL_law_530 ?_
  refine th_topi (y := 1) (by decide) ?_
  refine lw_sld (j := 1) hx hb hX_1 (by decide) (by decide) (by decide) dL_law_531 ?_
  refine th_topi h1 ?_
  refine lv_aload_n hx hb dL_law_532 rfl (lv_at hl 3 rfl) ?_
  refine lv_iload_n hx hb dL_law_533 rfl (lv_at hl 0 rfl) ?_
  refine lv_iconst (v := 2) hx hb dL_law_534 (by decide) ?_
  refine lv_iadd hx hb dL_law_535 ?_
  refine th_topi (y := 2) (by decide) ?_
  refine lw_sld (j := 2) hx hb hX_1 (by decide) (by decide) (by decide) dL_law_536 ?_
  refine th_topi h2 ?_
  refine th_Vi (A := fun q => B ≤ q) (As := [.int 0, .int 8]) (rest := [.int 6]) E hml hl.1 (c_X12_end_v12 l D cI cS (tq B 178 186) (rq B) hWM H_1 hTM (B + 178) hτM ((hFM.2.2.2.2.1 8 (by decide)).trans (by decide))) lk_L_83 yd_X12_end hTM hτM rfl (by decide) ⟨rfl, fun _ _ => rfl, hS_1.2.2⟩ (fun q h => h.elim) ⟨Nat.le_of_ble_eq_true rfl, Nat.le_of_ble_eq_true rfl⟩ (Nat.le_of_ble_eq_true rfl) ⟨Nat.le_of_ble_eq_true rfl, Nat.le_of_ble_eq_true rfl⟩ rfl dL_law_537 (fun r_2 H_2 locs_2 p_2 hT_2 hk_2 hS_2 => ?_)
  refine th_topi (y := 6) (show (6 : Int32) = r_2 from p_2.2).symm ?_
  have hX_2 : va_X b 4 xs s H_2 := hX_1.kept (hS_2.2.1 b (Nat.not_le.mpr hbB))
  refine lv_icmp_eq (tgt := 766) hx hb dL_law_540 (by decide) (fun c_ => ?_) (fun c_ => absurd (by decide) c_)
  exact kk H_2 locs_2 hS_2.2.2 hX_2
set_option maxHeartbeats 4000000 in
set_option maxRecDepth 100000 in
theorem w_end_12 (E : EE p s m args c cL_law RL D cI cS) (hml : c.maxLocals = 4) (hl : lv_has ls 4 [(3, .int 0), (2, .ref (B + 178)), (1, .ref (B + 0)), (0, .ref b)]) (hWX : WF (tq B 0 178) (rq B)) (hWM : WF (tq B 178 186) (rq B)) (hTX : TH D cI cS (tq B 0 178) (rq B) H) (hFX : FX D B H) (hTM : TH D cI cS (tq B 178 186) (rq B) H) (hFM : FM D B H) (hX : va_X b 4 xs s H) (hbB : b < B) (hlo : ∀ x ∈ locs, B ≤ x.base) (h1 : xs 1 = 0) (h2 : xs 2 = 9) (kk : KL p l e s m args below meth c ls Q B b xs) : WL p l e s m args below meth c H locs ls Q 512 := by
  have hx := E.1
  have hb := E.2.1
  have hτX := ttX B
  have hτM := ttM B
  refine lv_aload_n hx hb dL_law_512 rfl (lv_at hl 2 rfl) ?_
  refine lv_aload_n hx hb dL_law_513 rfl (lv_at hl 3 rfl) ?_
  refine lv_iload_n hx hb dL_law_514 rfl (lv_at hl 0 rfl) ?_
  refine lv_iconst (v := 1) hx hb dL_law_515 (by decide) ?_
  refine lv_iadd hx hb dL_law_516 ?_
  refine th_topi (y := 1) (by decide) ?_
  refine lw_sld (j := 1) hx hb hX (by decide) (by decide) (by decide) dL_law_517 ?_
  refine th_topi h1 ?_
  refine lv_aload_n hx hb dL_law_518 rfl (lv_at hl 3 rfl) ?_
  refine lv_iload_n hx hb dL_law_519 rfl (lv_at hl 0 rfl) ?_
  refine lv_iconst (v := 2) hx hb dL_law_520 (by decide) ?_
  refine lv_iadd hx hb dL_law_521 ?_
  refine th_topi (y := 2) (by decide) ?_
  refine lw_sld (j := 2) hx hb hX (by decide) (by decide) (by decide) dL_law_522 ?_
  refine th_topi h2 ?_
  refine th_Vi (A := fun q => B ≤ q) (As := [.int 0, .int 9]) (rest := []) E hml hl.1 (c_X11_end_v13 l D cI cS (tq B 0 178) (rq B) hWX H hTX (B + 0) hτX hFX.2.2.2.2.2.2.2.2.2.2.2.2.1) lk_L_80 yd_X11_end hTX hτX rfl (by decide) ⟨rfl, fun _ _ => rfl, hlo⟩ (fun q h => h.elim) ⟨Nat.le_of_ble_eq_true rfl, Nat.le_of_ble_eq_true rfl⟩ (Nat.le_of_ble_eq_true rfl) ⟨Nat.le_of_ble_eq_true rfl, Nat.le_of_ble_eq_true rfl⟩ rfl dL_law_523 (fun r_1 H_1 locs_1 p_1 hT_1 hk_1 hS_1 => ?_)
  refine th_topi (y := 0) (show (0 : Int32) = r_1 from p_1.2).symm ?_
  have kM : ∀ q, B + 178 ≤ q → H_1[q]? = H[q]? := fun q hq => hk_1 q (fun h => h.elim)
  have hTM := hTM.same (H1 := H_1) (fun q t h => kM q (by obtain ⟨j, rfl, z1, -, -⟩ := tq_some h; omega))
  have hFM := hFM.kept (H1 := H_1) kM
  have hX_1 : va_X b 4 xs s H_1 := hX.kept (hS_1.2.1 b (Nat.not_le.mpr hbB))
  refine lv_aload_n hx hb dL_law_526 rfl (lv_at hl 1 rfl) ?_
  refine lv_aload_n hx hb dL_law_527 rfl (lv_at hl 3 rfl) ?_
  refine lv_iload_n hx hb dL_law_528 rfl (lv_at hl 0 rfl) ?_
  refine lv_iconst (v := 1) hx hb dL_law_529 (by decide) ?_
  refine lv_iadd hx hb dL_law_530 ?_
  refine th_topi (y := 1) (by decide) ?_
  refine lw_sld (j := 1) hx hb hX_1 (by decide) (by decide) (by decide) dL_law_531 ?_
  refine th_topi h1 ?_
  refine lv_aload_n hx hb dL_law_532 rfl (lv_at hl 3 rfl) ?_
  refine lv_iload_n hx hb dL_law_533 rfl (lv_at hl 0 rfl) ?_
  refine lv_iconst (v := 2) hx hb dL_law_534 (by decide) ?_
  refine lv_iadd hx hb dL_law_535 ?_
  refine th_topi (y := 2) (by decide) ?_
  refine lw_sld (j := 2) hx hb hX_1 (by decide) (by decide) (by decide) dL_law_536 ?_
  refine th_topi h2 ?_
  refine th_Vi (A := fun q => B ≤ q) (As := [.int 0, .int 9]) (rest := [.int 0]) E hml hl.1 (c_X12_end_v13 l D cI cS (tq B 178 186) (rq B) hWM H_1 hTM (B + 178) hτM ((hFM.2.2.2.2.1 9 (by decide)).trans (by decide))) lk_L_83 yd_X12_end hTM hτM rfl (by decide) ⟨rfl, fun _ _ => rfl, hS_1.2.2⟩ (fun q h => h.elim) ⟨Nat.le_of_ble_eq_true rfl, Nat.le_of_ble_eq_true rfl⟩ (Nat.le_of_ble_eq_true rfl) ⟨Nat.le_of_ble_eq_true rfl, Nat.le_of_ble_eq_true rfl⟩ rfl dL_law_537 (fun r_2 H_2 locs_2 p_2 hT_2 hk_2 hS_2 => ?_)
  refine th_topi (y := 0) (show (0 : Int32) = r_2 from p_2.2).symm ?_
  have hX_2 : va_X b 4 xs s H_2 := hX_1.kept (hS_2.2.1 b (Nat.not_le.mpr hbB))
  refine lv_icmp_eq (tgt := 766) hx hb dL_law_540 (by decide) (fun c_ => ?_) (fun c_ => absurd (by decide) c_)
  exact kk H_2 locs_2 hS_2.2.2 hX_2
set_option maxHeartbeats 4000000 in
set_option maxRecDepth 100000 in
theorem w_end_13 (E : EE p s m args c cL_law RL D cI cS) (hml : c.maxLocals = 4) (hl : lv_has ls 4 [(3, .int 0), (2, .ref (B + 178)), (1, .ref (B + 0)), (0, .ref b)]) (hWX : WF (tq B 0 178) (rq B)) (hWM : WF (tq B 178 186) (rq B)) (hTX : TH D cI cS (tq B 0 178) (rq B) H) (hFX : FX D B H) (hTM : TH D cI cS (tq B 178 186) (rq B) H) (hFM : FM D B H) (hX : va_X b 4 xs s H) (hbB : b < B) (hlo : ∀ x ∈ locs, B ≤ x.base) (h1 : xs 1 = 0) (h2 : xs 2 = 10) (kk : KL p l e s m args below meth c ls Q B b xs) : WL p l e s m args below meth c H locs ls Q 512 := by
  have hx := E.1
  have hb := E.2.1
  have hτX := ttX B
  have hτM := ttM B
  refine lv_aload_n hx hb dL_law_512 rfl (lv_at hl 2 rfl) ?_
  refine lv_aload_n hx hb dL_law_513 rfl (lv_at hl 3 rfl) ?_
  refine lv_iload_n hx hb dL_law_514 rfl (lv_at hl 0 rfl) ?_
  refine lv_iconst (v := 1) hx hb dL_law_515 (by decide) ?_
  refine lv_iadd hx hb dL_law_516 ?_
  refine th_topi (y := 1) (by decide) ?_
  refine lw_sld (j := 1) hx hb hX (by decide) (by decide) (by decide) dL_law_517 ?_
  refine th_topi h1 ?_
  refine lv_aload_n hx hb dL_law_518 rfl (lv_at hl 3 rfl) ?_
  refine lv_iload_n hx hb dL_law_519 rfl (lv_at hl 0 rfl) ?_
  refine lv_iconst (v := 2) hx hb dL_law_520 (by decide) ?_
  refine lv_iadd hx hb dL_law_521 ?_
  refine th_topi (y := 2) (by decide) ?_
  refine lw_sld (j := 2) hx hb hX (by decide) (by decide) (by decide) dL_law_522 ?_
  refine th_topi h2 ?_
  refine th_Vi (A := fun q => B ≤ q) (As := [.int 0, .int 10]) (rest := []) E hml hl.1 (c_X11_end_v14 l D cI cS (tq B 0 178) (rq B) hWX H hTX (B + 0) hτX hFX.2.2.2.2.2.2.2.2.2.2.2.2.2.1) lk_L_80 yd_X11_end hTX hτX rfl (by decide) ⟨rfl, fun _ _ => rfl, hlo⟩ (fun q h => h.elim) ⟨Nat.le_of_ble_eq_true rfl, Nat.le_of_ble_eq_true rfl⟩ (Nat.le_of_ble_eq_true rfl) ⟨Nat.le_of_ble_eq_true rfl, Nat.le_of_ble_eq_true rfl⟩ rfl dL_law_523 (fun r_1 H_1 locs_1 p_1 hT_1 hk_1 hS_1 => ?_)
  refine th_topi (y := 0) (show (0 : Int32) = r_1 from p_1.2).symm ?_
  have kM : ∀ q, B + 178 ≤ q → H_1[q]? = H[q]? := fun q hq => hk_1 q (fun h => h.elim)
  have hTM := hTM.same (H1 := H_1) (fun q t h => kM q (by obtain ⟨j, rfl, z1, -, -⟩ := tq_some h; omega))
  have hFM := hFM.kept (H1 := H_1) kM
  have hX_1 : va_X b 4 xs s H_1 := hX.kept (hS_1.2.1 b (Nat.not_le.mpr hbB))
  refine lv_aload_n hx hb dL_law_526 rfl (lv_at hl 1 rfl) ?_
  refine lv_aload_n hx hb dL_law_527 rfl (lv_at hl 3 rfl) ?_
  refine lv_iload_n hx hb dL_law_528 rfl (lv_at hl 0 rfl) ?_
  refine lv_iconst (v := 1) hx hb dL_law_529 (by decide) ?_
  refine lv_iadd hx hb dL_law_530 ?_
  refine th_topi (y := 1) (by decide) ?_
  refine lw_sld (j := 1) hx hb hX_1 (by decide) (by decide) (by decide) dL_law_531 ?_
  refine th_topi h1 ?_
  refine lv_aload_n hx hb dL_law_532 rfl (lv_at hl 3 rfl) ?_
  refine lv_iload_n hx hb dL_law_533 rfl (lv_at hl 0 rfl) ?_
  refine lv_iconst (v := 2) hx hb dL_law_534 (by decide) ?_
  refine lv_iadd hx hb dL_law_535 ?_
  refine th_topi (y := 2) (by decide) ?_
  refine lw_sld (j := 2) hx hb hX_1 (by decide) (by decide) (by decide) dL_law_536 ?_
  refine th_topi h2 ?_
  refine th_Vi (A := fun q => B ≤ q) (As := [.int 0, .int 10]) (rest := [.int 0]) E hml hl.1 (c_X12_end_v14 l D cI cS (tq B 178 186) (rq B) hWM H_1 hTM (B + 178) hτM ((hFM.2.2.2.2.1 10 (by decide)).trans (by decide))) lk_L_83 yd_X12_end hTM hτM rfl (by decide) ⟨rfl, fun _ _ => rfl, hS_1.2.2⟩ (fun q h => h.elim) ⟨Nat.le_of_ble_eq_true rfl, Nat.le_of_ble_eq_true rfl⟩ (Nat.le_of_ble_eq_true rfl) ⟨Nat.le_of_ble_eq_true rfl, Nat.le_of_ble_eq_true rfl⟩ rfl dL_law_537 (fun r_2 H_2 locs_2 p_2 hT_2 hk_2 hS_2 => ?_)
  refine th_topi (y := 0) (show (0 : Int32) = r_2 from p_2.2).symm ?_
  have hX_2 : va_X b 4 xs s H_2 := hX_1.kept (hS_2.2.1 b (Nat.not_le.mpr hbB))
  refine lv_icmp_eq (tgt := 766) hx hb dL_law_540 (by decide) (fun c_ => ?_) (fun c_ => absurd (by decide) c_)
  exact kk H_2 locs_2 hS_2.2.2 hX_2
set_option maxHeartbeats 4000000 in
set_option maxRecDepth 100000 in
theorem w_end_14 (E : EE p s m args c cL_law RL D cI cS) (hml : c.maxLocals = 4) (hl : lv_has ls 4 [(3, .int 0), (2, .ref (B + 178)), (1, .ref (B + 0)), (0, .ref b)]) (hWX : WF (tq B 0 178) (rq B)) (hWM : WF (tq B 178 186) (rq B)) (hTX : TH D cI cS (tq B 0 178) (rq B) H) (hFX : FX D B H) (hTM : TH D cI cS (tq B 178 186) (rq B) H) (hFM : FM D B H) (hX : va_X b 4 xs s H) (hbB : b < B) (hlo : ∀ x ∈ locs, B ≤ x.base) (h1 : xs 1 = 0) (h2 : xs 2 = 11) (kk : KL p l e s m args below meth c ls Q B b xs) : WL p l e s m args below meth c H locs ls Q 512 := by
  have hx := E.1
  have hb := E.2.1
  have hτX := ttX B
  have hτM := ttM B
  refine lv_aload_n hx hb dL_law_512 rfl (lv_at hl 2 rfl) ?_
  refine lv_aload_n hx hb dL_law_513 rfl (lv_at hl 3 rfl) ?_
  refine lv_iload_n hx hb dL_law_514 rfl (lv_at hl 0 rfl) ?_
  refine lv_iconst (v := 1) hx hb dL_law_515 (by decide) ?_
  refine lv_iadd hx hb dL_law_516 ?_
  refine th_topi (y := 1) (by decide) ?_
  refine lw_sld (j := 1) hx hb hX (by decide) (by decide) (by decide) dL_law_517 ?_
  refine th_topi h1 ?_
  refine lv_aload_n hx hb dL_law_518 rfl (lv_at hl 3 rfl) ?_
  refine lv_iload_n hx hb dL_law_519 rfl (lv_at hl 0 rfl) ?_
  refine lv_iconst (v := 2) hx hb dL_law_520 (by decide) ?_
  refine lv_iadd hx hb dL_law_521 ?_
  refine th_topi (y := 2) (by decide) ?_
  refine lw_sld (j := 2) hx hb hX (by decide) (by decide) (by decide) dL_law_522 ?_
  refine th_topi h2 ?_
  refine th_Vi (A := fun q => B ≤ q) (As := [.int 0, .int 11]) (rest := []) E hml hl.1 (c_X11_end_v15 l D cI cS (tq B 0 178) (rq B) hWX H hTX (B + 0) hτX hFX.2.2.2.2.2.2.2.2.2.2.2.2.2.2.2.2.2.2.2.2.2.2.2.2.2.2.2.2.2.2.2.1) lk_L_80 yd_X11_end hTX hτX rfl (by decide) ⟨rfl, fun _ _ => rfl, hlo⟩ (fun q h => h.elim) ⟨Nat.le_of_ble_eq_true rfl, Nat.le_of_ble_eq_true rfl⟩ (Nat.le_of_ble_eq_true rfl) ⟨Nat.le_of_ble_eq_true rfl, Nat.le_of_ble_eq_true rfl⟩ rfl dL_law_523 (fun r_1 H_1 locs_1 p_1 hT_1 hk_1 hS_1 => ?_)
  refine th_topi (y := 0) (show (0 : Int32) = r_1 from p_1.2).symm ?_
  have kM : ∀ q, B + 178 ≤ q → H_1[q]? = H[q]? := fun q hq => hk_1 q (fun h => h.elim)
  have hTM := hTM.same (H1 := H_1) (fun q t h => kM q (by obtain ⟨j, rfl, z1, -, -⟩ := tq_some h; omega))
  have hFM := hFM.kept (H1 := H_1) kM
  have hX_1 : va_X b 4 xs s H_1 := hX.kept (hS_1.2.1 b (Nat.not_le.mpr hbB))
  refine lv_aload_n hx hb dL_law_526 rfl (lv_at hl 1 rfl) ?_
  refine lv_aload_n hx hb dL_law_527 rfl (lv_at hl 3 rfl) ?_
  refine lv_iload_n hx hb dL_law_528 rfl (lv_at hl 0 rfl) ?_
  refine lv_iconst (v := 1) hx hb dL_law_529 (by decide) ?_
  refine lv_iadd hx hb dL_law_530 ?_
  refine th_topi (y := 1) (by decide) ?_
  refine lw_sld (j := 1) hx hb hX_1 (by decide) (by decide) (by decide) dL_law_531 ?_
  refine th_topi h1 ?_
  refine lv_aload_n hx hb dL_law_532 rfl (lv_at hl 3 rfl) ?_
  refine lv_iload_n hx hb dL_law_533 rfl (lv_at hl 0 rfl) ?_
  refine lv_iconst (v := 2) hx hb dL_law_534 (by decide) ?_
  refine lv_iadd hx hb dL_law_535 ?_
  refine th_topi (y := 2) (by decide) ?_
  refine lw_sld (j := 2) hx hb hX_1 (by decide) (by decide) (by decide) dL_law_536 ?_
  refine th_topi h2 ?_
  refine th_Vi (A := fun q => B ≤ q) (As := [.int 0, .int 11]) (rest := [.int 0]) E hml hl.1 (c_X12_end_v15 l D cI cS (tq B 178 186) (rq B) hWM H_1 hTM (B + 178) hτM ((hFM.2.2.2.2.1 11 (by decide)).trans (by decide))) lk_L_83 yd_X12_end hTM hτM rfl (by decide) ⟨rfl, fun _ _ => rfl, hS_1.2.2⟩ (fun q h => h.elim) ⟨Nat.le_of_ble_eq_true rfl, Nat.le_of_ble_eq_true rfl⟩ (Nat.le_of_ble_eq_true rfl) ⟨Nat.le_of_ble_eq_true rfl, Nat.le_of_ble_eq_true rfl⟩ rfl dL_law_537 (fun r_2 H_2 locs_2 p_2 hT_2 hk_2 hS_2 => ?_)
  refine th_topi (y := 0) (show (0 : Int32) = r_2 from p_2.2).symm ?_
  have hX_2 : va_X b 4 xs s H_2 := hX_1.kept (hS_2.2.1 b (Nat.not_le.mpr hbB))
  refine lv_icmp_eq (tgt := 766) hx hb dL_law_540 (by decide) (fun c_ => ?_) (fun c_ => absurd (by decide) c_)
  exact kk H_2 locs_2 hS_2.2.2 hX_2
set_option maxHeartbeats 4000000 in
set_option maxRecDepth 100000 in
theorem w_end_15 (E : EE p s m args c cL_law RL D cI cS) (hml : c.maxLocals = 4) (hl : lv_has ls 4 [(3, .int 0), (2, .ref (B + 178)), (1, .ref (B + 0)), (0, .ref b)]) (hWX : WF (tq B 0 178) (rq B)) (hWM : WF (tq B 178 186) (rq B)) (hTX : TH D cI cS (tq B 0 178) (rq B) H) (hFX : FX D B H) (hTM : TH D cI cS (tq B 178 186) (rq B) H) (hFM : FM D B H) (hX : va_X b 4 xs s H) (hbB : b < B) (hlo : ∀ x ∈ locs, B ≤ x.base) (h1 : xs 1 = 0) (h2 : xs 2 = 12) (kk : KL p l e s m args below meth c ls Q B b xs) : WL p l e s m args below meth c H locs ls Q 512 := by
  have hx := E.1
  have hb := E.2.1
  have hτX := ttX B
  have hτM := ttM B
  refine lv_aload_n hx hb dL_law_512 rfl (lv_at hl 2 rfl) ?_
  refine lv_aload_n hx hb dL_law_513 rfl (lv_at hl 3 rfl) ?_
  refine lv_iload_n hx hb dL_law_514 rfl (lv_at hl 0 rfl) ?_
  refine lv_iconst (v := 1) hx hb dL_law_515 (by decide) ?_
  refine lv_iadd hx hb dL_law_516 ?_
  refine th_topi (y := 1) (by decide) ?_
  refine lw_sld (j := 1) hx hb hX (by decide) (by decide) (by decide) dL_law_517 ?_
  refine th_topi h1 ?_
  refine lv_aload_n hx hb dL_law_518 rfl (lv_at hl 3 rfl) ?_
  refine lv_iload_n hx hb dL_law_519 rfl (lv_at hl 0 rfl) ?_
  refine lv_iconst (v := 2) hx hb dL_law_520 (by decide) ?_
  refine lv_iadd hx hb dL_law_521 ?_
  refine th_topi (y := 2) (by decide) ?_
  refine lw_sld (j := 2) hx hb hX (by decide) (by decide) (by decide) dL_law_522 ?_
  refine th_topi h2 ?_
  refine th_Vi (A := fun q => B ≤ q) (As := [.int 0, .int 12]) (rest := []) E hml hl.1 (c_X11_end_v16 l D cI cS (tq B 0 178) (rq B) hWX H hTX (B + 0) hτX hFX.2.2.2.2.2.2.2.2.2.2.2.2.2.2.2.2.2.2.2.2.2.2.2.2.2.2.2.2.2.2.2.2.1) lk_L_80 yd_X11_end hTX hτX rfl (by decide) ⟨rfl, fun _ _ => rfl, hlo⟩ (fun q h => h.elim) ⟨Nat.le_of_ble_eq_true rfl, Nat.le_of_ble_eq_true rfl⟩ (Nat.le_of_ble_eq_true rfl) ⟨Nat.le_of_ble_eq_true rfl, Nat.le_of_ble_eq_true rfl⟩ rfl dL_law_523 (fun r_1 H_1 locs_1 p_1 hT_1 hk_1 hS_1 => ?_)
  refine th_topi (y := 0) (show (0 : Int32) = r_1 from p_1.2).symm ?_
  have kM : ∀ q, B + 178 ≤ q → H_1[q]? = H[q]? := fun q hq => hk_1 q (fun h => h.elim)
  have hTM := hTM.same (H1 := H_1) (fun q t h => kM q (by obtain ⟨j, rfl, z1, -, -⟩ := tq_some h; omega))
  have hFM := hFM.kept (H1 := H_1) kM
  have hX_1 : va_X b 4 xs s H_1 := hX.kept (hS_1.2.1 b (Nat.not_le.mpr hbB))
  refine lv_aload_n hx hb dL_law_526 rfl (lv_at hl 1 rfl) ?_
  refine lv_aload_n hx hb dL_law_527 rfl (lv_at hl 3 rfl) ?_
  refine lv_iload_n hx hb dL_law_528 rfl (lv_at hl 0 rfl) ?_
  refine lv_iconst (v := 1) hx hb dL_law_529 (by decide) ?_
  refine lv_iadd hx hb dL_law_530 ?_
  refine th_topi (y := 1) (by decide) ?_
  refine lw_sld (j := 1) hx hb hX_1 (by decide) (by decide) (by decide) dL_law_531 ?_
  refine th_topi h1 ?_
  refine lv_aload_n hx hb dL_law_532 rfl (lv_at hl 3 rfl) ?_
  refine lv_iload_n hx hb dL_law_533 rfl (lv_at hl 0 rfl) ?_
  refine lv_iconst (v := 2) hx hb dL_law_534 (by decide) ?_
  refine lv_iadd hx hb dL_law_535 ?_
  refine th_topi (y := 2) (by decide) ?_
  refine lw_sld (j := 2) hx hb hX_1 (by decide) (by decide) (by decide) dL_law_536 ?_
  refine th_topi h2 ?_
  refine th_Vi (A := fun q => B ≤ q) (As := [.int 0, .int 12]) (rest := [.int 0]) E hml hl.1 (c_X12_end_v16 l D cI cS (tq B 178 186) (rq B) hWM H_1 hTM (B + 178) hτM ((hFM.2.2.2.2.1 12 (by decide)).trans (by decide))) lk_L_83 yd_X12_end hTM hτM rfl (by decide) ⟨rfl, fun _ _ => rfl, hS_1.2.2⟩ (fun q h => h.elim) ⟨Nat.le_of_ble_eq_true rfl, Nat.le_of_ble_eq_true rfl⟩ (Nat.le_of_ble_eq_true rfl) ⟨Nat.le_of_ble_eq_true rfl, Nat.le_of_ble_eq_true rfl⟩ rfl dL_law_537 (fun r_2 H_2 locs_2 p_2 hT_2 hk_2 hS_2 => ?_)
  refine th_topi (y := 0) (show (0 : Int32) = r_2 from p_2.2).symm ?_
  have hX_2 : va_X b 4 xs s H_2 := hX_1.kept (hS_2.2.1 b (Nat.not_le.mpr hbB))
  refine lv_icmp_eq (tgt := 766) hx hb dL_law_540 (by decide) (fun c_ => ?_) (fun c_ => absurd (by decide) c_)
  exact kk H_2 locs_2 hS_2.2.2 hX_2
set_option maxHeartbeats 4000000 in
set_option maxRecDepth 100000 in
theorem w_end_16 (E : EE p s m args c cL_law RL D cI cS) (hml : c.maxLocals = 4) (hl : lv_has ls 4 [(3, .int 0), (2, .ref (B + 178)), (1, .ref (B + 0)), (0, .ref b)]) (hWX : WF (tq B 0 178) (rq B)) (hWM : WF (tq B 178 186) (rq B)) (hTX : TH D cI cS (tq B 0 178) (rq B) H) (hFX : FX D B H) (hTM : TH D cI cS (tq B 178 186) (rq B) H) (hFM : FM D B H) (hX : va_X b 4 xs s H) (hbB : b < B) (hlo : ∀ x ∈ locs, B ≤ x.base) (h1 : xs 1 = 0) (h2 : xs 2 = 13) (kk : KL p l e s m args below meth c ls Q B b xs) : WL p l e s m args below meth c H locs ls Q 512 := by
  have hx := E.1
  have hb := E.2.1
  have hτX := ttX B
  have hτM := ttM B
  refine lv_aload_n hx hb dL_law_512 rfl (lv_at hl 2 rfl) ?_
  refine lv_aload_n hx hb dL_law_513 rfl (lv_at hl 3 rfl) ?_
  refine lv_iload_n hx hb dL_law_514 rfl (lv_at hl 0 rfl) ?_
  refine lv_iconst (v := 1) hx hb dL_law_515 (by decide) ?_
  refine lv_iadd hx hb dL_law_516 ?_
  refine th_topi (y := 1) (by decide) ?_
  refine lw_sld (j := 1) hx hb hX (by decide) (by decide) (by decide) dL_law_517 ?_
  refine th_topi h1 ?_
  refine lv_aload_n hx hb dL_law_518 rfl (lv_at hl 3 rfl) ?_
  refine lv_iload_n hx hb dL_law_519 rfl (lv_at hl 0 rfl) ?_
  refine lv_iconst (v := 2) hx hb dL_law_520 (by decide) ?_
  refine lv_iadd hx hb dL_law_521 ?_
  refine th_topi (y := 2) (by decide) ?_
  refine lw_sld (j := 2) hx hb hX (by decide) (by decide) (by decide) dL_law_522 ?_
  refine th_topi h2 ?_
  refine th_Vi (A := fun q => B ≤ q) (As := [.int 0, .int 13]) (rest := []) E hml hl.1 (c_X11_end_v17 l D cI cS (tq B 0 178) (rq B) hWX H hTX (B + 0) hτX hFX.2.2.2.2.2.2.2.2.2.2.2.2.2.2.2.2.2.2.2.2.2.2.2.2.2.2.2.2.1) lk_L_80 yd_X11_end hTX hτX rfl (by decide) ⟨rfl, fun _ _ => rfl, hlo⟩ (fun q h => h.elim) ⟨Nat.le_of_ble_eq_true rfl, Nat.le_of_ble_eq_true rfl⟩ (Nat.le_of_ble_eq_true rfl) ⟨Nat.le_of_ble_eq_true rfl, Nat.le_of_ble_eq_true rfl⟩ rfl dL_law_523 (fun r_1 H_1 locs_1 p_1 hT_1 hk_1 hS_1 => ?_)
  refine th_topi (y := 0) (show (0 : Int32) = r_1 from p_1.2).symm ?_
  have kM : ∀ q, B + 178 ≤ q → H_1[q]? = H[q]? := fun q hq => hk_1 q (fun h => h.elim)
  have hTM := hTM.same (H1 := H_1) (fun q t h => kM q (by obtain ⟨j, rfl, z1, -, -⟩ := tq_some h; omega))
  have hFM := hFM.kept (H1 := H_1) kM
  have hX_1 : va_X b 4 xs s H_1 := hX.kept (hS_1.2.1 b (Nat.not_le.mpr hbB))
  refine lv_aload_n hx hb dL_law_526 rfl (lv_at hl 1 rfl) ?_
  refine lv_aload_n hx hb dL_law_527 rfl (lv_at hl 3 rfl) ?_
  refine lv_iload_n hx hb dL_law_528 rfl (lv_at hl 0 rfl) ?_
  refine lv_iconst (v := 1) hx hb dL_law_529 (by decide) ?_
  refine lv_iadd hx hb dL_law_530 ?_
  refine th_topi (y := 1) (by decide) ?_
  refine lw_sld (j := 1) hx hb hX_1 (by decide) (by decide) (by decide) dL_law_531 ?_
  refine th_topi h1 ?_
  refine lv_aload_n hx hb dL_law_532 rfl (lv_at hl 3 rfl) ?_
  refine lv_iload_n hx hb dL_law_533 rfl (lv_at hl 0 rfl) ?_
  refine lv_iconst (v := 2) hx hb dL_law_534 (by decide) ?_
  refine lv_iadd hx hb dL_law_535 ?_
  refine th_topi (y := 2) (by decide) ?_
  refine lw_sld (j := 2) hx hb hX_1 (by decide) (by decide) (by decide) dL_law_536 ?_
  refine th_topi h2 ?_
  refine th_Vi (A := fun q => B ≤ q) (As := [.int 0, .int 13]) (rest := [.int 0]) E hml hl.1 (c_X12_end_v17 l D cI cS (tq B 178 186) (rq B) hWM H_1 hTM (B + 178) hτM ((hFM.2.2.2.2.1 13 (by decide)).trans (by decide))) lk_L_83 yd_X12_end hTM hτM rfl (by decide) ⟨rfl, fun _ _ => rfl, hS_1.2.2⟩ (fun q h => h.elim) ⟨Nat.le_of_ble_eq_true rfl, Nat.le_of_ble_eq_true rfl⟩ (Nat.le_of_ble_eq_true rfl) ⟨Nat.le_of_ble_eq_true rfl, Nat.le_of_ble_eq_true rfl⟩ rfl dL_law_537 (fun r_2 H_2 locs_2 p_2 hT_2 hk_2 hS_2 => ?_)
  refine th_topi (y := 0) (show (0 : Int32) = r_2 from p_2.2).symm ?_
  have hX_2 : va_X b 4 xs s H_2 := hX_1.kept (hS_2.2.1 b (Nat.not_le.mpr hbB))
  refine lv_icmp_eq (tgt := 766) hx hb dL_law_540 (by decide) (fun c_ => ?_) (fun c_ => absurd (by decide) c_)
  exact kk H_2 locs_2 hS_2.2.2 hX_2
set_option maxHeartbeats 4000000 in
set_option maxRecDepth 100000 in
theorem w_end_17 (E : EE p s m args c cL_law RL D cI cS) (hml : c.maxLocals = 4) (hl : lv_has ls 4 [(3, .int 0), (2, .ref (B + 178)), (1, .ref (B + 0)), (0, .ref b)]) (hWX : WF (tq B 0 178) (rq B)) (hWM : WF (tq B 178 186) (rq B)) (hTX : TH D cI cS (tq B 0 178) (rq B) H) (hFX : FX D B H) (hTM : TH D cI cS (tq B 178 186) (rq B) H) (hFM : FM D B H) (hX : va_X b 4 xs s H) (hbB : b < B) (hlo : ∀ x ∈ locs, B ≤ x.base) (h1 : xs 1 = 0) (h2 : xs 2 = 14) (kk : KL p l e s m args below meth c ls Q B b xs) : WL p l e s m args below meth c H locs ls Q 512 := by
  have hx := E.1
  have hb := E.2.1
  have hτX := ttX B
  have hτM := ttM B
  refine lv_aload_n hx hb dL_law_512 rfl (lv_at hl 2 rfl) ?_
  refine lv_aload_n hx hb dL_law_513 rfl (lv_at hl 3 rfl) ?_
  refine lv_iload_n hx hb dL_law_514 rfl (lv_at hl 0 rfl) ?_
  refine lv_iconst (v := 1) hx hb dL_law_515 (by decide) ?_
  refine lv_iadd hx hb dL_law_516 ?_
  refine th_topi (y := 1) (by decide) ?_
  refine lw_sld (j := 1) hx hb hX (by decide) (by decide) (by decide) dL_law_517 ?_
  refine th_topi h1 ?_
  refine lv_aload_n hx hb dL_law_518 rfl (lv_at hl 3 rfl) ?_
  refine lv_iload_n hx hb dL_law_519 rfl (lv_at hl 0 rfl) ?_
  refine lv_iconst (v := 2) hx hb dL_law_520 (by decide) ?_
  refine lv_iadd hx hb dL_law_521 ?_
  refine th_topi (y := 2) (by decide) ?_
  refine lw_sld (j := 2) hx hb hX (by decide) (by decide) (by decide) dL_law_522 ?_
  refine th_topi h2 ?_
  refine th_Vi (A := fun q => B ≤ q) (As := [.int 0, .int 14]) (rest := []) E hml hl.1 (c_X11_end_v18 l D cI cS (tq B 0 178) (rq B) hWX H hTX (B + 0) hτX hFX.2.2.2.2.2.2.2.2.2.2.2.2.2.2.2.2.2.2.2.2.2.2.2.2.2.2.2.1) lk_L_80 yd_X11_end hTX hτX rfl (by decide) ⟨rfl, fun _ _ => rfl, hlo⟩ (fun q h => h.elim) ⟨Nat.le_of_ble_eq_true rfl, Nat.le_of_ble_eq_true rfl⟩ (Nat.le_of_ble_eq_true rfl) ⟨Nat.le_of_ble_eq_true rfl, Nat.le_of_ble_eq_true rfl⟩ rfl dL_law_523 (fun r_1 H_1 locs_1 p_1 hT_1 hk_1 hS_1 => ?_)
  refine th_topi (y := 0) (show (0 : Int32) = r_1 from p_1.2).symm ?_
  have kM : ∀ q, B + 178 ≤ q → H_1[q]? = H[q]? := fun q hq => hk_1 q (fun h => h.elim)
  have hTM := hTM.same (H1 := H_1) (fun q t h => kM q (by obtain ⟨j, rfl, z1, -, -⟩ := tq_some h; omega))
  have hFM := hFM.kept (H1 := H_1) kM
  have hX_1 : va_X b 4 xs s H_1 := hX.kept (hS_1.2.1 b (Nat.not_le.mpr hbB))
  refine lv_aload_n hx hb dL_law_526 rfl (lv_at hl 1 rfl) ?_
  refine lv_aload_n hx hb dL_law_527 rfl (lv_at hl 3 rfl) ?_
  refine lv_iload_n hx hb dL_law_528 rfl (lv_at hl 0 rfl) ?_
  refine lv_iconst (v := 1) hx hb dL_law_529 (by decide) ?_
  refine lv_iadd hx hb dL_law_530 ?_
  refine th_topi (y := 1) (by decide) ?_
  refine lw_sld (j := 1) hx hb hX_1 (by decide) (by decide) (by decide) dL_law_531 ?_
  refine th_topi h1 ?_
  refine lv_aload_n hx hb dL_law_532 rfl (lv_at hl 3 rfl) ?_
  refine lv_iload_n hx hb dL_law_533 rfl (lv_at hl 0 rfl) ?_
  refine lv_iconst (v := 2) hx hb dL_law_534 (by decide) ?_
  refine lv_iadd hx hb dL_law_535 ?_
  refine th_topi (y := 2) (by decide) ?_
  refine lw_sld (j := 2) hx hb hX_1 (by decide) (by decide) (by decide) dL_law_536 ?_
  refine th_topi h2 ?_
  refine th_Vi (A := fun q => B ≤ q) (As := [.int 0, .int 14]) (rest := [.int 0]) E hml hl.1 (c_X12_end_v18 l D cI cS (tq B 178 186) (rq B) hWM H_1 hTM (B + 178) hτM ((hFM.2.2.2.2.1 14 (by decide)).trans (by decide))) lk_L_83 yd_X12_end hTM hτM rfl (by decide) ⟨rfl, fun _ _ => rfl, hS_1.2.2⟩ (fun q h => h.elim) ⟨Nat.le_of_ble_eq_true rfl, Nat.le_of_ble_eq_true rfl⟩ (Nat.le_of_ble_eq_true rfl) ⟨Nat.le_of_ble_eq_true rfl, Nat.le_of_ble_eq_true rfl⟩ rfl dL_law_537 (fun r_2 H_2 locs_2 p_2 hT_2 hk_2 hS_2 => ?_)
  refine th_topi (y := 0) (show (0 : Int32) = r_2 from p_2.2).symm ?_
  have hX_2 : va_X b 4 xs s H_2 := hX_1.kept (hS_2.2.1 b (Nat.not_le.mpr hbB))
  refine lv_icmp_eq (tgt := 766) hx hb dL_law_540 (by decide) (fun c_ => ?_) (fun c_ => absurd (by decide) c_)
  exact kk H_2 locs_2 hS_2.2.2 hX_2
set_option maxHeartbeats 4000000 in
set_option maxRecDepth 100000 in
theorem w_end_18 (E : EE p s m args c cL_law RL D cI cS) (hml : c.maxLocals = 4) (hl : lv_has ls 4 [(3, .int 0), (2, .ref (B + 178)), (1, .ref (B + 0)), (0, .ref b)]) (hWX : WF (tq B 0 178) (rq B)) (hWM : WF (tq B 178 186) (rq B)) (hTX : TH D cI cS (tq B 0 178) (rq B) H) (hFX : FX D B H) (hTM : TH D cI cS (tq B 178 186) (rq B) H) (hFM : FM D B H) (hX : va_X b 4 xs s H) (hbB : b < B) (hlo : ∀ x ∈ locs, B ≤ x.base) (h1 : xs 1 = 0) (h2 : xs 2 = 15) (kk : KL p l e s m args below meth c ls Q B b xs) : WL p l e s m args below meth c H locs ls Q 512 := by
  have hx := E.1
  have hb := E.2.1
  have hτX := ttX B
  have hτM := ttM B
  refine lv_aload_n hx hb dL_law_512 rfl (lv_at hl 2 rfl) ?_
  refine lv_aload_n hx hb dL_law_513 rfl (lv_at hl 3 rfl) ?_
  refine lv_iload_n hx hb dL_law_514 rfl (lv_at hl 0 rfl) ?_
  refine lv_iconst (v := 1) hx hb dL_law_515 (by decide) ?_
  refine lv_iadd hx hb dL_law_516 ?_
  refine th_topi (y := 1) (by decide) ?_
  refine lw_sld (j := 1) hx hb hX (by decide) (by decide) (by decide) dL_law_517 ?_
  refine th_topi h1 ?_
  refine lv_aload_n hx hb dL_law_518 rfl (lv_at hl 3 rfl) ?_
  refine lv_iload_n hx hb dL_law_519 rfl (lv_at hl 0 rfl) ?_
  refine lv_iconst (v := 2) hx hb dL_law_520 (by decide) ?_
  refine lv_iadd hx hb dL_law_521 ?_
  refine th_topi (y := 2) (by decide) ?_
  refine lw_sld (j := 2) hx hb hX (by decide) (by decide) (by decide) dL_law_522 ?_
  refine th_topi h2 ?_
  refine th_Vi (A := fun q => B ≤ q) (As := [.int 0, .int 15]) (rest := []) E hml hl.1 (c_X11_end_v19 l D cI cS (tq B 0 178) (rq B) hWX H hTX (B + 0) hτX hFX.2.2.2.2.2.2.2.2.2.2.2.2.2.2.2.2.2.2.2.2.2.1) lk_L_80 yd_X11_end hTX hτX rfl (by decide) ⟨rfl, fun _ _ => rfl, hlo⟩ (fun q h => h.elim) ⟨Nat.le_of_ble_eq_true rfl, Nat.le_of_ble_eq_true rfl⟩ (Nat.le_of_ble_eq_true rfl) ⟨Nat.le_of_ble_eq_true rfl, Nat.le_of_ble_eq_true rfl⟩ rfl dL_law_523 (fun r_1 H_1 locs_1 p_1 hT_1 hk_1 hS_1 => ?_)
  refine th_topi (y := 0) (show (0 : Int32) = r_1 from p_1.2).symm ?_
  have kM : ∀ q, B + 178 ≤ q → H_1[q]? = H[q]? := fun q hq => hk_1 q (fun h => h.elim)
  have hTM := hTM.same (H1 := H_1) (fun q t h => kM q (by obtain ⟨j, rfl, z1, -, -⟩ := tq_some h; omega))
  have hFM := hFM.kept (H1 := H_1) kM
  have hX_1 : va_X b 4 xs s H_1 := hX.kept (hS_1.2.1 b (Nat.not_le.mpr hbB))
  refine lv_aload_n hx hb dL_law_526 rfl (lv_at hl 1 rfl) ?_
  refine lv_aload_n hx hb dL_law_527 rfl (lv_at hl 3 rfl) ?_
  refine lv_iload_n hx hb dL_law_528 rfl (lv_at hl 0 rfl) ?_
  refine lv_iconst (v := 1) hx hb dL_law_529 (by decide) ?_
  refine lv_iadd hx hb dL_law_530 ?_
  refine th_topi (y := 1) (by decide) ?_
  refine lw_sld (j := 1) hx hb hX_1 (by decide) (by decide) (by decide) dL_law_531 ?_
  refine th_topi h1 ?_
  refine lv_aload_n hx hb dL_law_532 rfl (lv_at hl 3 rfl) ?_
  refine lv_iload_n hx hb dL_law_533 rfl (lv_at hl 0 rfl) ?_
  refine lv_iconst (v := 2) hx hb dL_law_534 (by decide) ?_
  refine lv_iadd hx hb dL_law_535 ?_
  refine th_topi (y := 2) (by decide) ?_
  refine lw_sld (j := 2) hx hb hX_1 (by decide) (by decide) (by decide) dL_law_536 ?_
  refine th_topi h2 ?_
  refine th_Vi (A := fun q => B ≤ q) (As := [.int 0, .int 15]) (rest := [.int 0]) E hml hl.1 (c_X12_end_v19 l D cI cS (tq B 178 186) (rq B) hWM H_1 hTM (B + 178) hτM ((hFM.2.2.2.2.1 15 (by decide)).trans (by decide))) lk_L_83 yd_X12_end hTM hτM rfl (by decide) ⟨rfl, fun _ _ => rfl, hS_1.2.2⟩ (fun q h => h.elim) ⟨Nat.le_of_ble_eq_true rfl, Nat.le_of_ble_eq_true rfl⟩ (Nat.le_of_ble_eq_true rfl) ⟨Nat.le_of_ble_eq_true rfl, Nat.le_of_ble_eq_true rfl⟩ rfl dL_law_537 (fun r_2 H_2 locs_2 p_2 hT_2 hk_2 hS_2 => ?_)
  refine th_topi (y := 0) (show (0 : Int32) = r_2 from p_2.2).symm ?_
  have hX_2 : va_X b 4 xs s H_2 := hX_1.kept (hS_2.2.1 b (Nat.not_le.mpr hbB))
  refine lv_icmp_eq (tgt := 766) hx hb dL_law_540 (by decide) (fun c_ => ?_) (fun c_ => absurd (by decide) c_)
  exact kk H_2 locs_2 hS_2.2.2 hX_2
set_option maxHeartbeats 4000000 in
set_option maxRecDepth 100000 in
theorem w_end_19 (E : EE p s m args c cL_law RL D cI cS) (hml : c.maxLocals = 4) (hl : lv_has ls 4 [(3, .int 0), (2, .ref (B + 178)), (1, .ref (B + 0)), (0, .ref b)]) (hWX : WF (tq B 0 178) (rq B)) (hWM : WF (tq B 178 186) (rq B)) (hTX : TH D cI cS (tq B 0 178) (rq B) H) (hFX : FX D B H) (hTM : TH D cI cS (tq B 178 186) (rq B) H) (hFM : FM D B H) (hX : va_X b 4 xs s H) (hbB : b < B) (hlo : ∀ x ∈ locs, B ≤ x.base) (h1 : xs 1 = 0) (h2 : xs 2 = 16) (kk : KL p l e s m args below meth c ls Q B b xs) : WL p l e s m args below meth c H locs ls Q 512 := by
  have hx := E.1
  have hb := E.2.1
  have hτX := ttX B
  have hτM := ttM B
  refine lv_aload_n hx hb dL_law_512 rfl (lv_at hl 2 rfl) ?_
  refine lv_aload_n hx hb dL_law_513 rfl (lv_at hl 3 rfl) ?_
  refine lv_iload_n hx hb dL_law_514 rfl (lv_at hl 0 rfl) ?_
  refine lv_iconst (v := 1) hx hb dL_law_515 (by decide) ?_
  refine lv_iadd hx hb dL_law_516 ?_
  refine th_topi (y := 1) (by decide) ?_
  refine lw_sld (j := 1) hx hb hX (by decide) (by decide) (by decide) dL_law_517 ?_
  refine th_topi h1 ?_
  refine lv_aload_n hx hb dL_law_518 rfl (lv_at hl 3 rfl) ?_
  refine lv_iload_n hx hb dL_law_519 rfl (lv_at hl 0 rfl) ?_
  refine lv_iconst (v := 2) hx hb dL_law_520 (by decide) ?_
  refine lv_iadd hx hb dL_law_521 ?_
  refine th_topi (y := 2) (by decide) ?_
  refine lw_sld (j := 2) hx hb hX (by decide) (by decide) (by decide) dL_law_522 ?_
  refine th_topi h2 ?_
  refine th_Vi (A := fun q => B ≤ q) (As := [.int 0, .int 16]) (rest := []) E hml hl.1 (c_X11_end_v20 l D cI cS (tq B 0 178) (rq B) hWX H hTX (B + 0) hτX hFX.2.2.2.2.2.2.2.2.2.2.2.2.2.2.1) lk_L_80 yd_X11_end hTX hτX rfl (by decide) ⟨rfl, fun _ _ => rfl, hlo⟩ (fun q h => h.elim) ⟨Nat.le_of_ble_eq_true rfl, Nat.le_of_ble_eq_true rfl⟩ (Nat.le_of_ble_eq_true rfl) ⟨Nat.le_of_ble_eq_true rfl, Nat.le_of_ble_eq_true rfl⟩ rfl dL_law_523 (fun r_1 H_1 locs_1 p_1 hT_1 hk_1 hS_1 => ?_)
  refine th_topi (y := (-4)) (show ((-4) : Int32) = r_1 from p_1.2).symm ?_
  have kM : ∀ q, B + 178 ≤ q → H_1[q]? = H[q]? := fun q hq => hk_1 q (fun h => h.elim)
  have hTM := hTM.same (H1 := H_1) (fun q t h => kM q (by obtain ⟨j, rfl, z1, -, -⟩ := tq_some h; omega))
  have hFM := hFM.kept (H1 := H_1) kM
  have hX_1 : va_X b 4 xs s H_1 := hX.kept (hS_1.2.1 b (Nat.not_le.mpr hbB))
  refine lv_aload_n hx hb dL_law_526 rfl (lv_at hl 1 rfl) ?_
  refine lv_aload_n hx hb dL_law_527 rfl (lv_at hl 3 rfl) ?_
  refine lv_iload_n hx hb dL_law_528 rfl (lv_at hl 0 rfl) ?_
  refine lv_iconst (v := 1) hx hb dL_law_529 (by decide) ?_
  refine lv_iadd hx hb dL_law_530 ?_
  refine th_topi (y := 1) (by decide) ?_
  refine lw_sld (j := 1) hx hb hX_1 (by decide) (by decide) (by decide) dL_law_531 ?_
  refine th_topi h1 ?_
  refine lv_aload_n hx hb dL_law_532 rfl (lv_at hl 3 rfl) ?_
  refine lv_iload_n hx hb dL_law_533 rfl (lv_at hl 0 rfl) ?_
  refine lv_iconst (v := 2) hx hb dL_law_534 (by decide) ?_
  refine lv_iadd hx hb dL_law_535 ?_
  refine th_topi (y := 2) (by decide) ?_
  refine lw_sld (j := 2) hx hb hX_1 (by decide) (by decide) (by decide) dL_law_536 ?_
  refine th_topi h2 ?_
  refine th_Vi (A := fun q => B ≤ q) (As := [.int 0, .int 16]) (rest := [.int (-4)]) E hml hl.1 (c_X12_end_v20 l D cI cS (tq B 178 186) (rq B) hWM H_1 hTM (B + 178) hτM ((hFM.2.2.2.2.1 16 (by decide)).trans (by decide))) lk_L_83 yd_X12_end hTM hτM rfl (by decide) ⟨rfl, fun _ _ => rfl, hS_1.2.2⟩ (fun q h => h.elim) ⟨Nat.le_of_ble_eq_true rfl, Nat.le_of_ble_eq_true rfl⟩ (Nat.le_of_ble_eq_true rfl) ⟨Nat.le_of_ble_eq_true rfl, Nat.le_of_ble_eq_true rfl⟩ rfl dL_law_537 (fun r_2 H_2 locs_2 p_2 hT_2 hk_2 hS_2 => ?_)
  refine th_topi (y := (-4)) (show ((-4) : Int32) = r_2 from p_2.2).symm ?_
  have hX_2 : va_X b 4 xs s H_2 := hX_1.kept (hS_2.2.1 b (Nat.not_le.mpr hbB))
  refine lv_icmp_eq (tgt := 766) hx hb dL_law_540 (by decide) (fun c_ => ?_) (fun c_ => absurd (by decide) c_)
  exact kk H_2 locs_2 hS_2.2.2 hX_2
set_option maxHeartbeats 4000000 in
set_option maxRecDepth 100000 in
theorem w_end_20 (E : EE p s m args c cL_law RL D cI cS) (hml : c.maxLocals = 4) (hl : lv_has ls 4 [(3, .int 0), (2, .ref (B + 178)), (1, .ref (B + 0)), (0, .ref b)]) (hWX : WF (tq B 0 178) (rq B)) (hWM : WF (tq B 178 186) (rq B)) (hTX : TH D cI cS (tq B 0 178) (rq B) H) (hFX : FX D B H) (hTM : TH D cI cS (tq B 178 186) (rq B) H) (hFM : FM D B H) (hX : va_X b 4 xs s H) (hbB : b < B) (hlo : ∀ x ∈ locs, B ≤ x.base) (h1 : xs 1 = 0) (h2 : xs 2 = 17) (kk : KL p l e s m args below meth c ls Q B b xs) : WL p l e s m args below meth c H locs ls Q 512 := by
  have hx := E.1
  have hb := E.2.1
  have hτX := ttX B
  have hτM := ttM B
  refine lv_aload_n hx hb dL_law_512 rfl (lv_at hl 2 rfl) ?_
  refine lv_aload_n hx hb dL_law_513 rfl (lv_at hl 3 rfl) ?_
  refine lv_iload_n hx hb dL_law_514 rfl (lv_at hl 0 rfl) ?_
  refine lv_iconst (v := 1) hx hb dL_law_515 (by decide) ?_
  refine lv_iadd hx hb dL_law_516 ?_
  refine th_topi (y := 1) (by decide) ?_
  refine lw_sld (j := 1) hx hb hX (by decide) (by decide) (by decide) dL_law_517 ?_
  refine th_topi h1 ?_
  refine lv_aload_n hx hb dL_law_518 rfl (lv_at hl 3 rfl) ?_
  refine lv_iload_n hx hb dL_law_519 rfl (lv_at hl 0 rfl) ?_
  refine lv_iconst (v := 2) hx hb dL_law_520 (by decide) ?_
  refine lv_iadd hx hb dL_law_521 ?_
  refine th_topi (y := 2) (by decide) ?_
  refine lw_sld (j := 2) hx hb hX (by decide) (by decide) (by decide) dL_law_522 ?_
  refine th_topi h2 ?_
  refine th_Vi (A := fun q => B ≤ q) (As := [.int 0, .int 17]) (rest := []) E hml hl.1 (c_X11_end_v21 l D cI cS (tq B 0 178) (rq B) hWX H hTX (B + 0) hτX hFX.2.2.2.2.2.2.2.2.2.2.2.2.2.2.2.2.2.2.2.2.1) lk_L_80 yd_X11_end hTX hτX rfl (by decide) ⟨rfl, fun _ _ => rfl, hlo⟩ (fun q h => h.elim) ⟨Nat.le_of_ble_eq_true rfl, Nat.le_of_ble_eq_true rfl⟩ (Nat.le_of_ble_eq_true rfl) ⟨Nat.le_of_ble_eq_true rfl, Nat.le_of_ble_eq_true rfl⟩ rfl dL_law_523 (fun r_1 H_1 locs_1 p_1 hT_1 hk_1 hS_1 => ?_)
  refine th_topi (y := (-4)) (show ((-4) : Int32) = r_1 from p_1.2).symm ?_
  have kM : ∀ q, B + 178 ≤ q → H_1[q]? = H[q]? := fun q hq => hk_1 q (fun h => h.elim)
  have hTM := hTM.same (H1 := H_1) (fun q t h => kM q (by obtain ⟨j, rfl, z1, -, -⟩ := tq_some h; omega))
  have hFM := hFM.kept (H1 := H_1) kM
  have hX_1 : va_X b 4 xs s H_1 := hX.kept (hS_1.2.1 b (Nat.not_le.mpr hbB))
  refine lv_aload_n hx hb dL_law_526 rfl (lv_at hl 1 rfl) ?_
  refine lv_aload_n hx hb dL_law_527 rfl (lv_at hl 3 rfl) ?_
  refine lv_iload_n hx hb dL_law_528 rfl (lv_at hl 0 rfl) ?_
  refine lv_iconst (v := 1) hx hb dL_law_529 (by decide) ?_
  refine lv_iadd hx hb dL_law_530 ?_
  refine th_topi (y := 1) (by decide) ?_
  refine lw_sld (j := 1) hx hb hX_1 (by decide) (by decide) (by decide) dL_law_531 ?_
  refine th_topi h1 ?_
  refine lv_aload_n hx hb dL_law_532 rfl (lv_at hl 3 rfl) ?_
  refine lv_iload_n hx hb dL_law_533 rfl (lv_at hl 0 rfl) ?_
  refine lv_iconst (v := 2) hx hb dL_law_534 (by decide) ?_
  refine lv_iadd hx hb dL_law_535 ?_
  refine th_topi (y := 2) (by decide) ?_
  refine lw_sld (j := 2) hx hb hX_1 (by decide) (by decide) (by decide) dL_law_536 ?_
  refine th_topi h2 ?_
  refine th_Vi (A := fun q => B ≤ q) (As := [.int 0, .int 17]) (rest := [.int (-4)]) E hml hl.1 (c_X12_end_v21 l D cI cS (tq B 178 186) (rq B) hWM H_1 hTM (B + 178) hτM ((hFM.2.2.2.2.1 17 (by decide)).trans (by decide))) lk_L_83 yd_X12_end hTM hτM rfl (by decide) ⟨rfl, fun _ _ => rfl, hS_1.2.2⟩ (fun q h => h.elim) ⟨Nat.le_of_ble_eq_true rfl, Nat.le_of_ble_eq_true rfl⟩ (Nat.le_of_ble_eq_true rfl) ⟨Nat.le_of_ble_eq_true rfl, Nat.le_of_ble_eq_true rfl⟩ rfl dL_law_537 (fun r_2 H_2 locs_2 p_2 hT_2 hk_2 hS_2 => ?_)
  refine th_topi (y := (-4)) (show ((-4) : Int32) = r_2 from p_2.2).symm ?_
  have hX_2 : va_X b 4 xs s H_2 := hX_1.kept (hS_2.2.1 b (Nat.not_le.mpr hbB))
  refine lv_icmp_eq (tgt := 766) hx hb dL_law_540 (by decide) (fun c_ => ?_) (fun c_ => absurd (by decide) c_)
  exact kk H_2 locs_2 hS_2.2.2 hX_2
set_option maxHeartbeats 4000000 in
set_option maxRecDepth 100000 in
theorem w_end_21 (E : EE p s m args c cL_law RL D cI cS) (hml : c.maxLocals = 4) (hl : lv_has ls 4 [(3, .int 0), (2, .ref (B + 178)), (1, .ref (B + 0)), (0, .ref b)]) (hWX : WF (tq B 0 178) (rq B)) (hWM : WF (tq B 178 186) (rq B)) (hTX : TH D cI cS (tq B 0 178) (rq B) H) (hFX : FX D B H) (hTM : TH D cI cS (tq B 178 186) (rq B) H) (hFM : FM D B H) (hX : va_X b 4 xs s H) (hbB : b < B) (hlo : ∀ x ∈ locs, B ≤ x.base) (h1 : xs 1 = 0) (l2 : 18 ≤ (xs 2).toInt) (kk : KL p l e s m args below meth c ls Q B b xs) : WL p l e s m args below meth c H locs ls Q 512 := by
  have hx := E.1
  have hb := E.2.1
  have hτX := ttX B
  have hτM := ttM B
  refine lv_aload_n hx hb dL_law_512 rfl (lv_at hl 2 rfl) ?_
  refine lv_aload_n hx hb dL_law_513 rfl (lv_at hl 3 rfl) ?_
  refine lv_iload_n hx hb dL_law_514 rfl (lv_at hl 0 rfl) ?_
  refine lv_iconst (v := 1) hx hb dL_law_515 (by decide) ?_
  refine lv_iadd hx hb dL_law_516 ?_
  refine th_topi (y := 1) (by decide) ?_
  refine lw_sld (j := 1) hx hb hX (by decide) (by decide) (by decide) dL_law_517 ?_
  refine th_topi h1 ?_
  refine lv_aload_n hx hb dL_law_518 rfl (lv_at hl 3 rfl) ?_
  refine lv_iload_n hx hb dL_law_519 rfl (lv_at hl 0 rfl) ?_
  refine lv_iconst (v := 2) hx hb dL_law_520 (by decide) ?_
  refine lv_iadd hx hb dL_law_521 ?_
  refine th_topi (y := 2) (by decide) ?_
  refine lw_sld (j := 2) hx hb hX (by decide) (by decide) (by decide) dL_law_522 ?_
  refine th_Vi (A := fun q => B ≤ q) (As := [.int 0, .int (xs 2)]) (rest := []) E hml hl.1 (c_X11_end_v22 l D cI cS (tq B 0 178) (rq B) hWX H hTX (B + 0) (xs 2) hτX l2) lk_L_80 yd_X11_end hTX hτX rfl (by decide) ⟨rfl, fun _ _ => rfl, hlo⟩ (fun q h => h.elim) ⟨Nat.le_of_ble_eq_true rfl, Nat.le_of_ble_eq_true rfl⟩ (Nat.le_of_ble_eq_true rfl) ⟨Nat.le_of_ble_eq_true rfl, Nat.le_of_ble_eq_true rfl⟩ rfl dL_law_523 (fun r_1 H_1 locs_1 p_1 hT_1 hk_1 hS_1 => ?_)
  refine th_topi (y := (-1)) (show ((-1) : Int32) = r_1 from p_1.2).symm ?_
  have kM : ∀ q, B + 178 ≤ q → H_1[q]? = H[q]? := fun q hq => hk_1 q (fun h => h.elim)
  have hTM := hTM.same (H1 := H_1) (fun q t h => kM q (by obtain ⟨j, rfl, z1, -, -⟩ := tq_some h; omega))
  have hFM := hFM.kept (H1 := H_1) kM
  have hX_1 : va_X b 4 xs s H_1 := hX.kept (hS_1.2.1 b (Nat.not_le.mpr hbB))
  refine lv_aload_n hx hb dL_law_526 rfl (lv_at hl 1 rfl) ?_
  refine lv_aload_n hx hb dL_law_527 rfl (lv_at hl 3 rfl) ?_
  refine lv_iload_n hx hb dL_law_528 rfl (lv_at hl 0 rfl) ?_
  refine lv_iconst (v := 1) hx hb dL_law_529 (by decide) ?_
  refine lv_iadd hx hb dL_law_530 ?_
  refine th_topi (y := 1) (by decide) ?_
  refine lw_sld (j := 1) hx hb hX_1 (by decide) (by decide) (by decide) dL_law_531 ?_
  refine th_topi h1 ?_
  refine lv_aload_n hx hb dL_law_532 rfl (lv_at hl 3 rfl) ?_
  refine lv_iload_n hx hb dL_law_533 rfl (lv_at hl 0 rfl) ?_
  refine lv_iconst (v := 2) hx hb dL_law_534 (by decide) ?_
  refine lv_iadd hx hb dL_law_535 ?_
  refine th_topi (y := 2) (by decide) ?_
  refine lw_sld (j := 2) hx hb hX_1 (by decide) (by decide) (by decide) dL_law_536 ?_
  refine th_Vi (A := fun q => B ≤ q) (As := [.int 0, .int (xs 2)]) (rest := [.int (-1)]) E hml hl.1 (c_X12_end_v22 l D cI cS (tq B 178 186) (rq B) hWM H_1 hTM (B + 178) (xs 2) hτM l2) lk_L_83 yd_X12_end hTM hτM rfl (by decide) ⟨rfl, fun _ _ => rfl, hS_1.2.2⟩ (fun q h => h.elim) ⟨Nat.le_of_ble_eq_true rfl, Nat.le_of_ble_eq_true rfl⟩ (Nat.le_of_ble_eq_true rfl) ⟨Nat.le_of_ble_eq_true rfl, Nat.le_of_ble_eq_true rfl⟩ rfl dL_law_537 (fun r_2 H_2 locs_2 p_2 hT_2 hk_2 hS_2 => ?_)
  refine th_topi (y := (-1)) (show ((-1) : Int32) = r_2 from p_2.2).symm ?_
  have hX_2 : va_X b 4 xs s H_2 := hX_1.kept (hS_2.2.1 b (Nat.not_le.mpr hbB))
  refine lv_icmp_eq (tgt := 766) hx hb dL_law_540 (by decide) (fun c_ => ?_) (fun c_ => absurd (by decide) c_)
  exact kk H_2 locs_2 hS_2.2.2 hX_2
set_option maxHeartbeats 4000000 in
set_option maxRecDepth 100000 in
theorem w_end_22 (E : EE p s m args c cL_law RL D cI cS) (hml : c.maxLocals = 4) (hl : lv_has ls 4 [(3, .int 0), (2, .ref (B + 178)), (1, .ref (B + 0)), (0, .ref b)]) (hWX : WF (tq B 0 178) (rq B)) (hWM : WF (tq B 178 186) (rq B)) (hTX : TH D cI cS (tq B 0 178) (rq B) H) (hFX : FX D B H) (hTM : TH D cI cS (tq B 178 186) (rq B) H) (hFM : FM D B H) (hX : va_X b 4 xs s H) (hbB : b < B) (hlo : ∀ x ∈ locs, B ≤ x.base) (h1 : xs 1 = 1) (g2 : (xs 2).toInt ≤ -1) (kk : KL p l e s m args below meth c ls Q B b xs) : WL p l e s m args below meth c H locs ls Q 512 := by
  have hx := E.1
  have hb := E.2.1
  have hτX := ttX B
  have hτM := ttM B
  refine lv_aload_n hx hb dL_law_512 rfl (lv_at hl 2 rfl) ?_
  refine lv_aload_n hx hb dL_law_513 rfl (lv_at hl 3 rfl) ?_
  refine lv_iload_n hx hb dL_law_514 rfl (lv_at hl 0 rfl) ?_
  refine lv_iconst (v := 1) hx hb dL_law_515 (by decide) ?_
  refine lv_iadd hx hb dL_law_516 ?_
  refine th_topi (y := 1) (by decide) ?_
  refine lw_sld (j := 1) hx hb hX (by decide) (by decide) (by decide) dL_law_517 ?_
  refine th_topi h1 ?_
  refine lv_aload_n hx hb dL_law_518 rfl (lv_at hl 3 rfl) ?_
  refine lv_iload_n hx hb dL_law_519 rfl (lv_at hl 0 rfl) ?_
  refine lv_iconst (v := 2) hx hb dL_law_520 (by decide) ?_
  refine lv_iadd hx hb dL_law_521 ?_
  refine th_topi (y := 2) (by decide) ?_
  refine lw_sld (j := 2) hx hb hX (by decide) (by decide) (by decide) dL_law_522 ?_
  refine th_Vi (A := fun q => B ≤ q) (As := [.int 1, .int (xs 2)]) (rest := []) E hml hl.1 (c_X11_end_v23 l D cI cS (tq B 0 178) (rq B) hWX H hTX (B + 0) (xs 2) hτX g2) lk_L_80 yd_X11_end hTX hτX rfl (by decide) ⟨rfl, fun _ _ => rfl, hlo⟩ (fun q h => h.elim) ⟨Nat.le_of_ble_eq_true rfl, Nat.le_of_ble_eq_true rfl⟩ (Nat.le_of_ble_eq_true rfl) ⟨Nat.le_of_ble_eq_true rfl, Nat.le_of_ble_eq_true rfl⟩ rfl dL_law_523 (fun r_1 H_1 locs_1 p_1 hT_1 hk_1 hS_1 => ?_)
  refine th_topi (y := (-1)) (show ((-1) : Int32) = r_1 from p_1.2).symm ?_
  have kM : ∀ q, B + 178 ≤ q → H_1[q]? = H[q]? := fun q hq => hk_1 q (fun h => h.elim)
  have hTM := hTM.same (H1 := H_1) (fun q t h => kM q (by obtain ⟨j, rfl, z1, -, -⟩ := tq_some h; omega))
  have hFM := hFM.kept (H1 := H_1) kM
  have hX_1 : va_X b 4 xs s H_1 := hX.kept (hS_1.2.1 b (Nat.not_le.mpr hbB))
  refine lv_aload_n hx hb dL_law_526 rfl (lv_at hl 1 rfl) ?_
  refine lv_aload_n hx hb dL_law_527 rfl (lv_at hl 3 rfl) ?_
  refine lv_iload_n hx hb dL_law_528 rfl (lv_at hl 0 rfl) ?_
  refine lv_iconst (v := 1) hx hb dL_law_529 (by decide) ?_
  refine lv_iadd hx hb dL_law_530 ?_
  refine th_topi (y := 1) (by decide) ?_
  refine lw_sld (j := 1) hx hb hX_1 (by decide) (by decide) (by decide) dL_law_531 ?_
  refine th_topi h1 ?_
  refine lv_aload_n hx hb dL_law_532 rfl (lv_at hl 3 rfl) ?_
  refine lv_iload_n hx hb dL_law_533 rfl (lv_at hl 0 rfl) ?_
  refine lv_iconst (v := 2) hx hb dL_law_534 (by decide) ?_
  refine lv_iadd hx hb dL_law_535 ?_
  refine th_topi (y := 2) (by decide) ?_
  refine lw_sld (j := 2) hx hb hX_1 (by decide) (by decide) (by decide) dL_law_536 ?_
  refine th_Vi (A := fun q => B ≤ q) (As := [.int 1, .int (xs 2)]) (rest := [.int (-1)]) E hml hl.1 (c_X12_end_v23 l D cI cS (tq B 178 186) (rq B) hWM H_1 hTM (B + 178) (xs 2) hτM g2) lk_L_83 yd_X12_end hTM hτM rfl (by decide) ⟨rfl, fun _ _ => rfl, hS_1.2.2⟩ (fun q h => h.elim) ⟨Nat.le_of_ble_eq_true rfl, Nat.le_of_ble_eq_true rfl⟩ (Nat.le_of_ble_eq_true rfl) ⟨Nat.le_of_ble_eq_true rfl, Nat.le_of_ble_eq_true rfl⟩ rfl dL_law_537 (fun r_2 H_2 locs_2 p_2 hT_2 hk_2 hS_2 => ?_)
  refine th_topi (y := (-1)) (show ((-1) : Int32) = r_2 from p_2.2).symm ?_
  have hX_2 : va_X b 4 xs s H_2 := hX_1.kept (hS_2.2.1 b (Nat.not_le.mpr hbB))
  refine lv_icmp_eq (tgt := 766) hx hb dL_law_540 (by decide) (fun c_ => ?_) (fun c_ => absurd (by decide) c_)
  exact kk H_2 locs_2 hS_2.2.2 hX_2
set_option maxHeartbeats 4000000 in
set_option maxRecDepth 100000 in
theorem w_end_23 (E : EE p s m args c cL_law RL D cI cS) (hml : c.maxLocals = 4) (hl : lv_has ls 4 [(3, .int 0), (2, .ref (B + 178)), (1, .ref (B + 0)), (0, .ref b)]) (hWX : WF (tq B 0 178) (rq B)) (hWM : WF (tq B 178 186) (rq B)) (hTX : TH D cI cS (tq B 0 178) (rq B) H) (hFX : FX D B H) (hTM : TH D cI cS (tq B 178 186) (rq B) H) (hFM : FM D B H) (hX : va_X b 4 xs s H) (hbB : b < B) (hlo : ∀ x ∈ locs, B ≤ x.base) (h1 : xs 1 = 1) (h2 : xs 2 = 0) (kk : KL p l e s m args below meth c ls Q B b xs) : WL p l e s m args below meth c H locs ls Q 512 := by
  have hx := E.1
  have hb := E.2.1
  have hτX := ttX B
  have hτM := ttM B
  refine lv_aload_n hx hb dL_law_512 rfl (lv_at hl 2 rfl) ?_
  refine lv_aload_n hx hb dL_law_513 rfl (lv_at hl 3 rfl) ?_
  refine lv_iload_n hx hb dL_law_514 rfl (lv_at hl 0 rfl) ?_
  refine lv_iconst (v := 1) hx hb dL_law_515 (by decide) ?_
  refine lv_iadd hx hb dL_law_516 ?_
  refine th_topi (y := 1) (by decide) ?_
  refine lw_sld (j := 1) hx hb hX (by decide) (by decide) (by decide) dL_law_517 ?_
  refine th_topi h1 ?_
  refine lv_aload_n hx hb dL_law_518 rfl (lv_at hl 3 rfl) ?_
  refine lv_iload_n hx hb dL_law_519 rfl (lv_at hl 0 rfl) ?_
  refine lv_iconst (v := 2) hx hb dL_law_520 (by decide) ?_
  refine lv_iadd hx hb dL_law_521 ?_
  refine th_topi (y := 2) (by decide) ?_
  refine lw_sld (j := 2) hx hb hX (by decide) (by decide) (by decide) dL_law_522 ?_
  refine th_topi h2 ?_
  refine th_Vi (A := fun q => B ≤ q) (As := [.int 1, .int 0]) (rest := []) E hml hl.1 (c_X11_end_v24 l D cI cS (tq B 0 178) (rq B) hWX H hTX (B + 0) hτX hFX.2.2.2.2.2.2.2.2.2.2.2.2.2.2.2.2.2.2.2.2.2.2.2.2.2.2.2.2.2.2.2.2.2.2.2.2.2.2.2.2.2.2.2.2.2.2.2.2.2.2.2.2.1) lk_L_80 yd_X11_end hTX hτX rfl (by decide) ⟨rfl, fun _ _ => rfl, hlo⟩ (fun q h => h.elim) ⟨Nat.le_of_ble_eq_true rfl, Nat.le_of_ble_eq_true rfl⟩ (Nat.le_of_ble_eq_true rfl) ⟨Nat.le_of_ble_eq_true rfl, Nat.le_of_ble_eq_true rfl⟩ rfl dL_law_523 (fun r_1 H_1 locs_1 p_1 hT_1 hk_1 hS_1 => ?_)
  refine th_topi (y := 0) (show (0 : Int32) = r_1 from p_1.2).symm ?_
  have kM : ∀ q, B + 178 ≤ q → H_1[q]? = H[q]? := fun q hq => hk_1 q (fun h => h.elim)
  have hTM := hTM.same (H1 := H_1) (fun q t h => kM q (by obtain ⟨j, rfl, z1, -, -⟩ := tq_some h; omega))
  have hFM := hFM.kept (H1 := H_1) kM
  have hX_1 : va_X b 4 xs s H_1 := hX.kept (hS_1.2.1 b (Nat.not_le.mpr hbB))
  refine lv_aload_n hx hb dL_law_526 rfl (lv_at hl 1 rfl) ?_
  refine lv_aload_n hx hb dL_law_527 rfl (lv_at hl 3 rfl) ?_
  refine lv_iload_n hx hb dL_law_528 rfl (lv_at hl 0 rfl) ?_
  refine lv_iconst (v := 1) hx hb dL_law_529 (by decide) ?_
  refine lv_iadd hx hb dL_law_530 ?_
  refine th_topi (y := 1) (by decide) ?_
  refine lw_sld (j := 1) hx hb hX_1 (by decide) (by decide) (by decide) dL_law_531 ?_
  refine th_topi h1 ?_
  refine lv_aload_n hx hb dL_law_532 rfl (lv_at hl 3 rfl) ?_
  refine lv_iload_n hx hb dL_law_533 rfl (lv_at hl 0 rfl) ?_
  refine lv_iconst (v := 2) hx hb dL_law_534 (by decide) ?_
  refine lv_iadd hx hb dL_law_535 ?_
  refine th_topi (y := 2) (by decide) ?_
  refine lw_sld (j := 2) hx hb hX_1 (by decide) (by decide) (by decide) dL_law_536 ?_
  refine th_topi h2 ?_
  refine th_Vi (A := fun q => B ≤ q) (As := [.int 1, .int 0]) (rest := [.int 0]) E hml hl.1 (c_X12_end_v24 l D cI cS (tq B 178 186) (rq B) hWM H_1 hTM (B + 178) hτM ((hFM.2.2.2.2.1 288 (by decide)).trans (by decide))) lk_L_83 yd_X12_end hTM hτM rfl (by decide) ⟨rfl, fun _ _ => rfl, hS_1.2.2⟩ (fun q h => h.elim) ⟨Nat.le_of_ble_eq_true rfl, Nat.le_of_ble_eq_true rfl⟩ (Nat.le_of_ble_eq_true rfl) ⟨Nat.le_of_ble_eq_true rfl, Nat.le_of_ble_eq_true rfl⟩ rfl dL_law_537 (fun r_2 H_2 locs_2 p_2 hT_2 hk_2 hS_2 => ?_)
  refine th_topi (y := 0) (show (0 : Int32) = r_2 from p_2.2).symm ?_
  have hX_2 : va_X b 4 xs s H_2 := hX_1.kept (hS_2.2.1 b (Nat.not_le.mpr hbB))
  refine lv_icmp_eq (tgt := 766) hx hb dL_law_540 (by decide) (fun c_ => ?_) (fun c_ => absurd (by decide) c_)
  exact kk H_2 locs_2 hS_2.2.2 hX_2
set_option maxHeartbeats 4000000 in
set_option maxRecDepth 100000 in
theorem w_end_24 (E : EE p s m args c cL_law RL D cI cS) (hml : c.maxLocals = 4) (hl : lv_has ls 4 [(3, .int 0), (2, .ref (B + 178)), (1, .ref (B + 0)), (0, .ref b)]) (hWX : WF (tq B 0 178) (rq B)) (hWM : WF (tq B 178 186) (rq B)) (hTX : TH D cI cS (tq B 0 178) (rq B) H) (hFX : FX D B H) (hTM : TH D cI cS (tq B 178 186) (rq B) H) (hFM : FM D B H) (hX : va_X b 4 xs s H) (hbB : b < B) (hlo : ∀ x ∈ locs, B ≤ x.base) (h1 : xs 1 = 1) (h2 : xs 2 = 1) (kk : KL p l e s m args below meth c ls Q B b xs) : WL p l e s m args below meth c H locs ls Q 512 := by
  have hx := E.1
  have hb := E.2.1
  have hτX := ttX B
  have hτM := ttM B
  refine lv_aload_n hx hb dL_law_512 rfl (lv_at hl 2 rfl) ?_
  refine lv_aload_n hx hb dL_law_513 rfl (lv_at hl 3 rfl) ?_
  refine lv_iload_n hx hb dL_law_514 rfl (lv_at hl 0 rfl) ?_
  refine lv_iconst (v := 1) hx hb dL_law_515 (by decide) ?_
  refine lv_iadd hx hb dL_law_516 ?_
  refine th_topi (y := 1) (by decide) ?_
  refine lw_sld (j := 1) hx hb hX (by decide) (by decide) (by decide) dL_law_517 ?_
  refine th_topi h1 ?_
  refine lv_aload_n hx hb dL_law_518 rfl (lv_at hl 3 rfl) ?_
  refine lv_iload_n hx hb dL_law_519 rfl (lv_at hl 0 rfl) ?_
  refine lv_iconst (v := 2) hx hb dL_law_520 (by decide) ?_
  refine lv_iadd hx hb dL_law_521 ?_
  refine th_topi (y := 2) (by decide) ?_
  refine lw_sld (j := 2) hx hb hX (by decide) (by decide) (by decide) dL_law_522 ?_
  refine th_topi h2 ?_
  refine th_Vi (A := fun q => B ≤ q) (As := [.int 1, .int 1]) (rest := []) E hml hl.1 (c_X11_end_v25 l D cI cS (tq B 0 178) (rq B) hWX H hTX (B + 0) hτX hFX.2.2.2.2.2.2.2.2.2.2.2.2.2.2.2.2.2.2.2.2.2.2.2.2.2.2.2.2.2.2.2.2.2.2.2.2.2.2.2.2.2.2.2.2.2.1) lk_L_80 yd_X11_end hTX hτX rfl (by decide) ⟨rfl, fun _ _ => rfl, hlo⟩ (fun q h => h.elim) ⟨Nat.le_of_ble_eq_true rfl, Nat.le_of_ble_eq_true rfl⟩ (Nat.le_of_ble_eq_true rfl) ⟨Nat.le_of_ble_eq_true rfl, Nat.le_of_ble_eq_true rfl⟩ rfl dL_law_523 (fun r_1 H_1 locs_1 p_1 hT_1 hk_1 hS_1 => ?_)
  refine th_topi (y := 0) (show (0 : Int32) = r_1 from p_1.2).symm ?_
  have kM : ∀ q, B + 178 ≤ q → H_1[q]? = H[q]? := fun q hq => hk_1 q (fun h => h.elim)
  have hTM := hTM.same (H1 := H_1) (fun q t h => kM q (by obtain ⟨j, rfl, z1, -, -⟩ := tq_some h; omega))
  have hFM := hFM.kept (H1 := H_1) kM
  have hX_1 : va_X b 4 xs s H_1 := hX.kept (hS_1.2.1 b (Nat.not_le.mpr hbB))
  refine lv_aload_n hx hb dL_law_526 rfl (lv_at hl 1 rfl) ?_
  refine lv_aload_n hx hb dL_law_527 rfl (lv_at hl 3 rfl) ?_
  refine lv_iload_n hx hb dL_law_528 rfl (lv_at hl 0 rfl) ?_
  refine lv_iconst (v := 1) hx hb dL_law_529 (by decide) ?_
  refine lv_iadd hx hb dL_law_530 ?_
  refine th_topi (y := 1) (by decide) ?_
  refine lw_sld (j := 1) hx hb hX_1 (by decide) (by decide) (by decide) dL_law_531 ?_
  refine th_topi h1 ?_
  refine lv_aload_n hx hb dL_law_532 rfl (lv_at hl 3 rfl) ?_
  refine lv_iload_n hx hb dL_law_533 rfl (lv_at hl 0 rfl) ?_
  refine lv_iconst (v := 2) hx hb dL_law_534 (by decide) ?_
  refine lv_iadd hx hb dL_law_535 ?_
  refine th_topi (y := 2) (by decide) ?_
  refine lw_sld (j := 2) hx hb hX_1 (by decide) (by decide) (by decide) dL_law_536 ?_
  refine th_topi h2 ?_
  refine th_Vi (A := fun q => B ≤ q) (As := [.int 1, .int 1]) (rest := [.int 0]) E hml hl.1 (c_X12_end_v25 l D cI cS (tq B 178 186) (rq B) hWM H_1 hTM (B + 178) hτM ((hFM.2.2.2.2.1 289 (by decide)).trans (by decide))) lk_L_83 yd_X12_end hTM hτM rfl (by decide) ⟨rfl, fun _ _ => rfl, hS_1.2.2⟩ (fun q h => h.elim) ⟨Nat.le_of_ble_eq_true rfl, Nat.le_of_ble_eq_true rfl⟩ (Nat.le_of_ble_eq_true rfl) ⟨Nat.le_of_ble_eq_true rfl, Nat.le_of_ble_eq_true rfl⟩ rfl dL_law_537 (fun r_2 H_2 locs_2 p_2 hT_2 hk_2 hS_2 => ?_)
  refine th_topi (y := 0) (show (0 : Int32) = r_2 from p_2.2).symm ?_
  have hX_2 : va_X b 4 xs s H_2 := hX_1.kept (hS_2.2.1 b (Nat.not_le.mpr hbB))
  refine lv_icmp_eq (tgt := 766) hx hb dL_law_540 (by decide) (fun c_ => ?_) (fun c_ => absurd (by decide) c_)
  exact kk H_2 locs_2 hS_2.2.2 hX_2
set_option maxHeartbeats 4000000 in
set_option maxRecDepth 100000 in
theorem w_end_25 (E : EE p s m args c cL_law RL D cI cS) (hml : c.maxLocals = 4) (hl : lv_has ls 4 [(3, .int 0), (2, .ref (B + 178)), (1, .ref (B + 0)), (0, .ref b)]) (hWX : WF (tq B 0 178) (rq B)) (hWM : WF (tq B 178 186) (rq B)) (hTX : TH D cI cS (tq B 0 178) (rq B) H) (hFX : FX D B H) (hTM : TH D cI cS (tq B 178 186) (rq B) H) (hFM : FM D B H) (hX : va_X b 4 xs s H) (hbB : b < B) (hlo : ∀ x ∈ locs, B ≤ x.base) (h1 : xs 1 = 1) (h2 : xs 2 = 2) (kk : KL p l e s m args below meth c ls Q B b xs) : WL p l e s m args below meth c H locs ls Q 512 := by
  have hx := E.1
  have hb := E.2.1
  have hτX := ttX B
  have hτM := ttM B
  refine lv_aload_n hx hb dL_law_512 rfl (lv_at hl 2 rfl) ?_
  refine lv_aload_n hx hb dL_law_513 rfl (lv_at hl 3 rfl) ?_
  refine lv_iload_n hx hb dL_law_514 rfl (lv_at hl 0 rfl) ?_
  refine lv_iconst (v := 1) hx hb dL_law_515 (by decide) ?_
  refine lv_iadd hx hb dL_law_516 ?_
  refine th_topi (y := 1) (by decide) ?_
  refine lw_sld (j := 1) hx hb hX (by decide) (by decide) (by decide) dL_law_517 ?_
  refine th_topi h1 ?_
  refine lv_aload_n hx hb dL_law_518 rfl (lv_at hl 3 rfl) ?_
  refine lv_iload_n hx hb dL_law_519 rfl (lv_at hl 0 rfl) ?_
  refine lv_iconst (v := 2) hx hb dL_law_520 (by decide) ?_
  refine lv_iadd hx hb dL_law_521 ?_
  refine th_topi (y := 2) (by decide) ?_
  refine lw_sld (j := 2) hx hb hX (by decide) (by decide) (by decide) dL_law_522 ?_
  refine th_topi h2 ?_
  refine th_Vi (A := fun q => B ≤ q) (As := [.int 1, .int 2]) (rest := []) E hml hl.1 (c_X11_end_v26 l D cI cS (tq B 0 178) (rq B) hWX H hTX (B + 0) hτX hFX.2.2.2.2.2.2.2.2.2.2.2.2.2.2.2.2.2.2.2.2.2.2.2.2.2.2.2.2.2.2.2.2.2.2.2.2.2.2.2.2.2.2.2.2.2.2.1) lk_L_80 yd_X11_end hTX hτX rfl (by decide) ⟨rfl, fun _ _ => rfl, hlo⟩ (fun q h => h.elim) ⟨Nat.le_of_ble_eq_true rfl, Nat.le_of_ble_eq_true rfl⟩ (Nat.le_of_ble_eq_true rfl) ⟨Nat.le_of_ble_eq_true rfl, Nat.le_of_ble_eq_true rfl⟩ rfl dL_law_523 (fun r_1 H_1 locs_1 p_1 hT_1 hk_1 hS_1 => ?_)
  refine th_topi (y := 0) (show (0 : Int32) = r_1 from p_1.2).symm ?_
  have kM : ∀ q, B + 178 ≤ q → H_1[q]? = H[q]? := fun q hq => hk_1 q (fun h => h.elim)
  have hTM := hTM.same (H1 := H_1) (fun q t h => kM q (by obtain ⟨j, rfl, z1, -, -⟩ := tq_some h; omega))
  have hFM := hFM.kept (H1 := H_1) kM
  have hX_1 : va_X b 4 xs s H_1 := hX.kept (hS_1.2.1 b (Nat.not_le.mpr hbB))
  refine lv_aload_n hx hb dL_law_526 rfl (lv_at hl 1 rfl) ?_
  refine lv_aload_n hx hb dL_law_527 rfl (lv_at hl 3 rfl) ?_
  refine lv_iload_n hx hb dL_law_528 rfl (lv_at hl 0 rfl) ?_
  refine lv_iconst (v := 1) hx hb dL_law_529 (by decide) ?_
  refine lv_iadd hx hb dL_law_530 ?_
  refine th_topi (y := 1) (by decide) ?_
  refine lw_sld (j := 1) hx hb hX_1 (by decide) (by decide) (by decide) dL_law_531 ?_
  refine th_topi h1 ?_
  refine lv_aload_n hx hb dL_law_532 rfl (lv_at hl 3 rfl) ?_
  refine lv_iload_n hx hb dL_law_533 rfl (lv_at hl 0 rfl) ?_
  refine lv_iconst (v := 2) hx hb dL_law_534 (by decide) ?_
  refine lv_iadd hx hb dL_law_535 ?_
  refine th_topi (y := 2) (by decide) ?_
  refine lw_sld (j := 2) hx hb hX_1 (by decide) (by decide) (by decide) dL_law_536 ?_
  refine th_topi h2 ?_
  refine th_Vi (A := fun q => B ≤ q) (As := [.int 1, .int 2]) (rest := [.int 0]) E hml hl.1 (c_X12_end_v26 l D cI cS (tq B 178 186) (rq B) hWM H_1 hTM (B + 178) hτM ((hFM.2.2.2.2.1 290 (by decide)).trans (by decide))) lk_L_83 yd_X12_end hTM hτM rfl (by decide) ⟨rfl, fun _ _ => rfl, hS_1.2.2⟩ (fun q h => h.elim) ⟨Nat.le_of_ble_eq_true rfl, Nat.le_of_ble_eq_true rfl⟩ (Nat.le_of_ble_eq_true rfl) ⟨Nat.le_of_ble_eq_true rfl, Nat.le_of_ble_eq_true rfl⟩ rfl dL_law_537 (fun r_2 H_2 locs_2 p_2 hT_2 hk_2 hS_2 => ?_)
  refine th_topi (y := 0) (show (0 : Int32) = r_2 from p_2.2).symm ?_
  have hX_2 : va_X b 4 xs s H_2 := hX_1.kept (hS_2.2.1 b (Nat.not_le.mpr hbB))
  refine lv_icmp_eq (tgt := 766) hx hb dL_law_540 (by decide) (fun c_ => ?_) (fun c_ => absurd (by decide) c_)
  exact kk H_2 locs_2 hS_2.2.2 hX_2
set_option maxHeartbeats 4000000 in
set_option maxRecDepth 100000 in
theorem w_end_26 (E : EE p s m args c cL_law RL D cI cS) (hml : c.maxLocals = 4) (hl : lv_has ls 4 [(3, .int 0), (2, .ref (B + 178)), (1, .ref (B + 0)), (0, .ref b)]) (hWX : WF (tq B 0 178) (rq B)) (hWM : WF (tq B 178 186) (rq B)) (hTX : TH D cI cS (tq B 0 178) (rq B) H) (hFX : FX D B H) (hTM : TH D cI cS (tq B 178 186) (rq B) H) (hFM : FM D B H) (hX : va_X b 4 xs s H) (hbB : b < B) (hlo : ∀ x ∈ locs, B ≤ x.base) (h1 : xs 1 = 1) (h2 : xs 2 = 3) (kk : KL p l e s m args below meth c ls Q B b xs) : WL p l e s m args below meth c H locs ls Q 512 := by
  have hx := E.1
  have hb := E.2.1
  have hτX := ttX B
  have hτM := ttM B
  refine lv_aload_n hx hb dL_law_512 rfl (lv_at hl 2 rfl) ?_
  refine lv_aload_n hx hb dL_law_513 rfl (lv_at hl 3 rfl) ?_
  refine lv_iload_n hx hb dL_law_514 rfl (lv_at hl 0 rfl) ?_
  refine lv_iconst (v := 1) hx hb dL_law_515 (by decide) ?_
  refine lv_iadd hx hb dL_law_516 ?_
  refine th_topi (y := 1) (by decide) ?_
  refine lw_sld (j := 1) hx hb hX (by decide) (by decide) (by decide) dL_law_517 ?_
  refine th_topi h1 ?_
  refine lv_aload_n hx hb dL_law_518 rfl (lv_at hl 3 rfl) ?_
  refine lv_iload_n hx hb dL_law_519 rfl (lv_at hl 0 rfl) ?_
  refine lv_iconst (v := 2) hx hb dL_law_520 (by decide) ?_
  refine lv_iadd hx hb dL_law_521 ?_
  refine th_topi (y := 2) (by decide) ?_
  refine lw_sld (j := 2) hx hb hX (by decide) (by decide) (by decide) dL_law_522 ?_
  refine th_topi h2 ?_
  refine th_Vi (A := fun q => B ≤ q) (As := [.int 1, .int 3]) (rest := []) E hml hl.1 (c_X11_end_v27 l D cI cS (tq B 0 178) (rq B) hWX H hTX (B + 0) hτX hFX.2.2.2.2.2.2.2.2.2.2.2.2.2.2.2.2.2.2.2.2.2.2.2.2.2.2.2.2.2.2.2.2.2.2.2.2.2.2.2.2.2.2.2.2.2.2.2.1) lk_L_80 yd_X11_end hTX hτX rfl (by decide) ⟨rfl, fun _ _ => rfl, hlo⟩ (fun q h => h.elim) ⟨Nat.le_of_ble_eq_true rfl, Nat.le_of_ble_eq_true rfl⟩ (Nat.le_of_ble_eq_true rfl) ⟨Nat.le_of_ble_eq_true rfl, Nat.le_of_ble_eq_true rfl⟩ rfl dL_law_523 (fun r_1 H_1 locs_1 p_1 hT_1 hk_1 hS_1 => ?_)
  refine th_topi (y := 1) (show (1 : Int32) = r_1 from p_1.2).symm ?_
  have kM : ∀ q, B + 178 ≤ q → H_1[q]? = H[q]? := fun q hq => hk_1 q (fun h => h.elim)
  have hTM := hTM.same (H1 := H_1) (fun q t h => kM q (by obtain ⟨j, rfl, z1, -, -⟩ := tq_some h; omega))
  have hFM := hFM.kept (H1 := H_1) kM
  have hX_1 : va_X b 4 xs s H_1 := hX.kept (hS_1.2.1 b (Nat.not_le.mpr hbB))
  refine lv_aload_n hx hb dL_law_526 rfl (lv_at hl 1 rfl) ?_
  refine lv_aload_n hx hb dL_law_527 rfl (lv_at hl 3 rfl) ?_
  refine lv_iload_n hx hb dL_law_528 rfl (lv_at hl 0 rfl) ?_
  refine lv_iconst (v := 1) hx hb dL_law_529 (by decide) ?_
  refine lv_iadd hx hb dL_law_530 ?_
  refine th_topi (y := 1) (by decide) ?_
  refine lw_sld (j := 1) hx hb hX_1 (by decide) (by decide) (by decide) dL_law_531 ?_
  refine th_topi h1 ?_
  refine lv_aload_n hx hb dL_law_532 rfl (lv_at hl 3 rfl) ?_
  refine lv_iload_n hx hb dL_law_533 rfl (lv_at hl 0 rfl) ?_
  refine lv_iconst (v := 2) hx hb dL_law_534 (by decide) ?_
  refine lv_iadd hx hb dL_law_535 ?_
  refine th_topi (y := 2) (by decide) ?_
  refine lw_sld (j := 2) hx hb hX_1 (by decide) (by decide) (by decide) dL_law_536 ?_
  refine th_topi h2 ?_
  refine th_Vi (A := fun q => B ≤ q) (As := [.int 1, .int 3]) (rest := [.int 1]) E hml hl.1 (c_X12_end_v27 l D cI cS (tq B 178 186) (rq B) hWM H_1 hTM (B + 178) hτM ((hFM.2.2.2.2.1 291 (by decide)).trans (by decide))) lk_L_83 yd_X12_end hTM hτM rfl (by decide) ⟨rfl, fun _ _ => rfl, hS_1.2.2⟩ (fun q h => h.elim) ⟨Nat.le_of_ble_eq_true rfl, Nat.le_of_ble_eq_true rfl⟩ (Nat.le_of_ble_eq_true rfl) ⟨Nat.le_of_ble_eq_true rfl, Nat.le_of_ble_eq_true rfl⟩ rfl dL_law_537 (fun r_2 H_2 locs_2 p_2 hT_2 hk_2 hS_2 => ?_)
  refine th_topi (y := 1) (show (1 : Int32) = r_2 from p_2.2).symm ?_
  have hX_2 : va_X b 4 xs s H_2 := hX_1.kept (hS_2.2.1 b (Nat.not_le.mpr hbB))
  refine lv_icmp_eq (tgt := 766) hx hb dL_law_540 (by decide) (fun c_ => ?_) (fun c_ => absurd (by decide) c_)
  exact kk H_2 locs_2 hS_2.2.2 hX_2
set_option maxHeartbeats 4000000 in
set_option maxRecDepth 100000 in
theorem w_end_27 (E : EE p s m args c cL_law RL D cI cS) (hml : c.maxLocals = 4) (hl : lv_has ls 4 [(3, .int 0), (2, .ref (B + 178)), (1, .ref (B + 0)), (0, .ref b)]) (hWX : WF (tq B 0 178) (rq B)) (hWM : WF (tq B 178 186) (rq B)) (hTX : TH D cI cS (tq B 0 178) (rq B) H) (hFX : FX D B H) (hTM : TH D cI cS (tq B 178 186) (rq B) H) (hFM : FM D B H) (hX : va_X b 4 xs s H) (hbB : b < B) (hlo : ∀ x ∈ locs, B ≤ x.base) (h1 : xs 1 = 1) (h2 : xs 2 = 4) (kk : KL p l e s m args below meth c ls Q B b xs) : WL p l e s m args below meth c H locs ls Q 512 := by
  have hx := E.1
  have hb := E.2.1
  have hτX := ttX B
  have hτM := ttM B
  refine lv_aload_n hx hb dL_law_512 rfl (lv_at hl 2 rfl) ?_
  refine lv_aload_n hx hb dL_law_513 rfl (lv_at hl 3 rfl) ?_
  refine lv_iload_n hx hb dL_law_514 rfl (lv_at hl 0 rfl) ?_
  refine lv_iconst (v := 1) hx hb dL_law_515 (by decide) ?_
  refine lv_iadd hx hb dL_law_516 ?_
  refine th_topi (y := 1) (by decide) ?_
  refine lw_sld (j := 1) hx hb hX (by decide) (by decide) (by decide) dL_law_517 ?_
  refine th_topi h1 ?_
  refine lv_aload_n hx hb dL_law_518 rfl (lv_at hl 3 rfl) ?_
  refine lv_iload_n hx hb dL_law_519 rfl (lv_at hl 0 rfl) ?_
  refine lv_iconst (v := 2) hx hb dL_law_520 (by decide) ?_
  refine lv_iadd hx hb dL_law_521 ?_
  refine th_topi (y := 2) (by decide) ?_
  refine lw_sld (j := 2) hx hb hX (by decide) (by decide) (by decide) dL_law_522 ?_
  refine th_topi h2 ?_
  refine th_Vi (A := fun q => B ≤ q) (As := [.int 1, .int 4]) (rest := []) E hml hl.1 (c_X11_end_v28 l D cI cS (tq B 0 178) (rq B) hWX H hTX (B + 0) hτX hFX.2.2.2.2.2.2.2.2.2.2.2.2.2.2.2.2.2.2.2.2.2.2.2.2.2.2.2.2.2.2.2.2.2.2.2.2.2.2.2.2.2.2.2.2.2.2.2.2.1 hFX.2.2.2.2.2.2.2.2.2.2.2.2.2.2.2.2.2.2.2.2.2.2.2.2.2.2.2.2.2.2.2.2.2.2.2.2.2.2.2.2.2.2.2.2.2.1) lk_L_80 yd_X11_end hTX hτX rfl (by decide) ⟨rfl, fun _ _ => rfl, hlo⟩ (fun q h => h.elim) ⟨Nat.le_of_ble_eq_true rfl, Nat.le_of_ble_eq_true rfl⟩ (Nat.le_of_ble_eq_true rfl) ⟨Nat.le_of_ble_eq_true rfl, Nat.le_of_ble_eq_true rfl⟩ rfl dL_law_523 (fun r_1 H_1 locs_1 p_1 hT_1 hk_1 hS_1 => ?_)
  refine th_topi (y := 0) (show (0 : Int32) = r_1 from p_1.2).symm ?_
  have kM : ∀ q, B + 178 ≤ q → H_1[q]? = H[q]? := fun q hq => hk_1 q (fun h => h.elim)
  have hTM := hTM.same (H1 := H_1) (fun q t h => kM q (by obtain ⟨j, rfl, z1, -, -⟩ := tq_some h; omega))
  have hFM := hFM.kept (H1 := H_1) kM
  have hX_1 : va_X b 4 xs s H_1 := hX.kept (hS_1.2.1 b (Nat.not_le.mpr hbB))
  refine lv_aload_n hx hb dL_law_526 rfl (lv_at hl 1 rfl) ?_
  refine lv_aload_n hx hb dL_law_527 rfl (lv_at hl 3 rfl) ?_
  refine lv_iload_n hx hb dL_law_528 rfl (lv_at hl 0 rfl) ?_
  refine lv_iconst (v := 1) hx hb dL_law_529 (by decide) ?_
  refine lv_iadd hx hb dL_law_530 ?_
  refine th_topi (y := 1) (by decide) ?_
  refine lw_sld (j := 1) hx hb hX_1 (by decide) (by decide) (by decide) dL_law_531 ?_
  refine th_topi h1 ?_
  refine lv_aload_n hx hb dL_law_532 rfl (lv_at hl 3 rfl) ?_
  refine lv_iload_n hx hb dL_law_533 rfl (lv_at hl 0 rfl) ?_
  refine lv_iconst (v := 2) hx hb dL_law_534 (by decide) ?_
  refine lv_iadd hx hb dL_law_535 ?_
  refine th_topi (y := 2) (by decide) ?_
  refine lw_sld (j := 2) hx hb hX_1 (by decide) (by decide) (by decide) dL_law_536 ?_
  refine th_topi h2 ?_
  refine th_Vi (A := fun q => B ≤ q) (As := [.int 1, .int 4]) (rest := [.int 0]) E hml hl.1 (c_X12_end_v28 l D cI cS (tq B 178 186) (rq B) hWM H_1 hTM (B + 178) hτM ((hFM.2.2.2.2.1 289 (by decide)).trans (by decide)) ((hFM.2.2.2.2.1 292 (by decide)).trans (by decide))) lk_L_83 yd_X12_end hTM hτM rfl (by decide) ⟨rfl, fun _ _ => rfl, hS_1.2.2⟩ (fun q h => h.elim) ⟨Nat.le_of_ble_eq_true rfl, Nat.le_of_ble_eq_true rfl⟩ (Nat.le_of_ble_eq_true rfl) ⟨Nat.le_of_ble_eq_true rfl, Nat.le_of_ble_eq_true rfl⟩ rfl dL_law_537 (fun r_2 H_2 locs_2 p_2 hT_2 hk_2 hS_2 => ?_)
  refine th_topi (y := 0) (show (0 : Int32) = r_2 from p_2.2).symm ?_
  have hX_2 : va_X b 4 xs s H_2 := hX_1.kept (hS_2.2.1 b (Nat.not_le.mpr hbB))
  refine lv_icmp_eq (tgt := 766) hx hb dL_law_540 (by decide) (fun c_ => ?_) (fun c_ => absurd (by decide) c_)
  exact kk H_2 locs_2 hS_2.2.2 hX_2
set_option maxHeartbeats 4000000 in
set_option maxRecDepth 100000 in
theorem w_end_28 (E : EE p s m args c cL_law RL D cI cS) (hml : c.maxLocals = 4) (hl : lv_has ls 4 [(3, .int 0), (2, .ref (B + 178)), (1, .ref (B + 0)), (0, .ref b)]) (hWX : WF (tq B 0 178) (rq B)) (hWM : WF (tq B 178 186) (rq B)) (hTX : TH D cI cS (tq B 0 178) (rq B) H) (hFX : FX D B H) (hTM : TH D cI cS (tq B 178 186) (rq B) H) (hFM : FM D B H) (hX : va_X b 4 xs s H) (hbB : b < B) (hlo : ∀ x ∈ locs, B ≤ x.base) (h1 : xs 1 = 1) (h2 : xs 2 = 5) (kk : KL p l e s m args below meth c ls Q B b xs) : WL p l e s m args below meth c H locs ls Q 512 := by
  have hx := E.1
  have hb := E.2.1
  have hτX := ttX B
  have hτM := ttM B
  refine lv_aload_n hx hb dL_law_512 rfl (lv_at hl 2 rfl) ?_
  refine lv_aload_n hx hb dL_law_513 rfl (lv_at hl 3 rfl) ?_
  refine lv_iload_n hx hb dL_law_514 rfl (lv_at hl 0 rfl) ?_
  refine lv_iconst (v := 1) hx hb dL_law_515 (by decide) ?_
  refine lv_iadd hx hb dL_law_516 ?_
  refine th_topi (y := 1) (by decide) ?_
  refine lw_sld (j := 1) hx hb hX (by decide) (by decide) (by decide) dL_law_517 ?_
  refine th_topi h1 ?_
  refine lv_aload_n hx hb dL_law_518 rfl (lv_at hl 3 rfl) ?_
  refine lv_iload_n hx hb dL_law_519 rfl (lv_at hl 0 rfl) ?_
  refine lv_iconst (v := 2) hx hb dL_law_520 (by decide) ?_
  refine lv_iadd hx hb dL_law_521 ?_
  refine th_topi (y := 2) (by decide) ?_
  refine lw_sld (j := 2) hx hb hX (by decide) (by decide) (by decide) dL_law_522 ?_
  refine th_topi h2 ?_
  refine th_Vi (A := fun q => B ≤ q) (As := [.int 1, .int 5]) (rest := []) E hml hl.1 (c_X11_end_v29 l D cI cS (tq B 0 178) (rq B) hWX H hTX (B + 0) hτX hFX.2.2.2.2.2.2.2.2.2.2.2.2.2.2.2.2.2.2.2.2.2.2.2.2.2.2.2.2.2.2.2.2.2.2.2.2.2.2.2.1) lk_L_80 yd_X11_end hTX hτX rfl (by decide) ⟨rfl, fun _ _ => rfl, hlo⟩ (fun q h => h.elim) ⟨Nat.le_of_ble_eq_true rfl, Nat.le_of_ble_eq_true rfl⟩ (Nat.le_of_ble_eq_true rfl) ⟨Nat.le_of_ble_eq_true rfl, Nat.le_of_ble_eq_true rfl⟩ rfl dL_law_523 (fun r_1 H_1 locs_1 p_1 hT_1 hk_1 hS_1 => ?_)
  refine th_topi (y := 0) (show (0 : Int32) = r_1 from p_1.2).symm ?_
  have kM : ∀ q, B + 178 ≤ q → H_1[q]? = H[q]? := fun q hq => hk_1 q (fun h => h.elim)
  have hTM := hTM.same (H1 := H_1) (fun q t h => kM q (by obtain ⟨j, rfl, z1, -, -⟩ := tq_some h; omega))
  have hFM := hFM.kept (H1 := H_1) kM
  have hX_1 : va_X b 4 xs s H_1 := hX.kept (hS_1.2.1 b (Nat.not_le.mpr hbB))
  refine lv_aload_n hx hb dL_law_526 rfl (lv_at hl 1 rfl) ?_
  refine lv_aload_n hx hb dL_law_527 rfl (lv_at hl 3 rfl) ?_
  refine lv_iload_n hx hb dL_law_528 rfl (lv_at hl 0 rfl) ?_
  refine lv_iconst (v := 1) hx hb dL_law_529 (by decide) ?_
  refine lv_iadd hx hb dL_law_530 ?_
  refine th_topi (y := 1) (by decide) ?_
  refine lw_sld (j := 1) hx hb hX_1 (by decide) (by decide) (by decide) dL_law_531 ?_
  refine th_topi h1 ?_
  refine lv_aload_n hx hb dL_law_532 rfl (lv_at hl 3 rfl) ?_
  refine lv_iload_n hx hb dL_law_533 rfl (lv_at hl 0 rfl) ?_
  refine lv_iconst (v := 2) hx hb dL_law_534 (by decide) ?_
  refine lv_iadd hx hb dL_law_535 ?_
  refine th_topi (y := 2) (by decide) ?_
  refine lw_sld (j := 2) hx hb hX_1 (by decide) (by decide) (by decide) dL_law_536 ?_
  refine th_topi h2 ?_
  refine th_Vi (A := fun q => B ≤ q) (As := [.int 1, .int 5]) (rest := [.int 0]) E hml hl.1 (c_X12_end_v29 l D cI cS (tq B 178 186) (rq B) hWM H_1 hTM (B + 178) hτM ((hFM.2.2.2.2.1 293 (by decide)).trans (by decide))) lk_L_83 yd_X12_end hTM hτM rfl (by decide) ⟨rfl, fun _ _ => rfl, hS_1.2.2⟩ (fun q h => h.elim) ⟨Nat.le_of_ble_eq_true rfl, Nat.le_of_ble_eq_true rfl⟩ (Nat.le_of_ble_eq_true rfl) ⟨Nat.le_of_ble_eq_true rfl, Nat.le_of_ble_eq_true rfl⟩ rfl dL_law_537 (fun r_2 H_2 locs_2 p_2 hT_2 hk_2 hS_2 => ?_)
  refine th_topi (y := 0) (show (0 : Int32) = r_2 from p_2.2).symm ?_
  have hX_2 : va_X b 4 xs s H_2 := hX_1.kept (hS_2.2.1 b (Nat.not_le.mpr hbB))
  refine lv_icmp_eq (tgt := 766) hx hb dL_law_540 (by decide) (fun c_ => ?_) (fun c_ => absurd (by decide) c_)
  exact kk H_2 locs_2 hS_2.2.2 hX_2
set_option maxHeartbeats 4000000 in
set_option maxRecDepth 100000 in
theorem w_end_29 (E : EE p s m args c cL_law RL D cI cS) (hml : c.maxLocals = 4) (hl : lv_has ls 4 [(3, .int 0), (2, .ref (B + 178)), (1, .ref (B + 0)), (0, .ref b)]) (hWX : WF (tq B 0 178) (rq B)) (hWM : WF (tq B 178 186) (rq B)) (hTX : TH D cI cS (tq B 0 178) (rq B) H) (hFX : FX D B H) (hTM : TH D cI cS (tq B 178 186) (rq B) H) (hFM : FM D B H) (hX : va_X b 4 xs s H) (hbB : b < B) (hlo : ∀ x ∈ locs, B ≤ x.base) (h1 : xs 1 = 1) (h2 : xs 2 = 6) (kk : KL p l e s m args below meth c ls Q B b xs) : WL p l e s m args below meth c H locs ls Q 512 := by
  have hx := E.1
  have hb := E.2.1
  have hτX := ttX B
  have hτM := ttM B
  refine lv_aload_n hx hb dL_law_512 rfl (lv_at hl 2 rfl) ?_
  refine lv_aload_n hx hb dL_law_513 rfl (lv_at hl 3 rfl) ?_
  refine lv_iload_n hx hb dL_law_514 rfl (lv_at hl 0 rfl) ?_
  refine lv_iconst (v := 1) hx hb dL_law_515 (by decide) ?_
  refine lv_iadd hx hb dL_law_516 ?_
  refine th_topi (y := 1) (by decide) ?_
  refine lw_sld (j := 1) hx hb hX (by decide) (by decide) (by decide) dL_law_517 ?_
  refine th_topi h1 ?_
  refine lv_aload_n hx hb dL_law_518 rfl (lv_at hl 3 rfl) ?_
  refine lv_iload_n hx hb dL_law_519 rfl (lv_at hl 0 rfl) ?_
  refine lv_iconst (v := 2) hx hb dL_law_520 (by decide) ?_
  refine lv_iadd hx hb dL_law_521 ?_
  refine th_topi (y := 2) (by decide) ?_
  refine lw_sld (j := 2) hx hb hX (by decide) (by decide) (by decide) dL_law_522 ?_
  refine th_topi h2 ?_
  refine th_Vi (A := fun q => B ≤ q) (As := [.int 1, .int 6]) (rest := []) E hml hl.1 (c_X11_end_v30 l D cI cS (tq B 0 178) (rq B) hWX H hTX (B + 0) hτX hFX.2.2.2.2.2.2.2.2.2.2.2.2.2.2.2.2.2.2.2.2.2.2.2.2.2.2.2.2.2.2.2.2.2.2.2.2.2.2.2.2.1) lk_L_80 yd_X11_end hTX hτX rfl (by decide) ⟨rfl, fun _ _ => rfl, hlo⟩ (fun q h => h.elim) ⟨Nat.le_of_ble_eq_true rfl, Nat.le_of_ble_eq_true rfl⟩ (Nat.le_of_ble_eq_true rfl) ⟨Nat.le_of_ble_eq_true rfl, Nat.le_of_ble_eq_true rfl⟩ rfl dL_law_523 (fun r_1 H_1 locs_1 p_1 hT_1 hk_1 hS_1 => ?_)
  refine th_topi (y := 1) (show (1 : Int32) = r_1 from p_1.2).symm ?_
  have kM : ∀ q, B + 178 ≤ q → H_1[q]? = H[q]? := fun q hq => hk_1 q (fun h => h.elim)
  have hTM := hTM.same (H1 := H_1) (fun q t h => kM q (by obtain ⟨j, rfl, z1, -, -⟩ := tq_some h; omega))
  have hFM := hFM.kept (H1 := H_1) kM
  have hX_1 : va_X b 4 xs s H_1 := hX.kept (hS_1.2.1 b (Nat.not_le.mpr hbB))
  refine lv_aload_n hx hb dL_law_526 rfl (lv_at hl 1 rfl) ?_
  refine lv_aload_n hx hb dL_law_527 rfl (lv_at hl 3 rfl) ?_
  refine lv_iload_n hx hb dL_law_528 rfl (lv_at hl 0 rfl) ?_
  refine lv_iconst (v := 1) hx hb dL_law_529 (by decide) ?_
  refine lv_iadd hx hb dL_law_530 ?_
  refine th_topi (y := 1) (by decide) ?_
  refine lw_sld (j := 1) hx hb hX_1 (by decide) (by decide) (by decide) dL_law_531 ?_
  refine th_topi h1 ?_
  refine lv_aload_n hx hb dL_law_532 rfl (lv_at hl 3 rfl) ?_
  refine lv_iload_n hx hb dL_law_533 rfl (lv_at hl 0 rfl) ?_
  refine lv_iconst (v := 2) hx hb dL_law_534 (by decide) ?_
  refine lv_iadd hx hb dL_law_535 ?_
  refine th_topi (y := 2) (by decide) ?_
  refine lw_sld (j := 2) hx hb hX_1 (by decide) (by decide) (by decide) dL_law_536 ?_
  refine th_topi h2 ?_
  refine th_Vi (A := fun q => B ≤ q) (As := [.int 1, .int 6]) (rest := [.int 1]) E hml hl.1 (c_X12_end_v30 l D cI cS (tq B 178 186) (rq B) hWM H_1 hTM (B + 178) hτM ((hFM.2.2.2.2.1 294 (by decide)).trans (by decide))) lk_L_83 yd_X12_end hTM hτM rfl (by decide) ⟨rfl, fun _ _ => rfl, hS_1.2.2⟩ (fun q h => h.elim) ⟨Nat.le_of_ble_eq_true rfl, Nat.le_of_ble_eq_true rfl⟩ (Nat.le_of_ble_eq_true rfl) ⟨Nat.le_of_ble_eq_true rfl, Nat.le_of_ble_eq_true rfl⟩ rfl dL_law_537 (fun r_2 H_2 locs_2 p_2 hT_2 hk_2 hS_2 => ?_)
  refine th_topi (y := 1) (show (1 : Int32) = r_2 from p_2.2).symm ?_
  have hX_2 : va_X b 4 xs s H_2 := hX_1.kept (hS_2.2.1 b (Nat.not_le.mpr hbB))
  refine lv_icmp_eq (tgt := 766) hx hb dL_law_540 (by decide) (fun c_ => ?_) (fun c_ => absurd (by decide) c_)
  exact kk H_2 locs_2 hS_2.2.2 hX_2
set_option maxHeartbeats 4000000 in
set_option maxRecDepth 100000 in
theorem w_end_30 (E : EE p s m args c cL_law RL D cI cS) (hml : c.maxLocals = 4) (hl : lv_has ls 4 [(3, .int 0), (2, .ref (B + 178)), (1, .ref (B + 0)), (0, .ref b)]) (hWX : WF (tq B 0 178) (rq B)) (hWM : WF (tq B 178 186) (rq B)) (hTX : TH D cI cS (tq B 0 178) (rq B) H) (hFX : FX D B H) (hTM : TH D cI cS (tq B 178 186) (rq B) H) (hFM : FM D B H) (hX : va_X b 4 xs s H) (hbB : b < B) (hlo : ∀ x ∈ locs, B ≤ x.base) (h1 : xs 1 = 1) (h2 : xs 2 = 7) (kk : KL p l e s m args below meth c ls Q B b xs) : WL p l e s m args below meth c H locs ls Q 512 := by
  have hx := E.1
  have hb := E.2.1
  have hτX := ttX B
  have hτM := ttM B
  refine lv_aload_n hx hb dL_law_512 rfl (lv_at hl 2 rfl) ?_
  refine lv_aload_n hx hb dL_law_513 rfl (lv_at hl 3 rfl) ?_
  refine lv_iload_n hx hb dL_law_514 rfl (lv_at hl 0 rfl) ?_
  refine lv_iconst (v := 1) hx hb dL_law_515 (by decide) ?_
  refine lv_iadd hx hb dL_law_516 ?_
  refine th_topi (y := 1) (by decide) ?_
  refine lw_sld (j := 1) hx hb hX (by decide) (by decide) (by decide) dL_law_517 ?_
  refine th_topi h1 ?_
  refine lv_aload_n hx hb dL_law_518 rfl (lv_at hl 3 rfl) ?_
  refine lv_iload_n hx hb dL_law_519 rfl (lv_at hl 0 rfl) ?_
  refine lv_iconst (v := 2) hx hb dL_law_520 (by decide) ?_
  refine lv_iadd hx hb dL_law_521 ?_
  refine th_topi (y := 2) (by decide) ?_
  refine lw_sld (j := 2) hx hb hX (by decide) (by decide) (by decide) dL_law_522 ?_
  refine th_topi h2 ?_
  refine th_Vi (A := fun q => B ≤ q) (As := [.int 1, .int 7]) (rest := []) E hml hl.1 (c_X11_end_v31 l D cI cS (tq B 0 178) (rq B) hWX H hTX (B + 0) hτX hFX.2.2.2.2.2.2.2.2.2.2.2.2.2.2.2.2.2.2.2.2.2.2.2.2.2.2.2.2.2.2.2.2.2.2.2.2.2.2.2.2.2.1) lk_L_80 yd_X11_end hTX hτX rfl (by decide) ⟨rfl, fun _ _ => rfl, hlo⟩ (fun q h => h.elim) ⟨Nat.le_of_ble_eq_true rfl, Nat.le_of_ble_eq_true rfl⟩ (Nat.le_of_ble_eq_true rfl) ⟨Nat.le_of_ble_eq_true rfl, Nat.le_of_ble_eq_true rfl⟩ rfl dL_law_523 (fun r_1 H_1 locs_1 p_1 hT_1 hk_1 hS_1 => ?_)
  refine th_topi (y := 13) (show (13 : Int32) = r_1 from p_1.2).symm ?_
  have kM : ∀ q, B + 178 ≤ q → H_1[q]? = H[q]? := fun q hq => hk_1 q (fun h => h.elim)
  have hTM := hTM.same (H1 := H_1) (fun q t h => kM q (by obtain ⟨j, rfl, z1, -, -⟩ := tq_some h; omega))
  have hFM := hFM.kept (H1 := H_1) kM
  have hX_1 : va_X b 4 xs s H_1 := hX.kept (hS_1.2.1 b (Nat.not_le.mpr hbB))
  refine lv_aload_n hx hb dL_law_526 rfl (lv_at hl 1 rfl) ?_
  refine lv_aload_n hx hb dL_law_527 rfl (lv_at hl 3 rfl) ?_
  refine lv_iload_n hx hb dL_law_528 rfl (lv_at hl 0 rfl) ?_
  refine lv_iconst (v := 1) hx hb dL_law_529 (by decide) ?_
  refine lv_iadd hx hb dL_law_530 ?_
  refine th_topi (y := 1) (by decide) ?_
  refine lw_sld (j := 1) hx hb hX_1 (by decide) (by decide) (by decide) dL_law_531 ?_
  refine th_topi h1 ?_
  refine lv_aload_n hx hb dL_law_532 rfl (lv_at hl 3 rfl) ?_
  refine lv_iload_n hx hb dL_law_533 rfl (lv_at hl 0 rfl) ?_
  refine lv_iconst (v := 2) hx hb dL_law_534 (by decide) ?_
  refine lv_iadd hx hb dL_law_535 ?_
  refine th_topi (y := 2) (by decide) ?_
  refine lw_sld (j := 2) hx hb hX_1 (by decide) (by decide) (by decide) dL_law_536 ?_
  refine th_topi h2 ?_
  refine th_Vi (A := fun q => B ≤ q) (As := [.int 1, .int 7]) (rest := [.int 13]) E hml hl.1 (c_X12_end_v31 l D cI cS (tq B 178 186) (rq B) hWM H_1 hTM (B + 178) hτM ((hFM.2.2.2.2.1 295 (by decide)).trans (by decide))) lk_L_83 yd_X12_end hTM hτM rfl (by decide) ⟨rfl, fun _ _ => rfl, hS_1.2.2⟩ (fun q h => h.elim) ⟨Nat.le_of_ble_eq_true rfl, Nat.le_of_ble_eq_true rfl⟩ (Nat.le_of_ble_eq_true rfl) ⟨Nat.le_of_ble_eq_true rfl, Nat.le_of_ble_eq_true rfl⟩ rfl dL_law_537 (fun r_2 H_2 locs_2 p_2 hT_2 hk_2 hS_2 => ?_)
  refine th_topi (y := 13) (show (13 : Int32) = r_2 from p_2.2).symm ?_
  have hX_2 : va_X b 4 xs s H_2 := hX_1.kept (hS_2.2.1 b (Nat.not_le.mpr hbB))
  refine lv_icmp_eq (tgt := 766) hx hb dL_law_540 (by decide) (fun c_ => ?_) (fun c_ => absurd (by decide) c_)
  exact kk H_2 locs_2 hS_2.2.2 hX_2
set_option maxHeartbeats 4000000 in
set_option maxRecDepth 100000 in
theorem w_end_31 (E : EE p s m args c cL_law RL D cI cS) (hml : c.maxLocals = 4) (hl : lv_has ls 4 [(3, .int 0), (2, .ref (B + 178)), (1, .ref (B + 0)), (0, .ref b)]) (hWX : WF (tq B 0 178) (rq B)) (hWM : WF (tq B 178 186) (rq B)) (hTX : TH D cI cS (tq B 0 178) (rq B) H) (hFX : FX D B H) (hTM : TH D cI cS (tq B 178 186) (rq B) H) (hFM : FM D B H) (hX : va_X b 4 xs s H) (hbB : b < B) (hlo : ∀ x ∈ locs, B ≤ x.base) (h1 : xs 1 = 1) (h2 : xs 2 = 8) (kk : KL p l e s m args below meth c ls Q B b xs) : WL p l e s m args below meth c H locs ls Q 512 := by
  have hx := E.1
  have hb := E.2.1
  have hτX := ttX B
  have hτM := ttM B
  refine lv_aload_n hx hb dL_law_512 rfl (lv_at hl 2 rfl) ?_
  refine lv_aload_n hx hb dL_law_513 rfl (lv_at hl 3 rfl) ?_
  refine lv_iload_n hx hb dL_law_514 rfl (lv_at hl 0 rfl) ?_
  refine lv_iconst (v := 1) hx hb dL_law_515 (by decide) ?_
  refine lv_iadd hx hb dL_law_516 ?_
  refine th_topi (y := 1) (by decide) ?_
  refine lw_sld (j := 1) hx hb hX (by decide) (by decide) (by decide) dL_law_517 ?_
  refine th_topi h1 ?_
  refine lv_aload_n hx hb dL_law_518 rfl (lv_at hl 3 rfl) ?_
  refine lv_iload_n hx hb dL_law_519 rfl (lv_at hl 0 rfl) ?_
  refine lv_iconst (v := 2) hx hb dL_law_520 (by decide) ?_
  refine lv_iadd hx hb dL_law_521 ?_
  refine th_topi (y := 2) (by decide) ?_
  refine lw_sld (j := 2) hx hb hX (by decide) (by decide) (by decide) dL_law_522 ?_
  refine th_topi h2 ?_
  refine th_Vi (A := fun q => B ≤ q) (As := [.int 1, .int 8]) (rest := []) E hml hl.1 (c_X11_end_v32 l D cI cS (tq B 0 178) (rq B) hWX H hTX (B + 0) hτX hFX.2.2.2.2.2.2.2.2.2.2.2.2.2.2.2.2.2.2.2.2.2.2.2.2.2.2.2.2.2.2.2.2.2.1) lk_L_80 yd_X11_end hTX hτX rfl (by decide) ⟨rfl, fun _ _ => rfl, hlo⟩ (fun q h => h.elim) ⟨Nat.le_of_ble_eq_true rfl, Nat.le_of_ble_eq_true rfl⟩ (Nat.le_of_ble_eq_true rfl) ⟨Nat.le_of_ble_eq_true rfl, Nat.le_of_ble_eq_true rfl⟩ rfl dL_law_523 (fun r_1 H_1 locs_1 p_1 hT_1 hk_1 hS_1 => ?_)
  refine th_topi (y := 6) (show (6 : Int32) = r_1 from p_1.2).symm ?_
  have kM : ∀ q, B + 178 ≤ q → H_1[q]? = H[q]? := fun q hq => hk_1 q (fun h => h.elim)
  have hTM := hTM.same (H1 := H_1) (fun q t h => kM q (by obtain ⟨j, rfl, z1, -, -⟩ := tq_some h; omega))
  have hFM := hFM.kept (H1 := H_1) kM
  have hX_1 : va_X b 4 xs s H_1 := hX.kept (hS_1.2.1 b (Nat.not_le.mpr hbB))
  refine lv_aload_n hx hb dL_law_526 rfl (lv_at hl 1 rfl) ?_
  refine lv_aload_n hx hb dL_law_527 rfl (lv_at hl 3 rfl) ?_
  refine lv_iload_n hx hb dL_law_528 rfl (lv_at hl 0 rfl) ?_
  refine lv_iconst (v := 1) hx hb dL_law_529 (by decide) ?_
  refine lv_iadd hx hb dL_law_530 ?_
  refine th_topi (y := 1) (by decide) ?_
  refine lw_sld (j := 1) hx hb hX_1 (by decide) (by decide) (by decide) dL_law_531 ?_
  refine th_topi h1 ?_
  refine lv_aload_n hx hb dL_law_532 rfl (lv_at hl 3 rfl) ?_
  refine lv_iload_n hx hb dL_law_533 rfl (lv_at hl 0 rfl) ?_
  refine lv_iconst (v := 2) hx hb dL_law_534 (by decide) ?_
  refine lv_iadd hx hb dL_law_535 ?_
  refine th_topi (y := 2) (by decide) ?_
  refine lw_sld (j := 2) hx hb hX_1 (by decide) (by decide) (by decide) dL_law_536 ?_
  refine th_topi h2 ?_
  refine th_Vi (A := fun q => B ≤ q) (As := [.int 1, .int 8]) (rest := [.int 6]) E hml hl.1 (c_X12_end_v32 l D cI cS (tq B 178 186) (rq B) hWM H_1 hTM (B + 178) hτM ((hFM.2.2.2.2.1 296 (by decide)).trans (by decide))) lk_L_83 yd_X12_end hTM hτM rfl (by decide) ⟨rfl, fun _ _ => rfl, hS_1.2.2⟩ (fun q h => h.elim) ⟨Nat.le_of_ble_eq_true rfl, Nat.le_of_ble_eq_true rfl⟩ (Nat.le_of_ble_eq_true rfl) ⟨Nat.le_of_ble_eq_true rfl, Nat.le_of_ble_eq_true rfl⟩ rfl dL_law_537 (fun r_2 H_2 locs_2 p_2 hT_2 hk_2 hS_2 => ?_)
  refine th_topi (y := 6) (show (6 : Int32) = r_2 from p_2.2).symm ?_
  have hX_2 : va_X b 4 xs s H_2 := hX_1.kept (hS_2.2.1 b (Nat.not_le.mpr hbB))
  refine lv_icmp_eq (tgt := 766) hx hb dL_law_540 (by decide) (fun c_ => ?_) (fun c_ => absurd (by decide) c_)
  exact kk H_2 locs_2 hS_2.2.2 hX_2
set_option maxHeartbeats 4000000 in
set_option maxRecDepth 100000 in
theorem w_end_32 (E : EE p s m args c cL_law RL D cI cS) (hml : c.maxLocals = 4) (hl : lv_has ls 4 [(3, .int 0), (2, .ref (B + 178)), (1, .ref (B + 0)), (0, .ref b)]) (hWX : WF (tq B 0 178) (rq B)) (hWM : WF (tq B 178 186) (rq B)) (hTX : TH D cI cS (tq B 0 178) (rq B) H) (hFX : FX D B H) (hTM : TH D cI cS (tq B 178 186) (rq B) H) (hFM : FM D B H) (hX : va_X b 4 xs s H) (hbB : b < B) (hlo : ∀ x ∈ locs, B ≤ x.base) (h1 : xs 1 = 1) (h2 : xs 2 = 9) (kk : KL p l e s m args below meth c ls Q B b xs) : WL p l e s m args below meth c H locs ls Q 512 := by
  have hx := E.1
  have hb := E.2.1
  have hτX := ttX B
  have hτM := ttM B
  refine lv_aload_n hx hb dL_law_512 rfl (lv_at hl 2 rfl) ?_
  refine lv_aload_n hx hb dL_law_513 rfl (lv_at hl 3 rfl) ?_
  refine lv_iload_n hx hb dL_law_514 rfl (lv_at hl 0 rfl) ?_
  refine lv_iconst (v := 1) hx hb dL_law_515 (by decide) ?_
  refine lv_iadd hx hb dL_law_516 ?_
  refine th_topi (y := 1) (by decide) ?_
  refine lw_sld (j := 1) hx hb hX (by decide) (by decide) (by decide) dL_law_517 ?_
  refine th_topi h1 ?_
  refine lv_aload_n hx hb dL_law_518 rfl (lv_at hl 3 rfl) ?_
  refine lv_iload_n hx hb dL_law_519 rfl (lv_at hl 0 rfl) ?_
  refine lv_iconst (v := 2) hx hb dL_law_520 (by decide) ?_
  refine lv_iadd hx hb dL_law_521 ?_
  refine th_topi (y := 2) (by decide) ?_
  refine lw_sld (j := 2) hx hb hX (by decide) (by decide) (by decide) dL_law_522 ?_
  refine th_topi h2 ?_
  refine th_Vi (A := fun q => B ≤ q) (As := [.int 1, .int 9]) (rest := []) E hml hl.1 (c_X11_end_v33 l D cI cS (tq B 0 178) (rq B) hWX H hTX (B + 0) hτX hFX.2.2.2.2.2.2.2.2.2.2.2.2.2.2.2.2.2.2.2.2.2.2.2.2.2.2.2.2.2.2.2.2.2.2.1) lk_L_80 yd_X11_end hTX hτX rfl (by decide) ⟨rfl, fun _ _ => rfl, hlo⟩ (fun q h => h.elim) ⟨Nat.le_of_ble_eq_true rfl, Nat.le_of_ble_eq_true rfl⟩ (Nat.le_of_ble_eq_true rfl) ⟨Nat.le_of_ble_eq_true rfl, Nat.le_of_ble_eq_true rfl⟩ rfl dL_law_523 (fun r_1 H_1 locs_1 p_1 hT_1 hk_1 hS_1 => ?_)
  refine th_topi (y := 0) (show (0 : Int32) = r_1 from p_1.2).symm ?_
  have kM : ∀ q, B + 178 ≤ q → H_1[q]? = H[q]? := fun q hq => hk_1 q (fun h => h.elim)
  have hTM := hTM.same (H1 := H_1) (fun q t h => kM q (by obtain ⟨j, rfl, z1, -, -⟩ := tq_some h; omega))
  have hFM := hFM.kept (H1 := H_1) kM
  have hX_1 : va_X b 4 xs s H_1 := hX.kept (hS_1.2.1 b (Nat.not_le.mpr hbB))
  refine lv_aload_n hx hb dL_law_526 rfl (lv_at hl 1 rfl) ?_
  refine lv_aload_n hx hb dL_law_527 rfl (lv_at hl 3 rfl) ?_
  refine lv_iload_n hx hb dL_law_528 rfl (lv_at hl 0 rfl) ?_
  refine lv_iconst (v := 1) hx hb dL_law_529 (by decide) ?_
  refine lv_iadd hx hb dL_law_530 ?_
  refine th_topi (y := 1) (by decide) ?_
  refine lw_sld (j := 1) hx hb hX_1 (by decide) (by decide) (by decide) dL_law_531 ?_
  refine th_topi h1 ?_
  refine lv_aload_n hx hb dL_law_532 rfl (lv_at hl 3 rfl) ?_
  refine lv_iload_n hx hb dL_law_533 rfl (lv_at hl 0 rfl) ?_
  refine lv_iconst (v := 2) hx hb dL_law_534 (by decide) ?_
  refine lv_iadd hx hb dL_law_535 ?_
  refine th_topi (y := 2) (by decide) ?_
  refine lw_sld (j := 2) hx hb hX_1 (by decide) (by decide) (by decide) dL_law_536 ?_
  refine th_topi h2 ?_
  refine th_Vi (A := fun q => B ≤ q) (As := [.int 1, .int 9]) (rest := [.int 0]) E hml hl.1 (c_X12_end_v33 l D cI cS (tq B 178 186) (rq B) hWM H_1 hTM (B + 178) hτM ((hFM.2.2.2.2.1 297 (by decide)).trans (by decide))) lk_L_83 yd_X12_end hTM hτM rfl (by decide) ⟨rfl, fun _ _ => rfl, hS_1.2.2⟩ (fun q h => h.elim) ⟨Nat.le_of_ble_eq_true rfl, Nat.le_of_ble_eq_true rfl⟩ (Nat.le_of_ble_eq_true rfl) ⟨Nat.le_of_ble_eq_true rfl, Nat.le_of_ble_eq_true rfl⟩ rfl dL_law_537 (fun r_2 H_2 locs_2 p_2 hT_2 hk_2 hS_2 => ?_)
  refine th_topi (y := 0) (show (0 : Int32) = r_2 from p_2.2).symm ?_
  have hX_2 : va_X b 4 xs s H_2 := hX_1.kept (hS_2.2.1 b (Nat.not_le.mpr hbB))
  refine lv_icmp_eq (tgt := 766) hx hb dL_law_540 (by decide) (fun c_ => ?_) (fun c_ => absurd (by decide) c_)
  exact kk H_2 locs_2 hS_2.2.2 hX_2
set_option maxHeartbeats 4000000 in
set_option maxRecDepth 100000 in
theorem w_end_33 (E : EE p s m args c cL_law RL D cI cS) (hml : c.maxLocals = 4) (hl : lv_has ls 4 [(3, .int 0), (2, .ref (B + 178)), (1, .ref (B + 0)), (0, .ref b)]) (hWX : WF (tq B 0 178) (rq B)) (hWM : WF (tq B 178 186) (rq B)) (hTX : TH D cI cS (tq B 0 178) (rq B) H) (hFX : FX D B H) (hTM : TH D cI cS (tq B 178 186) (rq B) H) (hFM : FM D B H) (hX : va_X b 4 xs s H) (hbB : b < B) (hlo : ∀ x ∈ locs, B ≤ x.base) (h1 : xs 1 = 1) (h2 : xs 2 = 10) (kk : KL p l e s m args below meth c ls Q B b xs) : WL p l e s m args below meth c H locs ls Q 512 := by
  have hx := E.1
  have hb := E.2.1
  have hτX := ttX B
  have hτM := ttM B
  refine lv_aload_n hx hb dL_law_512 rfl (lv_at hl 2 rfl) ?_
  refine lv_aload_n hx hb dL_law_513 rfl (lv_at hl 3 rfl) ?_
  refine lv_iload_n hx hb dL_law_514 rfl (lv_at hl 0 rfl) ?_
  refine lv_iconst (v := 1) hx hb dL_law_515 (by decide) ?_
  refine lv_iadd hx hb dL_law_516 ?_
  refine th_topi (y := 1) (by decide) ?_
  refine lw_sld (j := 1) hx hb hX (by decide) (by decide) (by decide) dL_law_517 ?_
  refine th_topi h1 ?_
  refine lv_aload_n hx hb dL_law_518 rfl (lv_at hl 3 rfl) ?_
  refine lv_iload_n hx hb dL_law_519 rfl (lv_at hl 0 rfl) ?_
  refine lv_iconst (v := 2) hx hb dL_law_520 (by decide) ?_
  refine lv_iadd hx hb dL_law_521 ?_
  refine th_topi (y := 2) (by decide) ?_
  refine lw_sld (j := 2) hx hb hX (by decide) (by decide) (by decide) dL_law_522 ?_
  refine th_topi h2 ?_
  refine th_Vi (A := fun q => B ≤ q) (As := [.int 1, .int 10]) (rest := []) E hml hl.1 (c_X11_end_v34 l D cI cS (tq B 0 178) (rq B) hWX H hTX (B + 0) hτX hFX.2.2.2.2.2.2.2.2.2.2.2.2.2.2.2.2.2.2.2.2.2.2.2.2.2.2.2.2.2.2.2.2.2.2.2.1) lk_L_80 yd_X11_end hTX hτX rfl (by decide) ⟨rfl, fun _ _ => rfl, hlo⟩ (fun q h => h.elim) ⟨Nat.le_of_ble_eq_true rfl, Nat.le_of_ble_eq_true rfl⟩ (Nat.le_of_ble_eq_true rfl) ⟨Nat.le_of_ble_eq_true rfl, Nat.le_of_ble_eq_true rfl⟩ rfl dL_law_523 (fun r_1 H_1 locs_1 p_1 hT_1 hk_1 hS_1 => ?_)
  refine th_topi (y := 0) (show (0 : Int32) = r_1 from p_1.2).symm ?_
  have kM : ∀ q, B + 178 ≤ q → H_1[q]? = H[q]? := fun q hq => hk_1 q (fun h => h.elim)
  have hTM := hTM.same (H1 := H_1) (fun q t h => kM q (by obtain ⟨j, rfl, z1, -, -⟩ := tq_some h; omega))
  have hFM := hFM.kept (H1 := H_1) kM
  have hX_1 : va_X b 4 xs s H_1 := hX.kept (hS_1.2.1 b (Nat.not_le.mpr hbB))
  refine lv_aload_n hx hb dL_law_526 rfl (lv_at hl 1 rfl) ?_
  refine lv_aload_n hx hb dL_law_527 rfl (lv_at hl 3 rfl) ?_
  refine lv_iload_n hx hb dL_law_528 rfl (lv_at hl 0 rfl) ?_
  refine lv_iconst (v := 1) hx hb dL_law_529 (by decide) ?_
  refine lv_iadd hx hb dL_law_530 ?_
  refine th_topi (y := 1) (by decide) ?_
  refine lw_sld (j := 1) hx hb hX_1 (by decide) (by decide) (by decide) dL_law_531 ?_
  refine th_topi h1 ?_
  refine lv_aload_n hx hb dL_law_532 rfl (lv_at hl 3 rfl) ?_
  refine lv_iload_n hx hb dL_law_533 rfl (lv_at hl 0 rfl) ?_
  refine lv_iconst (v := 2) hx hb dL_law_534 (by decide) ?_
  refine lv_iadd hx hb dL_law_535 ?_
  refine th_topi (y := 2) (by decide) ?_
  refine lw_sld (j := 2) hx hb hX_1 (by decide) (by decide) (by decide) dL_law_536 ?_
  refine th_topi h2 ?_
  refine th_Vi (A := fun q => B ≤ q) (As := [.int 1, .int 10]) (rest := [.int 0]) E hml hl.1 (c_X12_end_v34 l D cI cS (tq B 178 186) (rq B) hWM H_1 hTM (B + 178) hτM ((hFM.2.2.2.2.1 298 (by decide)).trans (by decide))) lk_L_83 yd_X12_end hTM hτM rfl (by decide) ⟨rfl, fun _ _ => rfl, hS_1.2.2⟩ (fun q h => h.elim) ⟨Nat.le_of_ble_eq_true rfl, Nat.le_of_ble_eq_true rfl⟩ (Nat.le_of_ble_eq_true rfl) ⟨Nat.le_of_ble_eq_true rfl, Nat.le_of_ble_eq_true rfl⟩ rfl dL_law_537 (fun r_2 H_2 locs_2 p_2 hT_2 hk_2 hS_2 => ?_)
  refine th_topi (y := 0) (show (0 : Int32) = r_2 from p_2.2).symm ?_
  have hX_2 : va_X b 4 xs s H_2 := hX_1.kept (hS_2.2.1 b (Nat.not_le.mpr hbB))
  refine lv_icmp_eq (tgt := 766) hx hb dL_law_540 (by decide) (fun c_ => ?_) (fun c_ => absurd (by decide) c_)
  exact kk H_2 locs_2 hS_2.2.2 hX_2
set_option maxHeartbeats 4000000 in
set_option maxRecDepth 100000 in
theorem w_end_34 (E : EE p s m args c cL_law RL D cI cS) (hml : c.maxLocals = 4) (hl : lv_has ls 4 [(3, .int 0), (2, .ref (B + 178)), (1, .ref (B + 0)), (0, .ref b)]) (hWX : WF (tq B 0 178) (rq B)) (hWM : WF (tq B 178 186) (rq B)) (hTX : TH D cI cS (tq B 0 178) (rq B) H) (hFX : FX D B H) (hTM : TH D cI cS (tq B 178 186) (rq B) H) (hFM : FM D B H) (hX : va_X b 4 xs s H) (hbB : b < B) (hlo : ∀ x ∈ locs, B ≤ x.base) (h1 : xs 1 = 1) (h2 : xs 2 = 11) (kk : KL p l e s m args below meth c ls Q B b xs) : WL p l e s m args below meth c H locs ls Q 512 := by
  have hx := E.1
  have hb := E.2.1
  have hτX := ttX B
  have hτM := ttM B
  refine lv_aload_n hx hb dL_law_512 rfl (lv_at hl 2 rfl) ?_
  refine lv_aload_n hx hb dL_law_513 rfl (lv_at hl 3 rfl) ?_
  refine lv_iload_n hx hb dL_law_514 rfl (lv_at hl 0 rfl) ?_
  refine lv_iconst (v := 1) hx hb dL_law_515 (by decide) ?_
  refine lv_iadd hx hb dL_law_516 ?_
  refine th_topi (y := 1) (by decide) ?_
  refine lw_sld (j := 1) hx hb hX (by decide) (by decide) (by decide) dL_law_517 ?_
  refine th_topi h1 ?_
  refine lv_aload_n hx hb dL_law_518 rfl (lv_at hl 3 rfl) ?_
  refine lv_iload_n hx hb dL_law_519 rfl (lv_at hl 0 rfl) ?_
  refine lv_iconst (v := 2) hx hb dL_law_520 (by decide) ?_
  refine lv_iadd hx hb dL_law_521 ?_
  refine th_topi (y := 2) (by decide) ?_
  refine lw_sld (j := 2) hx hb hX (by decide) (by decide) (by decide) dL_law_522 ?_
  refine th_topi h2 ?_
  refine th_Vi (A := fun q => B ≤ q) (As := [.int 1, .int 11]) (rest := []) E hml hl.1 (c_X11_end_v35 l D cI cS (tq B 0 178) (rq B) hWX H hTX (B + 0) hτX hFX.2.2.2.2.2.2.2.2.2.2.2.2.2.2.2.2.2.2.2.2.2.2.2.2.2.2.2.2.2.2.2.2.2.2.2.2.2.2.2.2.2.2.2.2.2.2.2.2.2.2.2.2.2.1) lk_L_80 yd_X11_end hTX hτX rfl (by decide) ⟨rfl, fun _ _ => rfl, hlo⟩ (fun q h => h.elim) ⟨Nat.le_of_ble_eq_true rfl, Nat.le_of_ble_eq_true rfl⟩ (Nat.le_of_ble_eq_true rfl) ⟨Nat.le_of_ble_eq_true rfl, Nat.le_of_ble_eq_true rfl⟩ rfl dL_law_523 (fun r_1 H_1 locs_1 p_1 hT_1 hk_1 hS_1 => ?_)
  refine th_topi (y := 0) (show (0 : Int32) = r_1 from p_1.2).symm ?_
  have kM : ∀ q, B + 178 ≤ q → H_1[q]? = H[q]? := fun q hq => hk_1 q (fun h => h.elim)
  have hTM := hTM.same (H1 := H_1) (fun q t h => kM q (by obtain ⟨j, rfl, z1, -, -⟩ := tq_some h; omega))
  have hFM := hFM.kept (H1 := H_1) kM
  have hX_1 : va_X b 4 xs s H_1 := hX.kept (hS_1.2.1 b (Nat.not_le.mpr hbB))
  refine lv_aload_n hx hb dL_law_526 rfl (lv_at hl 1 rfl) ?_
  refine lv_aload_n hx hb dL_law_527 rfl (lv_at hl 3 rfl) ?_
  refine lv_iload_n hx hb dL_law_528 rfl (lv_at hl 0 rfl) ?_
  refine lv_iconst (v := 1) hx hb dL_law_529 (by decide) ?_
  refine lv_iadd hx hb dL_law_530 ?_
  refine th_topi (y := 1) (by decide) ?_
  refine lw_sld (j := 1) hx hb hX_1 (by decide) (by decide) (by decide) dL_law_531 ?_
  refine th_topi h1 ?_
  refine lv_aload_n hx hb dL_law_532 rfl (lv_at hl 3 rfl) ?_
  refine lv_iload_n hx hb dL_law_533 rfl (lv_at hl 0 rfl) ?_
  refine lv_iconst (v := 2) hx hb dL_law_534 (by decide) ?_
  refine lv_iadd hx hb dL_law_535 ?_
  refine th_topi (y := 2) (by decide) ?_
  refine lw_sld (j := 2) hx hb hX_1 (by decide) (by decide) (by decide) dL_law_536 ?_
  refine th_topi h2 ?_
  refine th_Vi (A := fun q => B ≤ q) (As := [.int 1, .int 11]) (rest := [.int 0]) E hml hl.1 (c_X12_end_v35 l D cI cS (tq B 178 186) (rq B) hWM H_1 hTM (B + 178) hτM ((hFM.2.2.2.2.1 299 (by decide)).trans (by decide))) lk_L_83 yd_X12_end hTM hτM rfl (by decide) ⟨rfl, fun _ _ => rfl, hS_1.2.2⟩ (fun q h => h.elim) ⟨Nat.le_of_ble_eq_true rfl, Nat.le_of_ble_eq_true rfl⟩ (Nat.le_of_ble_eq_true rfl) ⟨Nat.le_of_ble_eq_true rfl, Nat.le_of_ble_eq_true rfl⟩ rfl dL_law_537 (fun r_2 H_2 locs_2 p_2 hT_2 hk_2 hS_2 => ?_)
  refine th_topi (y := 0) (show (0 : Int32) = r_2 from p_2.2).symm ?_
  have hX_2 : va_X b 4 xs s H_2 := hX_1.kept (hS_2.2.1 b (Nat.not_le.mpr hbB))
  refine lv_icmp_eq (tgt := 766) hx hb dL_law_540 (by decide) (fun c_ => ?_) (fun c_ => absurd (by decide) c_)
  exact kk H_2 locs_2 hS_2.2.2 hX_2
set_option maxHeartbeats 4000000 in
set_option maxRecDepth 100000 in
theorem w_end_35 (E : EE p s m args c cL_law RL D cI cS) (hml : c.maxLocals = 4) (hl : lv_has ls 4 [(3, .int 0), (2, .ref (B + 178)), (1, .ref (B + 0)), (0, .ref b)]) (hWX : WF (tq B 0 178) (rq B)) (hWM : WF (tq B 178 186) (rq B)) (hTX : TH D cI cS (tq B 0 178) (rq B) H) (hFX : FX D B H) (hTM : TH D cI cS (tq B 178 186) (rq B) H) (hFM : FM D B H) (hX : va_X b 4 xs s H) (hbB : b < B) (hlo : ∀ x ∈ locs, B ≤ x.base) (h1 : xs 1 = 1) (h2 : xs 2 = 12) (kk : KL p l e s m args below meth c ls Q B b xs) : WL p l e s m args below meth c H locs ls Q 512 := by
  have hx := E.1
  have hb := E.2.1
  have hτX := ttX B
  have hτM := ttM B
  refine lv_aload_n hx hb dL_law_512 rfl (lv_at hl 2 rfl) ?_
  refine lv_aload_n hx hb dL_law_513 rfl (lv_at hl 3 rfl) ?_
  refine lv_iload_n hx hb dL_law_514 rfl (lv_at hl 0 rfl) ?_
  refine lv_iconst (v := 1) hx hb dL_law_515 (by decide) ?_
  refine lv_iadd hx hb dL_law_516 ?_
  refine th_topi (y := 1) (by decide) ?_
  refine lw_sld (j := 1) hx hb hX (by decide) (by decide) (by decide) dL_law_517 ?_
  refine th_topi h1 ?_
  refine lv_aload_n hx hb dL_law_518 rfl (lv_at hl 3 rfl) ?_
  refine lv_iload_n hx hb dL_law_519 rfl (lv_at hl 0 rfl) ?_
  refine lv_iconst (v := 2) hx hb dL_law_520 (by decide) ?_
  refine lv_iadd hx hb dL_law_521 ?_
  refine th_topi (y := 2) (by decide) ?_
  refine lw_sld (j := 2) hx hb hX (by decide) (by decide) (by decide) dL_law_522 ?_
  refine th_topi h2 ?_
  refine th_Vi (A := fun q => B ≤ q) (As := [.int 1, .int 12]) (rest := []) E hml hl.1 (c_X11_end_v36 l D cI cS (tq B 0 178) (rq B) hWX H hTX (B + 0) hτX hFX.2.2.2.2.2.2.2.2.2.2.2.2.2.2.2.2.2.2.2.2.2.2.2.2.2.2.2.2.2.2.2.2.2.2.2.2.2.2.2.2.2.2.2.2.2.2.2.2.2.2.2.2.2.2.1) lk_L_80 yd_X11_end hTX hτX rfl (by decide) ⟨rfl, fun _ _ => rfl, hlo⟩ (fun q h => h.elim) ⟨Nat.le_of_ble_eq_true rfl, Nat.le_of_ble_eq_true rfl⟩ (Nat.le_of_ble_eq_true rfl) ⟨Nat.le_of_ble_eq_true rfl, Nat.le_of_ble_eq_true rfl⟩ rfl dL_law_523 (fun r_1 H_1 locs_1 p_1 hT_1 hk_1 hS_1 => ?_)
  refine th_topi (y := 0) (show (0 : Int32) = r_1 from p_1.2).symm ?_
  have kM : ∀ q, B + 178 ≤ q → H_1[q]? = H[q]? := fun q hq => hk_1 q (fun h => h.elim)
  have hTM := hTM.same (H1 := H_1) (fun q t h => kM q (by obtain ⟨j, rfl, z1, -, -⟩ := tq_some h; omega))
  have hFM := hFM.kept (H1 := H_1) kM
  have hX_1 : va_X b 4 xs s H_1 := hX.kept (hS_1.2.1 b (Nat.not_le.mpr hbB))
  refine lv_aload_n hx hb dL_law_526 rfl (lv_at hl 1 rfl) ?_
  refine lv_aload_n hx hb dL_law_527 rfl (lv_at hl 3 rfl) ?_
  refine lv_iload_n hx hb dL_law_528 rfl (lv_at hl 0 rfl) ?_
  refine lv_iconst (v := 1) hx hb dL_law_529 (by decide) ?_
  refine lv_iadd hx hb dL_law_530 ?_
  refine th_topi (y := 1) (by decide) ?_
  refine lw_sld (j := 1) hx hb hX_1 (by decide) (by decide) (by decide) dL_law_531 ?_
  refine th_topi h1 ?_
  refine lv_aload_n hx hb dL_law_532 rfl (lv_at hl 3 rfl) ?_
  refine lv_iload_n hx hb dL_law_533 rfl (lv_at hl 0 rfl) ?_
  refine lv_iconst (v := 2) hx hb dL_law_534 (by decide) ?_
  refine lv_iadd hx hb dL_law_535 ?_
  refine th_topi (y := 2) (by decide) ?_
  refine lw_sld (j := 2) hx hb hX_1 (by decide) (by decide) (by decide) dL_law_536 ?_
  refine th_topi h2 ?_
  refine th_Vi (A := fun q => B ≤ q) (As := [.int 1, .int 12]) (rest := [.int 0]) E hml hl.1 (c_X12_end_v36 l D cI cS (tq B 178 186) (rq B) hWM H_1 hTM (B + 178) hτM ((hFM.2.2.2.2.1 300 (by decide)).trans (by decide))) lk_L_83 yd_X12_end hTM hτM rfl (by decide) ⟨rfl, fun _ _ => rfl, hS_1.2.2⟩ (fun q h => h.elim) ⟨Nat.le_of_ble_eq_true rfl, Nat.le_of_ble_eq_true rfl⟩ (Nat.le_of_ble_eq_true rfl) ⟨Nat.le_of_ble_eq_true rfl, Nat.le_of_ble_eq_true rfl⟩ rfl dL_law_537 (fun r_2 H_2 locs_2 p_2 hT_2 hk_2 hS_2 => ?_)
  refine th_topi (y := 0) (show (0 : Int32) = r_2 from p_2.2).symm ?_
  have hX_2 : va_X b 4 xs s H_2 := hX_1.kept (hS_2.2.1 b (Nat.not_le.mpr hbB))
  refine lv_icmp_eq (tgt := 766) hx hb dL_law_540 (by decide) (fun c_ => ?_) (fun c_ => absurd (by decide) c_)
  exact kk H_2 locs_2 hS_2.2.2 hX_2
set_option maxHeartbeats 4000000 in
set_option maxRecDepth 100000 in
theorem w_end_36 (E : EE p s m args c cL_law RL D cI cS) (hml : c.maxLocals = 4) (hl : lv_has ls 4 [(3, .int 0), (2, .ref (B + 178)), (1, .ref (B + 0)), (0, .ref b)]) (hWX : WF (tq B 0 178) (rq B)) (hWM : WF (tq B 178 186) (rq B)) (hTX : TH D cI cS (tq B 0 178) (rq B) H) (hFX : FX D B H) (hTM : TH D cI cS (tq B 178 186) (rq B) H) (hFM : FM D B H) (hX : va_X b 4 xs s H) (hbB : b < B) (hlo : ∀ x ∈ locs, B ≤ x.base) (h1 : xs 1 = 1) (h2 : xs 2 = 13) (kk : KL p l e s m args below meth c ls Q B b xs) : WL p l e s m args below meth c H locs ls Q 512 := by
  have hx := E.1
  have hb := E.2.1
  have hτX := ttX B
  have hτM := ttM B
  refine lv_aload_n hx hb dL_law_512 rfl (lv_at hl 2 rfl) ?_
  refine lv_aload_n hx hb dL_law_513 rfl (lv_at hl 3 rfl) ?_
  refine lv_iload_n hx hb dL_law_514 rfl (lv_at hl 0 rfl) ?_
  refine lv_iconst (v := 1) hx hb dL_law_515 (by decide) ?_
  refine lv_iadd hx hb dL_law_516 ?_
  refine th_topi (y := 1) (by decide) ?_
  refine lw_sld (j := 1) hx hb hX (by decide) (by decide) (by decide) dL_law_517 ?_
  refine th_topi h1 ?_
  refine lv_aload_n hx hb dL_law_518 rfl (lv_at hl 3 rfl) ?_
  refine lv_iload_n hx hb dL_law_519 rfl (lv_at hl 0 rfl) ?_
  refine lv_iconst (v := 2) hx hb dL_law_520 (by decide) ?_
  refine lv_iadd hx hb dL_law_521 ?_
  refine th_topi (y := 2) (by decide) ?_
  refine lw_sld (j := 2) hx hb hX (by decide) (by decide) (by decide) dL_law_522 ?_
  refine th_topi h2 ?_
  refine th_Vi (A := fun q => B ≤ q) (As := [.int 1, .int 13]) (rest := []) E hml hl.1 (c_X11_end_v37 l D cI cS (tq B 0 178) (rq B) hWX H hTX (B + 0) hτX hFX.2.2.2.2.2.2.2.2.2.2.2.2.2.2.2.2.2.2.2.2.2.2.2.2.2.2.2.2.2.2.2.2.2.2.2.2.2.2.2.2.2.2.2.2.2.2.2.2.2.2.1) lk_L_80 yd_X11_end hTX hτX rfl (by decide) ⟨rfl, fun _ _ => rfl, hlo⟩ (fun q h => h.elim) ⟨Nat.le_of_ble_eq_true rfl, Nat.le_of_ble_eq_true rfl⟩ (Nat.le_of_ble_eq_true rfl) ⟨Nat.le_of_ble_eq_true rfl, Nat.le_of_ble_eq_true rfl⟩ rfl dL_law_523 (fun r_1 H_1 locs_1 p_1 hT_1 hk_1 hS_1 => ?_)
  refine th_topi (y := 0) (show (0 : Int32) = r_1 from p_1.2).symm ?_
  have kM : ∀ q, B + 178 ≤ q → H_1[q]? = H[q]? := fun q hq => hk_1 q (fun h => h.elim)
  have hTM := hTM.same (H1 := H_1) (fun q t h => kM q (by obtain ⟨j, rfl, z1, -, -⟩ := tq_some h; omega))
  have hFM := hFM.kept (H1 := H_1) kM
  have hX_1 : va_X b 4 xs s H_1 := hX.kept (hS_1.2.1 b (Nat.not_le.mpr hbB))
  refine lv_aload_n hx hb dL_law_526 rfl (lv_at hl 1 rfl) ?_
  refine lv_aload_n hx hb dL_law_527 rfl (lv_at hl 3 rfl) ?_
  refine lv_iload_n hx hb dL_law_528 rfl (lv_at hl 0 rfl) ?_
  refine lv_iconst (v := 1) hx hb dL_law_529 (by decide) ?_
  refine lv_iadd hx hb dL_law_530 ?_
  refine th_topi (y := 1) (by decide) ?_
  refine lw_sld (j := 1) hx hb hX_1 (by decide) (by decide) (by decide) dL_law_531 ?_
  refine th_topi h1 ?_
  refine lv_aload_n hx hb dL_law_532 rfl (lv_at hl 3 rfl) ?_
  refine lv_iload_n hx hb dL_law_533 rfl (lv_at hl 0 rfl) ?_
  refine lv_iconst (v := 2) hx hb dL_law_534 (by decide) ?_
  refine lv_iadd hx hb dL_law_535 ?_
  refine th_topi (y := 2) (by decide) ?_
  refine lw_sld (j := 2) hx hb hX_1 (by decide) (by decide) (by decide) dL_law_536 ?_
  refine th_topi h2 ?_
  refine th_Vi (A := fun q => B ≤ q) (As := [.int 1, .int 13]) (rest := [.int 0]) E hml hl.1 (c_X12_end_v37 l D cI cS (tq B 178 186) (rq B) hWM H_1 hTM (B + 178) hτM ((hFM.2.2.2.2.1 301 (by decide)).trans (by decide))) lk_L_83 yd_X12_end hTM hτM rfl (by decide) ⟨rfl, fun _ _ => rfl, hS_1.2.2⟩ (fun q h => h.elim) ⟨Nat.le_of_ble_eq_true rfl, Nat.le_of_ble_eq_true rfl⟩ (Nat.le_of_ble_eq_true rfl) ⟨Nat.le_of_ble_eq_true rfl, Nat.le_of_ble_eq_true rfl⟩ rfl dL_law_537 (fun r_2 H_2 locs_2 p_2 hT_2 hk_2 hS_2 => ?_)
  refine th_topi (y := 0) (show (0 : Int32) = r_2 from p_2.2).symm ?_
  have hX_2 : va_X b 4 xs s H_2 := hX_1.kept (hS_2.2.1 b (Nat.not_le.mpr hbB))
  refine lv_icmp_eq (tgt := 766) hx hb dL_law_540 (by decide) (fun c_ => ?_) (fun c_ => absurd (by decide) c_)
  exact kk H_2 locs_2 hS_2.2.2 hX_2
set_option maxHeartbeats 4000000 in
set_option maxRecDepth 100000 in
theorem w_end_37 (E : EE p s m args c cL_law RL D cI cS) (hml : c.maxLocals = 4) (hl : lv_has ls 4 [(3, .int 0), (2, .ref (B + 178)), (1, .ref (B + 0)), (0, .ref b)]) (hWX : WF (tq B 0 178) (rq B)) (hWM : WF (tq B 178 186) (rq B)) (hTX : TH D cI cS (tq B 0 178) (rq B) H) (hFX : FX D B H) (hTM : TH D cI cS (tq B 178 186) (rq B) H) (hFM : FM D B H) (hX : va_X b 4 xs s H) (hbB : b < B) (hlo : ∀ x ∈ locs, B ≤ x.base) (h1 : xs 1 = 1) (h2 : xs 2 = 14) (kk : KL p l e s m args below meth c ls Q B b xs) : WL p l e s m args below meth c H locs ls Q 512 := by
  have hx := E.1
  have hb := E.2.1
  have hτX := ttX B
  have hτM := ttM B
  refine lv_aload_n hx hb dL_law_512 rfl (lv_at hl 2 rfl) ?_
  refine lv_aload_n hx hb dL_law_513 rfl (lv_at hl 3 rfl) ?_
  refine lv_iload_n hx hb dL_law_514 rfl (lv_at hl 0 rfl) ?_
  refine lv_iconst (v := 1) hx hb dL_law_515 (by decide) ?_
  refine lv_iadd hx hb dL_law_516 ?_
  refine th_topi (y := 1) (by decide) ?_
  refine lw_sld (j := 1) hx hb hX (by decide) (by decide) (by decide) dL_law_517 ?_
  refine th_topi h1 ?_
  refine lv_aload_n hx hb dL_law_518 rfl (lv_at hl 3 rfl) ?_
  refine lv_iload_n hx hb dL_law_519 rfl (lv_at hl 0 rfl) ?_
  refine lv_iconst (v := 2) hx hb dL_law_520 (by decide) ?_
  refine lv_iadd hx hb dL_law_521 ?_
  refine th_topi (y := 2) (by decide) ?_
  refine lw_sld (j := 2) hx hb hX (by decide) (by decide) (by decide) dL_law_522 ?_
  refine th_topi h2 ?_
  refine th_Vi (A := fun q => B ≤ q) (As := [.int 1, .int 14]) (rest := []) E hml hl.1 (c_X11_end_v38 l D cI cS (tq B 0 178) (rq B) hWX H hTX (B + 0) hτX hFX.2.2.2.2.2.2.2.2.2.2.2.2.2.2.2.2.2.2.2.2.2.2.2.2.2.2.2.2.2.2.2.2.2.2.2.2.2.2.2.2.2.2.2.2.2.2.2.2.2.1) lk_L_80 yd_X11_end hTX hτX rfl (by decide) ⟨rfl, fun _ _ => rfl, hlo⟩ (fun q h => h.elim) ⟨Nat.le_of_ble_eq_true rfl, Nat.le_of_ble_eq_true rfl⟩ (Nat.le_of_ble_eq_true rfl) ⟨Nat.le_of_ble_eq_true rfl, Nat.le_of_ble_eq_true rfl⟩ rfl dL_law_523 (fun r_1 H_1 locs_1 p_1 hT_1 hk_1 hS_1 => ?_)
  refine th_topi (y := 0) (show (0 : Int32) = r_1 from p_1.2).symm ?_
  have kM : ∀ q, B + 178 ≤ q → H_1[q]? = H[q]? := fun q hq => hk_1 q (fun h => h.elim)
  have hTM := hTM.same (H1 := H_1) (fun q t h => kM q (by obtain ⟨j, rfl, z1, -, -⟩ := tq_some h; omega))
  have hFM := hFM.kept (H1 := H_1) kM
  have hX_1 : va_X b 4 xs s H_1 := hX.kept (hS_1.2.1 b (Nat.not_le.mpr hbB))
  refine lv_aload_n hx hb dL_law_526 rfl (lv_at hl 1 rfl) ?_
  refine lv_aload_n hx hb dL_law_527 rfl (lv_at hl 3 rfl) ?_
  refine lv_iload_n hx hb dL_law_528 rfl (lv_at hl 0 rfl) ?_
  refine lv_iconst (v := 1) hx hb dL_law_529 (by decide) ?_
  refine lv_iadd hx hb dL_law_530 ?_
  refine th_topi (y := 1) (by decide) ?_
  refine lw_sld (j := 1) hx hb hX_1 (by decide) (by decide) (by decide) dL_law_531 ?_
  refine th_topi h1 ?_
  refine lv_aload_n hx hb dL_law_532 rfl (lv_at hl 3 rfl) ?_
  refine lv_iload_n hx hb dL_law_533 rfl (lv_at hl 0 rfl) ?_
  refine lv_iconst (v := 2) hx hb dL_law_534 (by decide) ?_
  refine lv_iadd hx hb dL_law_535 ?_
  refine th_topi (y := 2) (by decide) ?_
  refine lw_sld (j := 2) hx hb hX_1 (by decide) (by decide) (by decide) dL_law_536 ?_
  refine th_topi h2 ?_
  refine th_Vi (A := fun q => B ≤ q) (As := [.int 1, .int 14]) (rest := [.int 0]) E hml hl.1 (c_X12_end_v38 l D cI cS (tq B 178 186) (rq B) hWM H_1 hTM (B + 178) hτM ((hFM.2.2.2.2.1 302 (by decide)).trans (by decide))) lk_L_83 yd_X12_end hTM hτM rfl (by decide) ⟨rfl, fun _ _ => rfl, hS_1.2.2⟩ (fun q h => h.elim) ⟨Nat.le_of_ble_eq_true rfl, Nat.le_of_ble_eq_true rfl⟩ (Nat.le_of_ble_eq_true rfl) ⟨Nat.le_of_ble_eq_true rfl, Nat.le_of_ble_eq_true rfl⟩ rfl dL_law_537 (fun r_2 H_2 locs_2 p_2 hT_2 hk_2 hS_2 => ?_)
  refine th_topi (y := 0) (show (0 : Int32) = r_2 from p_2.2).symm ?_
  have hX_2 : va_X b 4 xs s H_2 := hX_1.kept (hS_2.2.1 b (Nat.not_le.mpr hbB))
  refine lv_icmp_eq (tgt := 766) hx hb dL_law_540 (by decide) (fun c_ => ?_) (fun c_ => absurd (by decide) c_)
  exact kk H_2 locs_2 hS_2.2.2 hX_2
set_option maxHeartbeats 4000000 in
set_option maxRecDepth 100000 in
theorem w_end_38 (E : EE p s m args c cL_law RL D cI cS) (hml : c.maxLocals = 4) (hl : lv_has ls 4 [(3, .int 0), (2, .ref (B + 178)), (1, .ref (B + 0)), (0, .ref b)]) (hWX : WF (tq B 0 178) (rq B)) (hWM : WF (tq B 178 186) (rq B)) (hTX : TH D cI cS (tq B 0 178) (rq B) H) (hFX : FX D B H) (hTM : TH D cI cS (tq B 178 186) (rq B) H) (hFM : FM D B H) (hX : va_X b 4 xs s H) (hbB : b < B) (hlo : ∀ x ∈ locs, B ≤ x.base) (h1 : xs 1 = 1) (h2 : xs 2 = 15) (kk : KL p l e s m args below meth c ls Q B b xs) : WL p l e s m args below meth c H locs ls Q 512 := by
  have hx := E.1
  have hb := E.2.1
  have hτX := ttX B
  have hτM := ttM B
  refine lv_aload_n hx hb dL_law_512 rfl (lv_at hl 2 rfl) ?_
  refine lv_aload_n hx hb dL_law_513 rfl (lv_at hl 3 rfl) ?_
  refine lv_iload_n hx hb dL_law_514 rfl (lv_at hl 0 rfl) ?_
  refine lv_iconst (v := 1) hx hb dL_law_515 (by decide) ?_
  refine lv_iadd hx hb dL_law_516 ?_
  refine th_topi (y := 1) (by decide) ?_
  refine lw_sld (j := 1) hx hb hX (by decide) (by decide) (by decide) dL_law_517 ?_
  refine th_topi h1 ?_
  refine lv_aload_n hx hb dL_law_518 rfl (lv_at hl 3 rfl) ?_
  refine lv_iload_n hx hb dL_law_519 rfl (lv_at hl 0 rfl) ?_
  refine lv_iconst (v := 2) hx hb dL_law_520 (by decide) ?_
  refine lv_iadd hx hb dL_law_521 ?_
  refine th_topi (y := 2) (by decide) ?_
  refine lw_sld (j := 2) hx hb hX (by decide) (by decide) (by decide) dL_law_522 ?_
  refine th_topi h2 ?_
  refine th_Vi (A := fun q => B ≤ q) (As := [.int 1, .int 15]) (rest := []) E hml hl.1 (c_X11_end_v39 l D cI cS (tq B 0 178) (rq B) hWX H hTX (B + 0) hτX hFX.2.2.2.2.2.2.2.2.2.2.2.2.2.2.2.2.2.2.2.2.2.2.2.2.2.2.2.2.2.2.2.2.2.2.2.2.2.2.2.2.2.2.2.1) lk_L_80 yd_X11_end hTX hτX rfl (by decide) ⟨rfl, fun _ _ => rfl, hlo⟩ (fun q h => h.elim) ⟨Nat.le_of_ble_eq_true rfl, Nat.le_of_ble_eq_true rfl⟩ (Nat.le_of_ble_eq_true rfl) ⟨Nat.le_of_ble_eq_true rfl, Nat.le_of_ble_eq_true rfl⟩ rfl dL_law_523 (fun r_1 H_1 locs_1 p_1 hT_1 hk_1 hS_1 => ?_)
  refine th_topi (y := 0) (show (0 : Int32) = r_1 from p_1.2).symm ?_
  have kM : ∀ q, B + 178 ≤ q → H_1[q]? = H[q]? := fun q hq => hk_1 q (fun h => h.elim)
  have hTM := hTM.same (H1 := H_1) (fun q t h => kM q (by obtain ⟨j, rfl, z1, -, -⟩ := tq_some h; omega))
  have hFM := hFM.kept (H1 := H_1) kM
  have hX_1 : va_X b 4 xs s H_1 := hX.kept (hS_1.2.1 b (Nat.not_le.mpr hbB))
  refine lv_aload_n hx hb dL_law_526 rfl (lv_at hl 1 rfl) ?_
  refine lv_aload_n hx hb dL_law_527 rfl (lv_at hl 3 rfl) ?_
  refine lv_iload_n hx hb dL_law_528 rfl (lv_at hl 0 rfl) ?_
  refine lv_iconst (v := 1) hx hb dL_law_529 (by decide) ?_
  refine lv_iadd hx hb dL_law_530 ?_
  refine th_topi (y := 1) (by decide) ?_
  refine lw_sld (j := 1) hx hb hX_1 (by decide) (by decide) (by decide) dL_law_531 ?_
  refine th_topi h1 ?_
  refine lv_aload_n hx hb dL_law_532 rfl (lv_at hl 3 rfl) ?_
  refine lv_iload_n hx hb dL_law_533 rfl (lv_at hl 0 rfl) ?_
  refine lv_iconst (v := 2) hx hb dL_law_534 (by decide) ?_
  refine lv_iadd hx hb dL_law_535 ?_
  refine th_topi (y := 2) (by decide) ?_
  refine lw_sld (j := 2) hx hb hX_1 (by decide) (by decide) (by decide) dL_law_536 ?_
  refine th_topi h2 ?_
  refine th_Vi (A := fun q => B ≤ q) (As := [.int 1, .int 15]) (rest := [.int 0]) E hml hl.1 (c_X12_end_v39 l D cI cS (tq B 178 186) (rq B) hWM H_1 hTM (B + 178) hτM ((hFM.2.2.2.2.1 303 (by decide)).trans (by decide))) lk_L_83 yd_X12_end hTM hτM rfl (by decide) ⟨rfl, fun _ _ => rfl, hS_1.2.2⟩ (fun q h => h.elim) ⟨Nat.le_of_ble_eq_true rfl, Nat.le_of_ble_eq_true rfl⟩ (Nat.le_of_ble_eq_true rfl) ⟨Nat.le_of_ble_eq_true rfl, Nat.le_of_ble_eq_true rfl⟩ rfl dL_law_537 (fun r_2 H_2 locs_2 p_2 hT_2 hk_2 hS_2 => ?_)
  refine th_topi (y := 0) (show (0 : Int32) = r_2 from p_2.2).symm ?_
  have hX_2 : va_X b 4 xs s H_2 := hX_1.kept (hS_2.2.1 b (Nat.not_le.mpr hbB))
  refine lv_icmp_eq (tgt := 766) hx hb dL_law_540 (by decide) (fun c_ => ?_) (fun c_ => absurd (by decide) c_)
  exact kk H_2 locs_2 hS_2.2.2 hX_2
set_option maxHeartbeats 4000000 in
set_option maxRecDepth 100000 in
theorem w_end_39 (E : EE p s m args c cL_law RL D cI cS) (hml : c.maxLocals = 4) (hl : lv_has ls 4 [(3, .int 0), (2, .ref (B + 178)), (1, .ref (B + 0)), (0, .ref b)]) (hWX : WF (tq B 0 178) (rq B)) (hWM : WF (tq B 178 186) (rq B)) (hTX : TH D cI cS (tq B 0 178) (rq B) H) (hFX : FX D B H) (hTM : TH D cI cS (tq B 178 186) (rq B) H) (hFM : FM D B H) (hX : va_X b 4 xs s H) (hbB : b < B) (hlo : ∀ x ∈ locs, B ≤ x.base) (h1 : xs 1 = 1) (h2 : xs 2 = 16) (kk : KL p l e s m args below meth c ls Q B b xs) : WL p l e s m args below meth c H locs ls Q 512 := by
  have hx := E.1
  have hb := E.2.1
  have hτX := ttX B
  have hτM := ttM B
  refine lv_aload_n hx hb dL_law_512 rfl (lv_at hl 2 rfl) ?_
  refine lv_aload_n hx hb dL_law_513 rfl (lv_at hl 3 rfl) ?_
  refine lv_iload_n hx hb dL_law_514 rfl (lv_at hl 0 rfl) ?_
  refine lv_iconst (v := 1) hx hb dL_law_515 (by decide) ?_
  refine lv_iadd hx hb dL_law_516 ?_
  refine th_topi (y := 1) (by decide) ?_
  refine lw_sld (j := 1) hx hb hX (by decide) (by decide) (by decide) dL_law_517 ?_
  refine th_topi h1 ?_
  refine lv_aload_n hx hb dL_law_518 rfl (lv_at hl 3 rfl) ?_
  refine lv_iload_n hx hb dL_law_519 rfl (lv_at hl 0 rfl) ?_
  refine lv_iconst (v := 2) hx hb dL_law_520 (by decide) ?_
  refine lv_iadd hx hb dL_law_521 ?_
  refine th_topi (y := 2) (by decide) ?_
  refine lw_sld (j := 2) hx hb hX (by decide) (by decide) (by decide) dL_law_522 ?_
  refine th_topi h2 ?_
  refine th_Vi (A := fun q => B ≤ q) (As := [.int 1, .int 16]) (rest := []) E hml hl.1 (c_X11_end_v40 l D cI cS (tq B 0 178) (rq B) hWX H hTX (B + 0) hτX hFX.2.2.2.2.2.2.2.2.2.2.2.2.2.2.2.2.2.2.2.2.2.2.2.2.2.2.2.2.2.2.2.2.2.2.2.2.1) lk_L_80 yd_X11_end hTX hτX rfl (by decide) ⟨rfl, fun _ _ => rfl, hlo⟩ (fun q h => h.elim) ⟨Nat.le_of_ble_eq_true rfl, Nat.le_of_ble_eq_true rfl⟩ (Nat.le_of_ble_eq_true rfl) ⟨Nat.le_of_ble_eq_true rfl, Nat.le_of_ble_eq_true rfl⟩ rfl dL_law_523 (fun r_1 H_1 locs_1 p_1 hT_1 hk_1 hS_1 => ?_)
  refine th_topi (y := (-4)) (show ((-4) : Int32) = r_1 from p_1.2).symm ?_
  have kM : ∀ q, B + 178 ≤ q → H_1[q]? = H[q]? := fun q hq => hk_1 q (fun h => h.elim)
  have hTM := hTM.same (H1 := H_1) (fun q t h => kM q (by obtain ⟨j, rfl, z1, -, -⟩ := tq_some h; omega))
  have hFM := hFM.kept (H1 := H_1) kM
  have hX_1 : va_X b 4 xs s H_1 := hX.kept (hS_1.2.1 b (Nat.not_le.mpr hbB))
  refine lv_aload_n hx hb dL_law_526 rfl (lv_at hl 1 rfl) ?_
  refine lv_aload_n hx hb dL_law_527 rfl (lv_at hl 3 rfl) ?_
  refine lv_iload_n hx hb dL_law_528 rfl (lv_at hl 0 rfl) ?_
  refine lv_iconst (v := 1) hx hb dL_law_529 (by decide) ?_
  refine lv_iadd hx hb dL_law_530 ?_
  refine th_topi (y := 1) (by decide) ?_
  refine lw_sld (j := 1) hx hb hX_1 (by decide) (by decide) (by decide) dL_law_531 ?_
  refine th_topi h1 ?_
  refine lv_aload_n hx hb dL_law_532 rfl (lv_at hl 3 rfl) ?_
  refine lv_iload_n hx hb dL_law_533 rfl (lv_at hl 0 rfl) ?_
  refine lv_iconst (v := 2) hx hb dL_law_534 (by decide) ?_
  refine lv_iadd hx hb dL_law_535 ?_
  refine th_topi (y := 2) (by decide) ?_
  refine lw_sld (j := 2) hx hb hX_1 (by decide) (by decide) (by decide) dL_law_536 ?_
  refine th_topi h2 ?_
  refine th_Vi (A := fun q => B ≤ q) (As := [.int 1, .int 16]) (rest := [.int (-4)]) E hml hl.1 (c_X12_end_v40 l D cI cS (tq B 178 186) (rq B) hWM H_1 hTM (B + 178) hτM ((hFM.2.2.2.2.1 304 (by decide)).trans (by decide))) lk_L_83 yd_X12_end hTM hτM rfl (by decide) ⟨rfl, fun _ _ => rfl, hS_1.2.2⟩ (fun q h => h.elim) ⟨Nat.le_of_ble_eq_true rfl, Nat.le_of_ble_eq_true rfl⟩ (Nat.le_of_ble_eq_true rfl) ⟨Nat.le_of_ble_eq_true rfl, Nat.le_of_ble_eq_true rfl⟩ rfl dL_law_537 (fun r_2 H_2 locs_2 p_2 hT_2 hk_2 hS_2 => ?_)
  refine th_topi (y := (-4)) (show ((-4) : Int32) = r_2 from p_2.2).symm ?_
  have hX_2 : va_X b 4 xs s H_2 := hX_1.kept (hS_2.2.1 b (Nat.not_le.mpr hbB))
  refine lv_icmp_eq (tgt := 766) hx hb dL_law_540 (by decide) (fun c_ => ?_) (fun c_ => absurd (by decide) c_)
  exact kk H_2 locs_2 hS_2.2.2 hX_2
set_option maxHeartbeats 4000000 in
set_option maxRecDepth 100000 in
theorem w_end_40 (E : EE p s m args c cL_law RL D cI cS) (hml : c.maxLocals = 4) (hl : lv_has ls 4 [(3, .int 0), (2, .ref (B + 178)), (1, .ref (B + 0)), (0, .ref b)]) (hWX : WF (tq B 0 178) (rq B)) (hWM : WF (tq B 178 186) (rq B)) (hTX : TH D cI cS (tq B 0 178) (rq B) H) (hFX : FX D B H) (hTM : TH D cI cS (tq B 178 186) (rq B) H) (hFM : FM D B H) (hX : va_X b 4 xs s H) (hbB : b < B) (hlo : ∀ x ∈ locs, B ≤ x.base) (h1 : xs 1 = 1) (h2 : xs 2 = 17) (kk : KL p l e s m args below meth c ls Q B b xs) : WL p l e s m args below meth c H locs ls Q 512 := by
  have hx := E.1
  have hb := E.2.1
  have hτX := ttX B
  have hτM := ttM B
  refine lv_aload_n hx hb dL_law_512 rfl (lv_at hl 2 rfl) ?_
  refine lv_aload_n hx hb dL_law_513 rfl (lv_at hl 3 rfl) ?_
  refine lv_iload_n hx hb dL_law_514 rfl (lv_at hl 0 rfl) ?_
  refine lv_iconst (v := 1) hx hb dL_law_515 (by decide) ?_
  refine lv_iadd hx hb dL_law_516 ?_
  refine th_topi (y := 1) (by decide) ?_
  refine lw_sld (j := 1) hx hb hX (by decide) (by decide) (by decide) dL_law_517 ?_
  refine th_topi h1 ?_
  refine lv_aload_n hx hb dL_law_518 rfl (lv_at hl 3 rfl) ?_
  refine lv_iload_n hx hb dL_law_519 rfl (lv_at hl 0 rfl) ?_
  refine lv_iconst (v := 2) hx hb dL_law_520 (by decide) ?_
  refine lv_iadd hx hb dL_law_521 ?_
  refine th_topi (y := 2) (by decide) ?_
  refine lw_sld (j := 2) hx hb hX (by decide) (by decide) (by decide) dL_law_522 ?_
  refine th_topi h2 ?_
  refine th_Vi (A := fun q => B ≤ q) (As := [.int 1, .int 17]) (rest := []) E hml hl.1 (c_X11_end_v41 l D cI cS (tq B 0 178) (rq B) hWX H hTX (B + 0) hτX hFX.2.2.2.2.2.2.2.2.2.2.2.2.2.2.2.2.2.2.2.2.2.2.2.2.2.2.2.2.2.2.2.2.2.2.2.2.2.2.2.2.2.2.1) lk_L_80 yd_X11_end hTX hτX rfl (by decide) ⟨rfl, fun _ _ => rfl, hlo⟩ (fun q h => h.elim) ⟨Nat.le_of_ble_eq_true rfl, Nat.le_of_ble_eq_true rfl⟩ (Nat.le_of_ble_eq_true rfl) ⟨Nat.le_of_ble_eq_true rfl, Nat.le_of_ble_eq_true rfl⟩ rfl dL_law_523 (fun r_1 H_1 locs_1 p_1 hT_1 hk_1 hS_1 => ?_)
  refine th_topi (y := (-4)) (show ((-4) : Int32) = r_1 from p_1.2).symm ?_
  have kM : ∀ q, B + 178 ≤ q → H_1[q]? = H[q]? := fun q hq => hk_1 q (fun h => h.elim)
  have hTM := hTM.same (H1 := H_1) (fun q t h => kM q (by obtain ⟨j, rfl, z1, -, -⟩ := tq_some h; omega))
  have hFM := hFM.kept (H1 := H_1) kM
  have hX_1 : va_X b 4 xs s H_1 := hX.kept (hS_1.2.1 b (Nat.not_le.mpr hbB))
  refine lv_aload_n hx hb dL_law_526 rfl (lv_at hl 1 rfl) ?_
  refine lv_aload_n hx hb dL_law_527 rfl (lv_at hl 3 rfl) ?_
  refine lv_iload_n hx hb dL_law_528 rfl (lv_at hl 0 rfl) ?_
  refine lv_iconst (v := 1) hx hb dL_law_529 (by decide) ?_
  refine lv_iadd hx hb dL_law_530 ?_
  refine th_topi (y := 1) (by decide) ?_
  refine lw_sld (j := 1) hx hb hX_1 (by decide) (by decide) (by decide) dL_law_531 ?_
  refine th_topi h1 ?_
  refine lv_aload_n hx hb dL_law_532 rfl (lv_at hl 3 rfl) ?_
  refine lv_iload_n hx hb dL_law_533 rfl (lv_at hl 0 rfl) ?_
  refine lv_iconst (v := 2) hx hb dL_law_534 (by decide) ?_
  refine lv_iadd hx hb dL_law_535 ?_
  refine th_topi (y := 2) (by decide) ?_
  refine lw_sld (j := 2) hx hb hX_1 (by decide) (by decide) (by decide) dL_law_536 ?_
  refine th_topi h2 ?_
  refine th_Vi (A := fun q => B ≤ q) (As := [.int 1, .int 17]) (rest := [.int (-4)]) E hml hl.1 (c_X12_end_v41 l D cI cS (tq B 178 186) (rq B) hWM H_1 hTM (B + 178) hτM ((hFM.2.2.2.2.1 305 (by decide)).trans (by decide))) lk_L_83 yd_X12_end hTM hτM rfl (by decide) ⟨rfl, fun _ _ => rfl, hS_1.2.2⟩ (fun q h => h.elim) ⟨Nat.le_of_ble_eq_true rfl, Nat.le_of_ble_eq_true rfl⟩ (Nat.le_of_ble_eq_true rfl) ⟨Nat.le_of_ble_eq_true rfl, Nat.le_of_ble_eq_true rfl⟩ rfl dL_law_537 (fun r_2 H_2 locs_2 p_2 hT_2 hk_2 hS_2 => ?_)
  refine th_topi (y := (-4)) (show ((-4) : Int32) = r_2 from p_2.2).symm ?_
  have hX_2 : va_X b 4 xs s H_2 := hX_1.kept (hS_2.2.1 b (Nat.not_le.mpr hbB))
  refine lv_icmp_eq (tgt := 766) hx hb dL_law_540 (by decide) (fun c_ => ?_) (fun c_ => absurd (by decide) c_)
  exact kk H_2 locs_2 hS_2.2.2 hX_2
set_option maxHeartbeats 4000000 in
set_option maxRecDepth 100000 in
theorem w_end_41 (E : EE p s m args c cL_law RL D cI cS) (hml : c.maxLocals = 4) (hl : lv_has ls 4 [(3, .int 0), (2, .ref (B + 178)), (1, .ref (B + 0)), (0, .ref b)]) (hWX : WF (tq B 0 178) (rq B)) (hWM : WF (tq B 178 186) (rq B)) (hTX : TH D cI cS (tq B 0 178) (rq B) H) (hFX : FX D B H) (hTM : TH D cI cS (tq B 178 186) (rq B) H) (hFM : FM D B H) (hX : va_X b 4 xs s H) (hbB : b < B) (hlo : ∀ x ∈ locs, B ≤ x.base) (h1 : xs 1 = 1) (l2 : 18 ≤ (xs 2).toInt) (kk : KL p l e s m args below meth c ls Q B b xs) : WL p l e s m args below meth c H locs ls Q 512 := by
  have hx := E.1
  have hb := E.2.1
  have hτX := ttX B
  have hτM := ttM B
  refine lv_aload_n hx hb dL_law_512 rfl (lv_at hl 2 rfl) ?_
  refine lv_aload_n hx hb dL_law_513 rfl (lv_at hl 3 rfl) ?_
  refine lv_iload_n hx hb dL_law_514 rfl (lv_at hl 0 rfl) ?_
  refine lv_iconst (v := 1) hx hb dL_law_515 (by decide) ?_
  refine lv_iadd hx hb dL_law_516 ?_
  refine th_topi (y := 1) (by decide) ?_
  refine lw_sld (j := 1) hx hb hX (by decide) (by decide) (by decide) dL_law_517 ?_
  refine th_topi h1 ?_
  refine lv_aload_n hx hb dL_law_518 rfl (lv_at hl 3 rfl) ?_
  refine lv_iload_n hx hb dL_law_519 rfl (lv_at hl 0 rfl) ?_
  refine lv_iconst (v := 2) hx hb dL_law_520 (by decide) ?_
  refine lv_iadd hx hb dL_law_521 ?_
  refine th_topi (y := 2) (by decide) ?_
  refine lw_sld (j := 2) hx hb hX (by decide) (by decide) (by decide) dL_law_522 ?_
  refine th_Vi (A := fun q => B ≤ q) (As := [.int 1, .int (xs 2)]) (rest := []) E hml hl.1 (c_X11_end_v42 l D cI cS (tq B 0 178) (rq B) hWX H hTX (B + 0) (xs 2) hτX l2) lk_L_80 yd_X11_end hTX hτX rfl (by decide) ⟨rfl, fun _ _ => rfl, hlo⟩ (fun q h => h.elim) ⟨Nat.le_of_ble_eq_true rfl, Nat.le_of_ble_eq_true rfl⟩ (Nat.le_of_ble_eq_true rfl) ⟨Nat.le_of_ble_eq_true rfl, Nat.le_of_ble_eq_true rfl⟩ rfl dL_law_523 (fun r_1 H_1 locs_1 p_1 hT_1 hk_1 hS_1 => ?_)
  refine th_topi (y := (-1)) (show ((-1) : Int32) = r_1 from p_1.2).symm ?_
  have kM : ∀ q, B + 178 ≤ q → H_1[q]? = H[q]? := fun q hq => hk_1 q (fun h => h.elim)
  have hTM := hTM.same (H1 := H_1) (fun q t h => kM q (by obtain ⟨j, rfl, z1, -, -⟩ := tq_some h; omega))
  have hFM := hFM.kept (H1 := H_1) kM
  have hX_1 : va_X b 4 xs s H_1 := hX.kept (hS_1.2.1 b (Nat.not_le.mpr hbB))
  refine lv_aload_n hx hb dL_law_526 rfl (lv_at hl 1 rfl) ?_
  refine lv_aload_n hx hb dL_law_527 rfl (lv_at hl 3 rfl) ?_
  refine lv_iload_n hx hb dL_law_528 rfl (lv_at hl 0 rfl) ?_
  refine lv_iconst (v := 1) hx hb dL_law_529 (by decide) ?_
  refine lv_iadd hx hb dL_law_530 ?_
  refine th_topi (y := 1) (by decide) ?_
  refine lw_sld (j := 1) hx hb hX_1 (by decide) (by decide) (by decide) dL_law_531 ?_
  refine th_topi h1 ?_
  refine lv_aload_n hx hb dL_law_532 rfl (lv_at hl 3 rfl) ?_
  refine lv_iload_n hx hb dL_law_533 rfl (lv_at hl 0 rfl) ?_
  refine lv_iconst (v := 2) hx hb dL_law_534 (by decide) ?_
  refine lv_iadd hx hb dL_law_535 ?_
  refine th_topi (y := 2) (by decide) ?_
  refine lw_sld (j := 2) hx hb hX_1 (by decide) (by decide) (by decide) dL_law_536 ?_
  refine th_Vi (A := fun q => B ≤ q) (As := [.int 1, .int (xs 2)]) (rest := [.int (-1)]) E hml hl.1 (c_X12_end_v42 l D cI cS (tq B 178 186) (rq B) hWM H_1 hTM (B + 178) (xs 2) hτM l2) lk_L_83 yd_X12_end hTM hτM rfl (by decide) ⟨rfl, fun _ _ => rfl, hS_1.2.2⟩ (fun q h => h.elim) ⟨Nat.le_of_ble_eq_true rfl, Nat.le_of_ble_eq_true rfl⟩ (Nat.le_of_ble_eq_true rfl) ⟨Nat.le_of_ble_eq_true rfl, Nat.le_of_ble_eq_true rfl⟩ rfl dL_law_537 (fun r_2 H_2 locs_2 p_2 hT_2 hk_2 hS_2 => ?_)
  refine th_topi (y := (-1)) (show ((-1) : Int32) = r_2 from p_2.2).symm ?_
  have hX_2 : va_X b 4 xs s H_2 := hX_1.kept (hS_2.2.1 b (Nat.not_le.mpr hbB))
  refine lv_icmp_eq (tgt := 766) hx hb dL_law_540 (by decide) (fun c_ => ?_) (fun c_ => absurd (by decide) c_)
  exact kk H_2 locs_2 hS_2.2.2 hX_2
theorem w_end (E : EE p s m args c cL_law RL D cI cS) (hml : c.maxLocals = 4) (hl : lv_has ls 4 [(3, .int 0), (2, .ref (B + 178)), (1, .ref (B + 0)), (0, .ref b)]) (hWX : WF (tq B 0 178) (rq B)) (hWM : WF (tq B 178 186) (rq B)) (hTX : TH D cI cS (tq B 0 178) (rq B) H) (hFX : FX D B H) (hTM : TH D cI cS (tq B 178 186) (rq B) H) (hFM : FM D B H) (hX : va_X b 4 xs s H) (hbB : b < B) (hlo : ∀ x ∈ locs, B ≤ x.base) (kk : KL p l e s m args below meth c ls Q B b xs) : WL p l e s m args below meth c H locs ls Q 512 := by
  rcases (show (xs 1).toInt ≤ -1 ∨ 2 ≤ (xs 1).toInt ∨ (xs 1).toInt = 0 ∨ (xs 1).toInt = 1 by omega) with g1 | l1 | t1 | t1
  · exact w_end_0 E hml hl hWX hWM hTX hFX hTM hFM hX hbB hlo g1 kk
  · exact w_end_1 E hml hl hWX hWM hTX hFX hTM hFM hX hbB hlo l1 kk
  · have h1 : xs 1 = 0 := i_eq t1 (by decide)
    rcases (show (xs 2).toInt ≤ -1 ∨ (xs 2).toInt = 0 ∨ (xs 2).toInt = 1 ∨ (xs 2).toInt = 2 ∨ (xs 2).toInt = 3 ∨ (xs 2).toInt = 4 ∨ (xs 2).toInt = 5 ∨ (xs 2).toInt = 6 ∨ (xs 2).toInt = 7 ∨ (xs 2).toInt = 8 ∨ (xs 2).toInt = 9 ∨ (xs 2).toInt = 10 ∨ (xs 2).toInt = 11 ∨ (xs 2).toInt = 12 ∨ (xs 2).toInt = 13 ∨ (xs 2).toInt = 14 ∨ (xs 2).toInt = 15 ∨ (xs 2).toInt = 16 ∨ (xs 2).toInt = 17 ∨ 18 ≤ (xs 2).toInt by omega) with g2 | t2 | t2 | t2 | t2 | t2 | t2 | t2 | t2 | t2 | t2 | t2 | t2 | t2 | t2 | t2 | t2 | t2 | t2 | l2
    · exact w_end_2 E hml hl hWX hWM hTX hFX hTM hFM hX hbB hlo h1 g2 kk
    · have h2 : xs 2 = 0 := i_eq t2 (by decide)
      exact w_end_3 E hml hl hWX hWM hTX hFX hTM hFM hX hbB hlo h1 h2 kk
    · have h2 : xs 2 = 1 := i_eq t2 (by decide)
      exact w_end_4 E hml hl hWX hWM hTX hFX hTM hFM hX hbB hlo h1 h2 kk
    · have h2 : xs 2 = 2 := i_eq t2 (by decide)
      exact w_end_5 E hml hl hWX hWM hTX hFX hTM hFM hX hbB hlo h1 h2 kk
    · have h2 : xs 2 = 3 := i_eq t2 (by decide)
      exact w_end_6 E hml hl hWX hWM hTX hFX hTM hFM hX hbB hlo h1 h2 kk
    · have h2 : xs 2 = 4 := i_eq t2 (by decide)
      exact w_end_7 E hml hl hWX hWM hTX hFX hTM hFM hX hbB hlo h1 h2 kk
    · have h2 : xs 2 = 5 := i_eq t2 (by decide)
      exact w_end_8 E hml hl hWX hWM hTX hFX hTM hFM hX hbB hlo h1 h2 kk
    · have h2 : xs 2 = 6 := i_eq t2 (by decide)
      exact w_end_9 E hml hl hWX hWM hTX hFX hTM hFM hX hbB hlo h1 h2 kk
    · have h2 : xs 2 = 7 := i_eq t2 (by decide)
      exact w_end_10 E hml hl hWX hWM hTX hFX hTM hFM hX hbB hlo h1 h2 kk
    · have h2 : xs 2 = 8 := i_eq t2 (by decide)
      exact w_end_11 E hml hl hWX hWM hTX hFX hTM hFM hX hbB hlo h1 h2 kk
    · have h2 : xs 2 = 9 := i_eq t2 (by decide)
      exact w_end_12 E hml hl hWX hWM hTX hFX hTM hFM hX hbB hlo h1 h2 kk
    · have h2 : xs 2 = 10 := i_eq t2 (by decide)
      exact w_end_13 E hml hl hWX hWM hTX hFX hTM hFM hX hbB hlo h1 h2 kk
    · have h2 : xs 2 = 11 := i_eq t2 (by decide)
      exact w_end_14 E hml hl hWX hWM hTX hFX hTM hFM hX hbB hlo h1 h2 kk
    · have h2 : xs 2 = 12 := i_eq t2 (by decide)
      exact w_end_15 E hml hl hWX hWM hTX hFX hTM hFM hX hbB hlo h1 h2 kk
    · have h2 : xs 2 = 13 := i_eq t2 (by decide)
      exact w_end_16 E hml hl hWX hWM hTX hFX hTM hFM hX hbB hlo h1 h2 kk
    · have h2 : xs 2 = 14 := i_eq t2 (by decide)
      exact w_end_17 E hml hl hWX hWM hTX hFX hTM hFM hX hbB hlo h1 h2 kk
    · have h2 : xs 2 = 15 := i_eq t2 (by decide)
      exact w_end_18 E hml hl hWX hWM hTX hFX hTM hFM hX hbB hlo h1 h2 kk
    · have h2 : xs 2 = 16 := i_eq t2 (by decide)
      exact w_end_19 E hml hl hWX hWM hTX hFX hTM hFM hX hbB hlo h1 h2 kk
    · have h2 : xs 2 = 17 := i_eq t2 (by decide)
      exact w_end_20 E hml hl hWX hWM hTX hFX hTM hFM hX hbB hlo h1 h2 kk
    · exact w_end_21 E hml hl hWX hWM hTX hFX hTM hFM hX hbB hlo h1 l2 kk
  · have h1 : xs 1 = 1 := i_eq t1 (by decide)
    rcases (show (xs 2).toInt ≤ -1 ∨ (xs 2).toInt = 0 ∨ (xs 2).toInt = 1 ∨ (xs 2).toInt = 2 ∨ (xs 2).toInt = 3 ∨ (xs 2).toInt = 4 ∨ (xs 2).toInt = 5 ∨ (xs 2).toInt = 6 ∨ (xs 2).toInt = 7 ∨ (xs 2).toInt = 8 ∨ (xs 2).toInt = 9 ∨ (xs 2).toInt = 10 ∨ (xs 2).toInt = 11 ∨ (xs 2).toInt = 12 ∨ (xs 2).toInt = 13 ∨ (xs 2).toInt = 14 ∨ (xs 2).toInt = 15 ∨ (xs 2).toInt = 16 ∨ (xs 2).toInt = 17 ∨ 18 ≤ (xs 2).toInt by omega) with g2 | t2 | t2 | t2 | t2 | t2 | t2 | t2 | t2 | t2 | t2 | t2 | t2 | t2 | t2 | t2 | t2 | t2 | t2 | l2
    · exact w_end_22 E hml hl hWX hWM hTX hFX hTM hFM hX hbB hlo h1 g2 kk
    · have h2 : xs 2 = 0 := i_eq t2 (by decide)
      exact w_end_23 E hml hl hWX hWM hTX hFX hTM hFM hX hbB hlo h1 h2 kk
    · have h2 : xs 2 = 1 := i_eq t2 (by decide)
      exact w_end_24 E hml hl hWX hWM hTX hFX hTM hFM hX hbB hlo h1 h2 kk
    · have h2 : xs 2 = 2 := i_eq t2 (by decide)
      exact w_end_25 E hml hl hWX hWM hTX hFX hTM hFM hX hbB hlo h1 h2 kk
    · have h2 : xs 2 = 3 := i_eq t2 (by decide)
      exact w_end_26 E hml hl hWX hWM hTX hFX hTM hFM hX hbB hlo h1 h2 kk
    · have h2 : xs 2 = 4 := i_eq t2 (by decide)
      exact w_end_27 E hml hl hWX hWM hTX hFX hTM hFM hX hbB hlo h1 h2 kk
    · have h2 : xs 2 = 5 := i_eq t2 (by decide)
      exact w_end_28 E hml hl hWX hWM hTX hFX hTM hFM hX hbB hlo h1 h2 kk
    · have h2 : xs 2 = 6 := i_eq t2 (by decide)
      exact w_end_29 E hml hl hWX hWM hTX hFX hTM hFM hX hbB hlo h1 h2 kk
    · have h2 : xs 2 = 7 := i_eq t2 (by decide)
      exact w_end_30 E hml hl hWX hWM hTX hFX hTM hFM hX hbB hlo h1 h2 kk
    · have h2 : xs 2 = 8 := i_eq t2 (by decide)
      exact w_end_31 E hml hl hWX hWM hTX hFX hTM hFM hX hbB hlo h1 h2 kk
    · have h2 : xs 2 = 9 := i_eq t2 (by decide)
      exact w_end_32 E hml hl hWX hWM hTX hFX hTM hFM hX hbB hlo h1 h2 kk
    · have h2 : xs 2 = 10 := i_eq t2 (by decide)
      exact w_end_33 E hml hl hWX hWM hTX hFX hTM hFM hX hbB hlo h1 h2 kk
    · have h2 : xs 2 = 11 := i_eq t2 (by decide)
      exact w_end_34 E hml hl hWX hWM hTX hFX hTM hFM hX hbB hlo h1 h2 kk
    · have h2 : xs 2 = 12 := i_eq t2 (by decide)
      exact w_end_35 E hml hl hWX hWM hTX hFX hTM hFM hX hbB hlo h1 h2 kk
    · have h2 : xs 2 = 13 := i_eq t2 (by decide)
      exact w_end_36 E hml hl hWX hWM hTX hFX hTM hFM hX hbB hlo h1 h2 kk
    · have h2 : xs 2 = 14 := i_eq t2 (by decide)
      exact w_end_37 E hml hl hWX hWM hTX hFX hTM hFM hX hbB hlo h1 h2 kk
    · have h2 : xs 2 = 15 := i_eq t2 (by decide)
      exact w_end_38 E hml hl hWX hWM hTX hFX hTM hFM hX hbB hlo h1 h2 kk
    · have h2 : xs 2 = 16 := i_eq t2 (by decide)
      exact w_end_39 E hml hl hWX hWM hTX hFX hTM hFM hX hbB hlo h1 h2 kk
    · have h2 : xs 2 = 17 := i_eq t2 (by decide)
      exact w_end_40 E hml hl hWX hWM hTX hFX hTM hFM hX hbB hlo h1 h2 kk
    · exact w_end_41 E hml hl hWX hWM hTX hFX hTM hFM hX hbB hlo h1 l2 kk
set_option maxHeartbeats 4000000 in
set_option maxRecDepth 100000 in
theorem w_sample_0 (E : EE p s m args c cL_law RL D cI cS) (hml : c.maxLocals = 4) (hl : lv_has ls 4 [(3, .int 0), (2, .ref (B + 178)), (1, .ref (B + 0)), (0, .ref b)]) (hWX : WF (tq B 0 178) (rq B)) (hWM : WF (tq B 178 186) (rq B)) (hTX : TH D cI cS (tq B 0 178) (rq B) H) (hFX : FX D B H) (hTM : TH D cI cS (tq B 178 186) (rq B) H) (hFM : FM D B H) (hX : va_X b 4 xs s H) (hbB : b < B) (hlo : ∀ x ∈ locs, B ≤ x.base) (g1 : (xs 1).toInt ≤ -1) (kk : KL p l e s m args below meth c ls Q B b xs) : WL p l e s m args below meth c H locs ls Q 545 := by
  have hx := E.1
  have hb := E.2.1
  have hτX := ttX B
  have hτM := ttM B
  refine lv_aload_n hx hb dL_law_545 rfl (lv_at hl 2 rfl) ?_
  refine lv_aload_n hx hb dL_law_546 rfl (lv_at hl 3 rfl) ?_
  refine lv_iload_n hx hb dL_law_547 rfl (lv_at hl 0 rfl) ?_
  refine lv_iconst (v := 1) hx hb dL_law_548 (by decide) ?_
  refine lv_iadd hx hb dL_law_549 ?_
  refine th_topi (y := 1) (by decide) ?_
  refine lw_sld (j := 1) hx hb hX (by decide) (by decide) (by decide) dL_law_550 ?_
  refine lv_aload_n hx hb dL_law_551 rfl (lv_at hl 3 rfl) ?_
  refine lv_iload_n hx hb dL_law_552 rfl (lv_at hl 0 rfl) ?_
  refine lv_iconst (v := 2) hx hb dL_law_553 (by decide) ?_
  refine lv_iadd hx hb dL_law_554 ?_
  refine th_topi (y := 2) (by decide) ?_
  refine lw_sld (j := 2) hx hb hX (by decide) (by decide) (by decide) dL_law_555 ?_
  refine th_Vi (A := fun q => B ≤ q) (As := [.int (xs 1), .int (xs 2)]) (rest := []) E hml hl.1 (c_X11_sample l D cI cS (tq B 0 178) (rq B) hWX H hTX (B + 0) (xs 1) (xs 2) hτX g1) lk_L_84 yd_X11_sample hTX hτX rfl (by decide) ⟨rfl, fun _ _ => rfl, hlo⟩ (fun q h => h.elim) ⟨Nat.le_of_ble_eq_true rfl, Nat.le_of_ble_eq_true rfl⟩ (Nat.le_of_ble_eq_true rfl) ⟨Nat.le_of_ble_eq_true rfl, Nat.le_of_ble_eq_true rfl⟩ rfl dL_law_556 (fun r_1 H_1 locs_1 p_1 hT_1 hk_1 hS_1 => ?_)
  refine th_topi (y := (-1)) (show ((-1) : Int32) = r_1 from p_1.2).symm ?_
  have kM : ∀ q, B + 178 ≤ q → H_1[q]? = H[q]? := fun q hq => hk_1 q (fun h => h.elim)
  have hTM := hTM.same (H1 := H_1) (fun q t h => kM q (by obtain ⟨j, rfl, z1, -, -⟩ := tq_some h; omega))
  have hFM := hFM.kept (H1 := H_1) kM
  have hX_1 : va_X b 4 xs s H_1 := hX.kept (hS_1.2.1 b (Nat.not_le.mpr hbB))
  refine lv_aload_n hx hb dL_law_559 rfl (lv_at hl 1 rfl) ?_
  refine lv_aload_n hx hb dL_law_560 rfl (lv_at hl 3 rfl) ?_
  refine lv_iload_n hx hb dL_law_561 rfl (lv_at hl 0 rfl) ?_
  refine lv_iconst (v := 1) hx hb dL_law_562 (by decide) ?_
  refine lv_iadd hx hb dL_law_563 ?_
  refine th_topi (y := 1) (by decide) ?_
  refine lw_sld (j := 1) hx hb hX_1 (by decide) (by decide) (by decide) dL_law_564 ?_
  refine lv_aload_n hx hb dL_law_565 rfl (lv_at hl 3 rfl) ?_
  refine lv_iload_n hx hb dL_law_566 rfl (lv_at hl 0 rfl) ?_
  refine lv_iconst (v := 2) hx hb dL_law_567 (by decide) ?_
  refine lv_iadd hx hb dL_law_568 ?_
  refine th_topi (y := 2) (by decide) ?_
  refine lw_sld (j := 2) hx hb hX_1 (by decide) (by decide) (by decide) dL_law_569 ?_
  refine th_Vi (A := fun q => B ≤ q) (As := [.int (xs 1), .int (xs 2)]) (rest := [.int (-1)]) E hml hl.1 (c_X12_sample l D cI cS (tq B 178 186) (rq B) hWM H_1 hTM (B + 178) (xs 1) (xs 2) hτM g1) lk_L_87 yd_X12_sample hTM hτM rfl (by decide) ⟨rfl, fun _ _ => rfl, hS_1.2.2⟩ (fun q h => h.elim) ⟨Nat.le_of_ble_eq_true rfl, Nat.le_of_ble_eq_true rfl⟩ (Nat.le_of_ble_eq_true rfl) ⟨Nat.le_of_ble_eq_true rfl, Nat.le_of_ble_eq_true rfl⟩ rfl dL_law_570 (fun r_2 H_2 locs_2 p_2 hT_2 hk_2 hS_2 => ?_)
  refine th_topi (y := (-1)) (show ((-1) : Int32) = r_2 from p_2.2).symm ?_
  have hX_2 : va_X b 4 xs s H_2 := hX_1.kept (hS_2.2.1 b (Nat.not_le.mpr hbB))
  refine lv_icmp_eq (tgt := 766) hx hb dL_law_573 (by decide) (fun c_ => ?_) (fun c_ => absurd (by decide) c_)
  exact kk H_2 locs_2 hS_2.2.2 hX_2
set_option maxHeartbeats 4000000 in
set_option maxRecDepth 100000 in
theorem w_sample_1 (E : EE p s m args c cL_law RL D cI cS) (hml : c.maxLocals = 4) (hl : lv_has ls 4 [(3, .int 0), (2, .ref (B + 178)), (1, .ref (B + 0)), (0, .ref b)]) (hWX : WF (tq B 0 178) (rq B)) (hWM : WF (tq B 178 186) (rq B)) (hTX : TH D cI cS (tq B 0 178) (rq B) H) (hFX : FX D B H) (hTM : TH D cI cS (tq B 178 186) (rq B) H) (hFM : FM D B H) (hX : va_X b 4 xs s H) (hbB : b < B) (hlo : ∀ x ∈ locs, B ≤ x.base) (l1 : 2 ≤ (xs 1).toInt) (kk : KL p l e s m args below meth c ls Q B b xs) : WL p l e s m args below meth c H locs ls Q 545 := by
  have hx := E.1
  have hb := E.2.1
  have hτX := ttX B
  have hτM := ttM B
  refine lv_aload_n hx hb dL_law_545 rfl (lv_at hl 2 rfl) ?_
  refine lv_aload_n hx hb dL_law_546 rfl (lv_at hl 3 rfl) ?_
  refine lv_iload_n hx hb dL_law_547 rfl (lv_at hl 0 rfl) ?_
  refine lv_iconst (v := 1) hx hb dL_law_548 (by decide) ?_
  refine lv_iadd hx hb dL_law_549 ?_
  refine th_topi (y := 1) (by decide) ?_
  refine lw_sld (j := 1) hx hb hX (by decide) (by decide) (by decide) dL_law_550 ?_
  refine lv_aload_n hx hb dL_law_551 rfl (lv_at hl 3 rfl) ?_
  refine lv_iload_n hx hb dL_law_552 rfl (lv_at hl 0 rfl) ?_
  refine lv_iconst (v := 2) hx hb dL_law_553 (by decide) ?_
  refine lv_iadd hx hb dL_law_554 ?_
  refine th_topi (y := 2) (by decide) ?_
  refine lw_sld (j := 2) hx hb hX (by decide) (by decide) (by decide) dL_law_555 ?_
  refine th_Vi (A := fun q => B ≤ q) (As := [.int (xs 1), .int (xs 2)]) (rest := []) E hml hl.1 (c_X11_sample_v2 l D cI cS (tq B 0 178) (rq B) hWX H hTX (B + 0) (xs 1) (xs 2) hτX l1) lk_L_84 yd_X11_sample hTX hτX rfl (by decide) ⟨rfl, fun _ _ => rfl, hlo⟩ (fun q h => h.elim) ⟨Nat.le_of_ble_eq_true rfl, Nat.le_of_ble_eq_true rfl⟩ (Nat.le_of_ble_eq_true rfl) ⟨Nat.le_of_ble_eq_true rfl, Nat.le_of_ble_eq_true rfl⟩ rfl dL_law_556 (fun r_1 H_1 locs_1 p_1 hT_1 hk_1 hS_1 => ?_)
  refine th_topi (y := (-1)) (show ((-1) : Int32) = r_1 from p_1.2).symm ?_
  have kM : ∀ q, B + 178 ≤ q → H_1[q]? = H[q]? := fun q hq => hk_1 q (fun h => h.elim)
  have hTM := hTM.same (H1 := H_1) (fun q t h => kM q (by obtain ⟨j, rfl, z1, -, -⟩ := tq_some h; omega))
  have hFM := hFM.kept (H1 := H_1) kM
  have hX_1 : va_X b 4 xs s H_1 := hX.kept (hS_1.2.1 b (Nat.not_le.mpr hbB))
  refine lv_aload_n hx hb dL_law_559 rfl (lv_at hl 1 rfl) ?_
  refine lv_aload_n hx hb dL_law_560 rfl (lv_at hl 3 rfl) ?_
  refine lv_iload_n hx hb dL_law_561 rfl (lv_at hl 0 rfl) ?_
  refine lv_iconst (v := 1) hx hb dL_law_562 (by decide) ?_
  refine lv_iadd hx hb dL_law_563 ?_
  refine th_topi (y := 1) (by decide) ?_
  refine lw_sld (j := 1) hx hb hX_1 (by decide) (by decide) (by decide) dL_law_564 ?_
  refine lv_aload_n hx hb dL_law_565 rfl (lv_at hl 3 rfl) ?_
  refine lv_iload_n hx hb dL_law_566 rfl (lv_at hl 0 rfl) ?_
  refine lv_iconst (v := 2) hx hb dL_law_567 (by decide) ?_
  refine lv_iadd hx hb dL_law_568 ?_
  refine th_topi (y := 2) (by decide) ?_
  refine lw_sld (j := 2) hx hb hX_1 (by decide) (by decide) (by decide) dL_law_569 ?_
  refine th_Vi (A := fun q => B ≤ q) (As := [.int (xs 1), .int (xs 2)]) (rest := [.int (-1)]) E hml hl.1 (c_X12_sample_v2 l D cI cS (tq B 178 186) (rq B) hWM H_1 hTM (B + 178) (xs 1) (xs 2) hτM l1) lk_L_87 yd_X12_sample hTM hτM rfl (by decide) ⟨rfl, fun _ _ => rfl, hS_1.2.2⟩ (fun q h => h.elim) ⟨Nat.le_of_ble_eq_true rfl, Nat.le_of_ble_eq_true rfl⟩ (Nat.le_of_ble_eq_true rfl) ⟨Nat.le_of_ble_eq_true rfl, Nat.le_of_ble_eq_true rfl⟩ rfl dL_law_570 (fun r_2 H_2 locs_2 p_2 hT_2 hk_2 hS_2 => ?_)
  refine th_topi (y := (-1)) (show ((-1) : Int32) = r_2 from p_2.2).symm ?_
  have hX_2 : va_X b 4 xs s H_2 := hX_1.kept (hS_2.2.1 b (Nat.not_le.mpr hbB))
  refine lv_icmp_eq (tgt := 766) hx hb dL_law_573 (by decide) (fun c_ => ?_) (fun c_ => absurd (by decide) c_)
  exact kk H_2 locs_2 hS_2.2.2 hX_2
set_option maxHeartbeats 4000000 in
set_option maxRecDepth 100000 in
theorem w_sample_2 (E : EE p s m args c cL_law RL D cI cS) (hml : c.maxLocals = 4) (hl : lv_has ls 4 [(3, .int 0), (2, .ref (B + 178)), (1, .ref (B + 0)), (0, .ref b)]) (hWX : WF (tq B 0 178) (rq B)) (hWM : WF (tq B 178 186) (rq B)) (hTX : TH D cI cS (tq B 0 178) (rq B) H) (hFX : FX D B H) (hTM : TH D cI cS (tq B 178 186) (rq B) H) (hFM : FM D B H) (hX : va_X b 4 xs s H) (hbB : b < B) (hlo : ∀ x ∈ locs, B ≤ x.base) (h1 : xs 1 = 0) (g2 : (xs 2).toInt ≤ -1) (kk : KL p l e s m args below meth c ls Q B b xs) : WL p l e s m args below meth c H locs ls Q 545 := by
  have hx := E.1
  have hb := E.2.1
  have hτX := ttX B
  have hτM := ttM B
  refine lv_aload_n hx hb dL_law_545 rfl (lv_at hl 2 rfl) ?_
  refine lv_aload_n hx hb dL_law_546 rfl (lv_at hl 3 rfl) ?_
  refine lv_iload_n hx hb dL_law_547 rfl (lv_at hl 0 rfl) ?_
  refine lv_iconst (v := 1) hx hb dL_law_548 (by decide) ?_
  refine lv_iadd hx hb dL_law_549 ?_
  refine th_topi (y := 1) (by decide) ?_
  refine lw_sld (j := 1) hx hb hX (by decide) (by decide) (by decide) dL_law_550 ?_
  refine th_topi h1 ?_
  refine lv_aload_n hx hb dL_law_551 rfl (lv_at hl 3 rfl) ?_
  refine lv_iload_n hx hb dL_law_552 rfl (lv_at hl 0 rfl) ?_
  refine lv_iconst (v := 2) hx hb dL_law_553 (by decide) ?_
  refine lv_iadd hx hb dL_law_554 ?_
  refine th_topi (y := 2) (by decide) ?_
  refine lw_sld (j := 2) hx hb hX (by decide) (by decide) (by decide) dL_law_555 ?_
  refine th_Vi (A := fun q => B ≤ q) (As := [.int 0, .int (xs 2)]) (rest := []) E hml hl.1 (c_X11_sample_v3 l D cI cS (tq B 0 178) (rq B) hWX H hTX (B + 0) (xs 2) hτX g2) lk_L_84 yd_X11_sample hTX hτX rfl (by decide) ⟨rfl, fun _ _ => rfl, hlo⟩ (fun q h => h.elim) ⟨Nat.le_of_ble_eq_true rfl, Nat.le_of_ble_eq_true rfl⟩ (Nat.le_of_ble_eq_true rfl) ⟨Nat.le_of_ble_eq_true rfl, Nat.le_of_ble_eq_true rfl⟩ rfl dL_law_556 (fun r_1 H_1 locs_1 p_1 hT_1 hk_1 hS_1 => ?_)
  refine th_topi (y := (-1)) (show ((-1) : Int32) = r_1 from p_1.2).symm ?_
  have kM : ∀ q, B + 178 ≤ q → H_1[q]? = H[q]? := fun q hq => hk_1 q (fun h => h.elim)
  have hTM := hTM.same (H1 := H_1) (fun q t h => kM q (by obtain ⟨j, rfl, z1, -, -⟩ := tq_some h; omega))
  have hFM := hFM.kept (H1 := H_1) kM
  have hX_1 : va_X b 4 xs s H_1 := hX.kept (hS_1.2.1 b (Nat.not_le.mpr hbB))
  refine lv_aload_n hx hb dL_law_559 rfl (lv_at hl 1 rfl) ?_
  refine lv_aload_n hx hb dL_law_560 rfl (lv_at hl 3 rfl) ?_
  refine lv_iload_n hx hb dL_law_561 rfl (lv_at hl 0 rfl) ?_
  refine lv_iconst (v := 1) hx hb dL_law_562 (by decide) ?_
  refine lv_iadd hx hb dL_law_563 ?_
  refine th_topi (y := 1) (by decide) ?_
  refine lw_sld (j := 1) hx hb hX_1 (by decide) (by decide) (by decide) dL_law_564 ?_
  refine th_topi h1 ?_
  refine lv_aload_n hx hb dL_law_565 rfl (lv_at hl 3 rfl) ?_
  refine lv_iload_n hx hb dL_law_566 rfl (lv_at hl 0 rfl) ?_
  refine lv_iconst (v := 2) hx hb dL_law_567 (by decide) ?_
  refine lv_iadd hx hb dL_law_568 ?_
  refine th_topi (y := 2) (by decide) ?_
  refine lw_sld (j := 2) hx hb hX_1 (by decide) (by decide) (by decide) dL_law_569 ?_
  refine th_Vi (A := fun q => B ≤ q) (As := [.int 0, .int (xs 2)]) (rest := [.int (-1)]) E hml hl.1 (c_X12_sample_v3 l D cI cS (tq B 178 186) (rq B) hWM H_1 hTM (B + 178) (xs 2) hτM g2) lk_L_87 yd_X12_sample hTM hτM rfl (by decide) ⟨rfl, fun _ _ => rfl, hS_1.2.2⟩ (fun q h => h.elim) ⟨Nat.le_of_ble_eq_true rfl, Nat.le_of_ble_eq_true rfl⟩ (Nat.le_of_ble_eq_true rfl) ⟨Nat.le_of_ble_eq_true rfl, Nat.le_of_ble_eq_true rfl⟩ rfl dL_law_570 (fun r_2 H_2 locs_2 p_2 hT_2 hk_2 hS_2 => ?_)
  refine th_topi (y := (-1)) (show ((-1) : Int32) = r_2 from p_2.2).symm ?_
  have hX_2 : va_X b 4 xs s H_2 := hX_1.kept (hS_2.2.1 b (Nat.not_le.mpr hbB))
  refine lv_icmp_eq (tgt := 766) hx hb dL_law_573 (by decide) (fun c_ => ?_) (fun c_ => absurd (by decide) c_)
  exact kk H_2 locs_2 hS_2.2.2 hX_2
set_option maxHeartbeats 4000000 in
set_option maxRecDepth 100000 in
theorem w_sample_3 (E : EE p s m args c cL_law RL D cI cS) (hml : c.maxLocals = 4) (hl : lv_has ls 4 [(3, .int 0), (2, .ref (B + 178)), (1, .ref (B + 0)), (0, .ref b)]) (hWX : WF (tq B 0 178) (rq B)) (hWM : WF (tq B 178 186) (rq B)) (hTX : TH D cI cS (tq B 0 178) (rq B) H) (hFX : FX D B H) (hTM : TH D cI cS (tq B 178 186) (rq B) H) (hFM : FM D B H) (hX : va_X b 4 xs s H) (hbB : b < B) (hlo : ∀ x ∈ locs, B ≤ x.base) (h1 : xs 1 = 0) (l2 : 0 ≤ (xs 2).toInt) (kk : KL p l e s m args below meth c ls Q B b xs) : WL p l e s m args below meth c H locs ls Q 545 := by
  have hx := E.1
  have hb := E.2.1
  have hτX := ttX B
  have hτM := ttM B
  refine lv_aload_n hx hb dL_law_545 rfl (lv_at hl 2 rfl) ?_
  refine lv_aload_n hx hb dL_law_546 rfl (lv_at hl 3 rfl) ?_
  refine lv_iload_n hx hb dL_law_547 rfl (lv_at hl 0 rfl) ?_
  refine lv_iconst (v := 1) hx hb dL_law_548 (by decide) ?_
  refine lv_iadd hx hb dL_law_549 ?_
  refine th_topi (y := 1) (by decide) ?_
  refine lw_sld (j := 1) hx hb hX (by decide) (by decide) (by decide) dL_law_550 ?_
  refine th_topi h1 ?_
  refine lv_aload_n hx hb dL_law_551 rfl (lv_at hl 3 rfl) ?_
  refine lv_iload_n hx hb dL_law_552 rfl (lv_at hl 0 rfl) ?_
  refine lv_iconst (v := 2) hx hb dL_law_553 (by decide) ?_
  refine lv_iadd hx hb dL_law_554 ?_
  refine th_topi (y := 2) (by decide) ?_
  refine lw_sld (j := 2) hx hb hX (by decide) (by decide) (by decide) dL_law_555 ?_
  refine th_Vi (A := fun q => B ≤ q) (As := [.int 0, .int (xs 2)]) (rest := []) E hml hl.1 (c_X11_sample_v4 l D cI cS (tq B 0 178) (rq B) hWX H hTX (B + 0) (xs 2) hτX l2 hFX.2.2.2.2.2.2.2.2.2.2.2.2.2.2.2.2.1) lk_L_84 yd_X11_sample hTX hτX rfl (by decide) ⟨rfl, fun _ _ => rfl, hlo⟩ (fun q h => h.elim) ⟨Nat.le_of_ble_eq_true rfl, Nat.le_of_ble_eq_true rfl⟩ (Nat.le_of_ble_eq_true rfl) ⟨Nat.le_of_ble_eq_true rfl, Nat.le_of_ble_eq_true rfl⟩ rfl dL_law_556 (fun r_1 H_1 locs_1 p_1 hT_1 hk_1 hS_1 => ?_)
  refine th_topi (y := (-4)) (show ((-4) : Int32) = r_1 from p_1.2).symm ?_
  have kM : ∀ q, B + 178 ≤ q → H_1[q]? = H[q]? := fun q hq => hk_1 q (fun h => h.elim)
  have hTM := hTM.same (H1 := H_1) (fun q t h => kM q (by obtain ⟨j, rfl, z1, -, -⟩ := tq_some h; omega))
  have hFM := hFM.kept (H1 := H_1) kM
  have hX_1 : va_X b 4 xs s H_1 := hX.kept (hS_1.2.1 b (Nat.not_le.mpr hbB))
  refine lv_aload_n hx hb dL_law_559 rfl (lv_at hl 1 rfl) ?_
  refine lv_aload_n hx hb dL_law_560 rfl (lv_at hl 3 rfl) ?_
  refine lv_iload_n hx hb dL_law_561 rfl (lv_at hl 0 rfl) ?_
  refine lv_iconst (v := 1) hx hb dL_law_562 (by decide) ?_
  refine lv_iadd hx hb dL_law_563 ?_
  refine th_topi (y := 1) (by decide) ?_
  refine lw_sld (j := 1) hx hb hX_1 (by decide) (by decide) (by decide) dL_law_564 ?_
  refine th_topi h1 ?_
  refine lv_aload_n hx hb dL_law_565 rfl (lv_at hl 3 rfl) ?_
  refine lv_iload_n hx hb dL_law_566 rfl (lv_at hl 0 rfl) ?_
  refine lv_iconst (v := 2) hx hb dL_law_567 (by decide) ?_
  refine lv_iadd hx hb dL_law_568 ?_
  refine th_topi (y := 2) (by decide) ?_
  refine lw_sld (j := 2) hx hb hX_1 (by decide) (by decide) (by decide) dL_law_569 ?_
  refine th_Vi (A := fun q => B ≤ q) (As := [.int 0, .int (xs 2)]) (rest := [.int (-4)]) E hml hl.1 (c_X12_sample_v4 l D cI cS (tq B 178 186) (rq B) hWM H_1 hTM (B + 178) (xs 2) hτM l2 ((hFM.2.2.2.2.1 19 (by decide)).trans (by decide))) lk_L_87 yd_X12_sample hTM hτM rfl (by decide) ⟨rfl, fun _ _ => rfl, hS_1.2.2⟩ (fun q h => h.elim) ⟨Nat.le_of_ble_eq_true rfl, Nat.le_of_ble_eq_true rfl⟩ (Nat.le_of_ble_eq_true rfl) ⟨Nat.le_of_ble_eq_true rfl, Nat.le_of_ble_eq_true rfl⟩ rfl dL_law_570 (fun r_2 H_2 locs_2 p_2 hT_2 hk_2 hS_2 => ?_)
  refine th_topi (y := (-4)) (show ((-4) : Int32) = r_2 from p_2.2).symm ?_
  have hX_2 : va_X b 4 xs s H_2 := hX_1.kept (hS_2.2.1 b (Nat.not_le.mpr hbB))
  refine lv_icmp_eq (tgt := 766) hx hb dL_law_573 (by decide) (fun c_ => ?_) (fun c_ => absurd (by decide) c_)
  exact kk H_2 locs_2 hS_2.2.2 hX_2
set_option maxHeartbeats 4000000 in
set_option maxRecDepth 100000 in
theorem w_sample_4 (E : EE p s m args c cL_law RL D cI cS) (hml : c.maxLocals = 4) (hl : lv_has ls 4 [(3, .int 0), (2, .ref (B + 178)), (1, .ref (B + 0)), (0, .ref b)]) (hWX : WF (tq B 0 178) (rq B)) (hWM : WF (tq B 178 186) (rq B)) (hTX : TH D cI cS (tq B 0 178) (rq B) H) (hFX : FX D B H) (hTM : TH D cI cS (tq B 178 186) (rq B) H) (hFM : FM D B H) (hX : va_X b 4 xs s H) (hbB : b < B) (hlo : ∀ x ∈ locs, B ≤ x.base) (h1 : xs 1 = 1) (g2 : (xs 2).toInt ≤ -1) (kk : KL p l e s m args below meth c ls Q B b xs) : WL p l e s m args below meth c H locs ls Q 545 := by
  have hx := E.1
  have hb := E.2.1
  have hτX := ttX B
  have hτM := ttM B
  refine lv_aload_n hx hb dL_law_545 rfl (lv_at hl 2 rfl) ?_
  refine lv_aload_n hx hb dL_law_546 rfl (lv_at hl 3 rfl) ?_
  refine lv_iload_n hx hb dL_law_547 rfl (lv_at hl 0 rfl) ?_
  refine lv_iconst (v := 1) hx hb dL_law_548 (by decide) ?_
  refine lv_iadd hx hb dL_law_549 ?_
  refine th_topi (y := 1) (by decide) ?_
  refine lw_sld (j := 1) hx hb hX (by decide) (by decide) (by decide) dL_law_550 ?_
  refine th_topi h1 ?_
  refine lv_aload_n hx hb dL_law_551 rfl (lv_at hl 3 rfl) ?_
  refine lv_iload_n hx hb dL_law_552 rfl (lv_at hl 0 rfl) ?_
  refine lv_iconst (v := 2) hx hb dL_law_553 (by decide) ?_
  refine lv_iadd hx hb dL_law_554 ?_
  refine th_topi (y := 2) (by decide) ?_
  refine lw_sld (j := 2) hx hb hX (by decide) (by decide) (by decide) dL_law_555 ?_
  refine th_Vi (A := fun q => B ≤ q) (As := [.int 1, .int (xs 2)]) (rest := []) E hml hl.1 (c_X11_sample_v5 l D cI cS (tq B 0 178) (rq B) hWX H hTX (B + 0) (xs 2) hτX g2) lk_L_84 yd_X11_sample hTX hτX rfl (by decide) ⟨rfl, fun _ _ => rfl, hlo⟩ (fun q h => h.elim) ⟨Nat.le_of_ble_eq_true rfl, Nat.le_of_ble_eq_true rfl⟩ (Nat.le_of_ble_eq_true rfl) ⟨Nat.le_of_ble_eq_true rfl, Nat.le_of_ble_eq_true rfl⟩ rfl dL_law_556 (fun r_1 H_1 locs_1 p_1 hT_1 hk_1 hS_1 => ?_)
  refine th_topi (y := (-1)) (show ((-1) : Int32) = r_1 from p_1.2).symm ?_
  have kM : ∀ q, B + 178 ≤ q → H_1[q]? = H[q]? := fun q hq => hk_1 q (fun h => h.elim)
  have hTM := hTM.same (H1 := H_1) (fun q t h => kM q (by obtain ⟨j, rfl, z1, -, -⟩ := tq_some h; omega))
  have hFM := hFM.kept (H1 := H_1) kM
  have hX_1 : va_X b 4 xs s H_1 := hX.kept (hS_1.2.1 b (Nat.not_le.mpr hbB))
  refine lv_aload_n hx hb dL_law_559 rfl (lv_at hl 1 rfl) ?_
  refine lv_aload_n hx hb dL_law_560 rfl (lv_at hl 3 rfl) ?_
  refine lv_iload_n hx hb dL_law_561 rfl (lv_at hl 0 rfl) ?_
  refine lv_iconst (v := 1) hx hb dL_law_562 (by decide) ?_
  refine lv_iadd hx hb dL_law_563 ?_
  refine th_topi (y := 1) (by decide) ?_
  refine lw_sld (j := 1) hx hb hX_1 (by decide) (by decide) (by decide) dL_law_564 ?_
  refine th_topi h1 ?_
  refine lv_aload_n hx hb dL_law_565 rfl (lv_at hl 3 rfl) ?_
  refine lv_iload_n hx hb dL_law_566 rfl (lv_at hl 0 rfl) ?_
  refine lv_iconst (v := 2) hx hb dL_law_567 (by decide) ?_
  refine lv_iadd hx hb dL_law_568 ?_
  refine th_topi (y := 2) (by decide) ?_
  refine lw_sld (j := 2) hx hb hX_1 (by decide) (by decide) (by decide) dL_law_569 ?_
  refine th_Vi (A := fun q => B ≤ q) (As := [.int 1, .int (xs 2)]) (rest := [.int (-1)]) E hml hl.1 (c_X12_sample_v5 l D cI cS (tq B 178 186) (rq B) hWM H_1 hTM (B + 178) (xs 2) hτM g2) lk_L_87 yd_X12_sample hTM hτM rfl (by decide) ⟨rfl, fun _ _ => rfl, hS_1.2.2⟩ (fun q h => h.elim) ⟨Nat.le_of_ble_eq_true rfl, Nat.le_of_ble_eq_true rfl⟩ (Nat.le_of_ble_eq_true rfl) ⟨Nat.le_of_ble_eq_true rfl, Nat.le_of_ble_eq_true rfl⟩ rfl dL_law_570 (fun r_2 H_2 locs_2 p_2 hT_2 hk_2 hS_2 => ?_)
  refine th_topi (y := (-1)) (show ((-1) : Int32) = r_2 from p_2.2).symm ?_
  have hX_2 : va_X b 4 xs s H_2 := hX_1.kept (hS_2.2.1 b (Nat.not_le.mpr hbB))
  refine lv_icmp_eq (tgt := 766) hx hb dL_law_573 (by decide) (fun c_ => ?_) (fun c_ => absurd (by decide) c_)
  exact kk H_2 locs_2 hS_2.2.2 hX_2
set_option maxHeartbeats 4000000 in
set_option maxRecDepth 100000 in
theorem w_sample_5 (E : EE p s m args c cL_law RL D cI cS) (hml : c.maxLocals = 4) (hl : lv_has ls 4 [(3, .int 0), (2, .ref (B + 178)), (1, .ref (B + 0)), (0, .ref b)]) (hWX : WF (tq B 0 178) (rq B)) (hWM : WF (tq B 178 186) (rq B)) (hTX : TH D cI cS (tq B 0 178) (rq B) H) (hFX : FX D B H) (hTM : TH D cI cS (tq B 178 186) (rq B) H) (hFM : FM D B H) (hX : va_X b 4 xs s H) (hbB : b < B) (hlo : ∀ x ∈ locs, B ≤ x.base) (h1 : xs 1 = 1) (l2 : 0 ≤ (xs 2).toInt) (kk : KL p l e s m args below meth c ls Q B b xs) : WL p l e s m args below meth c H locs ls Q 545 := by
  have hx := E.1
  have hb := E.2.1
  have hτX := ttX B
  have hτM := ttM B
  refine lv_aload_n hx hb dL_law_545 rfl (lv_at hl 2 rfl) ?_
  refine lv_aload_n hx hb dL_law_546 rfl (lv_at hl 3 rfl) ?_
  refine lv_iload_n hx hb dL_law_547 rfl (lv_at hl 0 rfl) ?_
  refine lv_iconst (v := 1) hx hb dL_law_548 (by decide) ?_
  refine lv_iadd hx hb dL_law_549 ?_
  refine th_topi (y := 1) (by decide) ?_
  refine lw_sld (j := 1) hx hb hX (by decide) (by decide) (by decide) dL_law_550 ?_
  refine th_topi h1 ?_
  refine lv_aload_n hx hb dL_law_551 rfl (lv_at hl 3 rfl) ?_
  refine lv_iload_n hx hb dL_law_552 rfl (lv_at hl 0 rfl) ?_
  refine lv_iconst (v := 2) hx hb dL_law_553 (by decide) ?_
  refine lv_iadd hx hb dL_law_554 ?_
  refine th_topi (y := 2) (by decide) ?_
  refine lw_sld (j := 2) hx hb hX (by decide) (by decide) (by decide) dL_law_555 ?_
  refine th_Vi (A := fun q => B ≤ q) (As := [.int 1, .int (xs 2)]) (rest := []) E hml hl.1 (c_X11_sample_v6 l D cI cS (tq B 0 178) (rq B) hWX H hTX (B + 0) (xs 2) hτX l2 hFX.2.2.2.2.2.2.2.2.2.2.2.2.2.2.2.2.2.2.2.2.2.2.2.2.2.2.2.2.2.2.2.2.2.2.2.2.2.2.1) lk_L_84 yd_X11_sample hTX hτX rfl (by decide) ⟨rfl, fun _ _ => rfl, hlo⟩ (fun q h => h.elim) ⟨Nat.le_of_ble_eq_true rfl, Nat.le_of_ble_eq_true rfl⟩ (Nat.le_of_ble_eq_true rfl) ⟨Nat.le_of_ble_eq_true rfl, Nat.le_of_ble_eq_true rfl⟩ rfl dL_law_556 (fun r_1 H_1 locs_1 p_1 hT_1 hk_1 hS_1 => ?_)
  refine th_topi (y := (-4)) (show ((-4) : Int32) = r_1 from p_1.2).symm ?_
  have kM : ∀ q, B + 178 ≤ q → H_1[q]? = H[q]? := fun q hq => hk_1 q (fun h => h.elim)
  have hTM := hTM.same (H1 := H_1) (fun q t h => kM q (by obtain ⟨j, rfl, z1, -, -⟩ := tq_some h; omega))
  have hFM := hFM.kept (H1 := H_1) kM
  have hX_1 : va_X b 4 xs s H_1 := hX.kept (hS_1.2.1 b (Nat.not_le.mpr hbB))
  refine lv_aload_n hx hb dL_law_559 rfl (lv_at hl 1 rfl) ?_
  refine lv_aload_n hx hb dL_law_560 rfl (lv_at hl 3 rfl) ?_
  refine lv_iload_n hx hb dL_law_561 rfl (lv_at hl 0 rfl) ?_
  refine lv_iconst (v := 1) hx hb dL_law_562 (by decide) ?_
  refine lv_iadd hx hb dL_law_563 ?_
  refine th_topi (y := 1) (by decide) ?_
  refine lw_sld (j := 1) hx hb hX_1 (by decide) (by decide) (by decide) dL_law_564 ?_
  refine th_topi h1 ?_
  refine lv_aload_n hx hb dL_law_565 rfl (lv_at hl 3 rfl) ?_
  refine lv_iload_n hx hb dL_law_566 rfl (lv_at hl 0 rfl) ?_
  refine lv_iconst (v := 2) hx hb dL_law_567 (by decide) ?_
  refine lv_iadd hx hb dL_law_568 ?_
  refine th_topi (y := 2) (by decide) ?_
  refine lw_sld (j := 2) hx hb hX_1 (by decide) (by decide) (by decide) dL_law_569 ?_
  refine th_Vi (A := fun q => B ≤ q) (As := [.int 1, .int (xs 2)]) (rest := [.int (-4)]) E hml hl.1 (c_X12_sample_v6 l D cI cS (tq B 178 186) (rq B) hWM H_1 hTM (B + 178) (xs 2) hτM l2 ((hFM.2.2.2.2.1 307 (by decide)).trans (by decide))) lk_L_87 yd_X12_sample hTM hτM rfl (by decide) ⟨rfl, fun _ _ => rfl, hS_1.2.2⟩ (fun q h => h.elim) ⟨Nat.le_of_ble_eq_true rfl, Nat.le_of_ble_eq_true rfl⟩ (Nat.le_of_ble_eq_true rfl) ⟨Nat.le_of_ble_eq_true rfl, Nat.le_of_ble_eq_true rfl⟩ rfl dL_law_570 (fun r_2 H_2 locs_2 p_2 hT_2 hk_2 hS_2 => ?_)
  refine th_topi (y := (-4)) (show ((-4) : Int32) = r_2 from p_2.2).symm ?_
  have hX_2 : va_X b 4 xs s H_2 := hX_1.kept (hS_2.2.1 b (Nat.not_le.mpr hbB))
  refine lv_icmp_eq (tgt := 766) hx hb dL_law_573 (by decide) (fun c_ => ?_) (fun c_ => absurd (by decide) c_)
  exact kk H_2 locs_2 hS_2.2.2 hX_2
theorem w_sample (E : EE p s m args c cL_law RL D cI cS) (hml : c.maxLocals = 4) (hl : lv_has ls 4 [(3, .int 0), (2, .ref (B + 178)), (1, .ref (B + 0)), (0, .ref b)]) (hWX : WF (tq B 0 178) (rq B)) (hWM : WF (tq B 178 186) (rq B)) (hTX : TH D cI cS (tq B 0 178) (rq B) H) (hFX : FX D B H) (hTM : TH D cI cS (tq B 178 186) (rq B) H) (hFM : FM D B H) (hX : va_X b 4 xs s H) (hbB : b < B) (hlo : ∀ x ∈ locs, B ≤ x.base) (kk : KL p l e s m args below meth c ls Q B b xs) : WL p l e s m args below meth c H locs ls Q 545 := by
  rcases (show (xs 1).toInt ≤ -1 ∨ 2 ≤ (xs 1).toInt ∨ (xs 1).toInt = 0 ∨ (xs 1).toInt = 1 by omega) with g1 | l1 | t1 | t1
  · exact w_sample_0 E hml hl hWX hWM hTX hFX hTM hFM hX hbB hlo g1 kk
  · exact w_sample_1 E hml hl hWX hWM hTX hFX hTM hFM hX hbB hlo l1 kk
  · have h1 : xs 1 = 0 := i_eq t1 (by decide)
    rcases (show (xs 2).toInt ≤ -1 ∨ 0 ≤ (xs 2).toInt by omega) with g2 | l2
    · exact w_sample_2 E hml hl hWX hWM hTX hFX hTM hFM hX hbB hlo h1 g2 kk
    · exact w_sample_3 E hml hl hWX hWM hTX hFX hTM hFM hX hbB hlo h1 l2 kk
  · have h1 : xs 1 = 1 := i_eq t1 (by decide)
    rcases (show (xs 2).toInt ≤ -1 ∨ 0 ≤ (xs 2).toInt by omega) with g2 | l2
    · exact w_sample_4 E hml hl hWX hWM hTX hFX hTM hFM hX hbB hlo h1 g2 kk
    · exact w_sample_5 E hml hl hWX hWM hTX hFX hTM hFM hX hbB hlo h1 l2 kk
set_option maxHeartbeats 4000000 in
set_option maxRecDepth 100000 in
theorem w_span_0 (E : EE p s m args c cL_law RL D cI cS) (hml : c.maxLocals = 4) (hl : lv_has ls 4 [(3, .int 0), (2, .ref (B + 178)), (1, .ref (B + 0)), (0, .ref b)]) (hWX : WF (tq B 0 178) (rq B)) (hWM : WF (tq B 178 186) (rq B)) (hTX : TH D cI cS (tq B 0 178) (rq B) H) (hFX : FX D B H) (hTM : TH D cI cS (tq B 178 186) (rq B) H) (hFM : FM D B H) (hX : va_X b 4 xs s H) (hbB : b < B) (hlo : ∀ x ∈ locs, B ≤ x.base) (g1 : (xs 1).toInt ≤ -1) (kk : KL p l e s m args below meth c ls Q B b xs) : WL p l e s m args below meth c H locs ls Q 578 := by
  have hx := E.1
  have hb := E.2.1
  have hτX := ttX B
  have hτM := ttM B
  refine lv_aload_n hx hb dL_law_578 rfl (lv_at hl 2 rfl) ?_
  refine lv_aload_n hx hb dL_law_579 rfl (lv_at hl 3 rfl) ?_
  refine lv_iload_n hx hb dL_law_580 rfl (lv_at hl 0 rfl) ?_
  refine lv_iconst (v := 1) hx hb dL_law_581 (by decide) ?_
  refine lv_iadd hx hb dL_law_582 ?_
  refine th_topi (y := 1) (by decide) ?_
  refine lw_sld (j := 1) hx hb hX (by decide) (by decide) (by decide) dL_law_583 ?_
  refine lv_aload_n hx hb dL_law_584 rfl (lv_at hl 3 rfl) ?_
  refine lv_iload_n hx hb dL_law_585 rfl (lv_at hl 0 rfl) ?_
  refine lv_iconst (v := 2) hx hb dL_law_586 (by decide) ?_
  refine lv_iadd hx hb dL_law_587 ?_
  refine th_topi (y := 2) (by decide) ?_
  refine lw_sld (j := 2) hx hb hX (by decide) (by decide) (by decide) dL_law_588 ?_
  refine lv_aload_n hx hb dL_law_589 rfl (lv_at hl 3 rfl) ?_
  refine lv_iload_n hx hb dL_law_590 rfl (lv_at hl 0 rfl) ?_
  refine lv_iconst (v := 3) hx hb dL_law_591 (by decide) ?_
  refine lv_iadd hx hb dL_law_592 ?_
  refine th_topi (y := 3) (by decide) ?_
  refine lw_sld (j := 3) hx hb hX (by decide) (by decide) (by decide) dL_law_593 ?_
  refine th_Vi (A := fun q => B ≤ q) (As := [.int (xs 1), .int (xs 2), .int (xs 3)]) (rest := []) E hml hl.1 (c_X11_span l D cI cS (tq B 0 178) (rq B) hWX H hTX (B + 0) (xs 1) (xs 2) (xs 3) hτX g1) lk_L_88 yd_X11_span hTX hτX rfl (by decide) ⟨rfl, fun _ _ => rfl, hlo⟩ (fun q h => h.elim) ⟨Nat.le_of_ble_eq_true rfl, Nat.le_of_ble_eq_true rfl⟩ (Nat.le_of_ble_eq_true rfl) ⟨Nat.le_of_ble_eq_true rfl, Nat.le_of_ble_eq_true rfl⟩ rfl dL_law_594 (fun r_1 H_1 locs_1 p_1 hT_1 hk_1 hS_1 => ?_)
  refine th_topi (y := (-1)) (show ((-1) : Int32) = r_1 from p_1.2).symm ?_
  have kM : ∀ q, B + 178 ≤ q → H_1[q]? = H[q]? := fun q hq => hk_1 q (fun h => h.elim)
  have hTM := hTM.same (H1 := H_1) (fun q t h => kM q (by obtain ⟨j, rfl, z1, -, -⟩ := tq_some h; omega))
  have hFM := hFM.kept (H1 := H_1) kM
  have hX_1 : va_X b 4 xs s H_1 := hX.kept (hS_1.2.1 b (Nat.not_le.mpr hbB))
  refine lv_aload_n hx hb dL_law_597 rfl (lv_at hl 1 rfl) ?_
  refine lv_aload_n hx hb dL_law_598 rfl (lv_at hl 3 rfl) ?_
  refine lv_iload_n hx hb dL_law_599 rfl (lv_at hl 0 rfl) ?_
  refine lv_iconst (v := 1) hx hb dL_law_600 (by decide) ?_
  refine lv_iadd hx hb dL_law_601 ?_
  refine th_topi (y := 1) (by decide) ?_
  refine lw_sld (j := 1) hx hb hX_1 (by decide) (by decide) (by decide) dL_law_602 ?_
  refine lv_aload_n hx hb dL_law_603 rfl (lv_at hl 3 rfl) ?_
  refine lv_iload_n hx hb dL_law_604 rfl (lv_at hl 0 rfl) ?_
  refine lv_iconst (v := 2) hx hb dL_law_605 (by decide) ?_
  refine lv_iadd hx hb dL_law_606 ?_
  refine th_topi (y := 2) (by decide) ?_
  refine lw_sld (j := 2) hx hb hX_1 (by decide) (by decide) (by decide) dL_law_607 ?_
  refine lv_aload_n hx hb dL_law_608 rfl (lv_at hl 3 rfl) ?_
  refine lv_iload_n hx hb dL_law_609 rfl (lv_at hl 0 rfl) ?_
  refine lv_iconst (v := 3) hx hb dL_law_610 (by decide) ?_
  refine lv_iadd hx hb dL_law_611 ?_
  refine th_topi (y := 3) (by decide) ?_
  refine lw_sld (j := 3) hx hb hX_1 (by decide) (by decide) (by decide) dL_law_612 ?_
  refine th_Vi (A := fun q => B ≤ q) (As := [.int (xs 1), .int (xs 2), .int (xs 3)]) (rest := [.int (-1)]) E hml hl.1 (c_X12_span l D cI cS (tq B 178 186) (rq B) hWM H_1 hTM (B + 178) (xs 1) (xs 2) (xs 3) hτM g1) lk_L_92 yd_X12_span hTM hτM rfl (by decide) ⟨rfl, fun _ _ => rfl, hS_1.2.2⟩ (fun q h => h.elim) ⟨Nat.le_of_ble_eq_true rfl, Nat.le_of_ble_eq_true rfl⟩ (Nat.le_of_ble_eq_true rfl) ⟨Nat.le_of_ble_eq_true rfl, Nat.le_of_ble_eq_true rfl⟩ rfl dL_law_613 (fun r_2 H_2 locs_2 p_2 hT_2 hk_2 hS_2 => ?_)
  refine th_topi (y := (-1)) (show ((-1) : Int32) = r_2 from p_2.2).symm ?_
  have hX_2 : va_X b 4 xs s H_2 := hX_1.kept (hS_2.2.1 b (Nat.not_le.mpr hbB))
  refine lv_icmp_eq (tgt := 766) hx hb dL_law_616 (by decide) (fun c_ => ?_) (fun c_ => absurd (by decide) c_)
  exact kk H_2 locs_2 hS_2.2.2 hX_2
set_option maxHeartbeats 4000000 in
set_option maxRecDepth 100000 in
theorem w_span_1 (E : EE p s m args c cL_law RL D cI cS) (hml : c.maxLocals = 4) (hl : lv_has ls 4 [(3, .int 0), (2, .ref (B + 178)), (1, .ref (B + 0)), (0, .ref b)]) (hWX : WF (tq B 0 178) (rq B)) (hWM : WF (tq B 178 186) (rq B)) (hTX : TH D cI cS (tq B 0 178) (rq B) H) (hFX : FX D B H) (hTM : TH D cI cS (tq B 178 186) (rq B) H) (hFM : FM D B H) (hX : va_X b 4 xs s H) (hbB : b < B) (hlo : ∀ x ∈ locs, B ≤ x.base) (l1 : 2 ≤ (xs 1).toInt) (kk : KL p l e s m args below meth c ls Q B b xs) : WL p l e s m args below meth c H locs ls Q 578 := by
  have hx := E.1
  have hb := E.2.1
  have hτX := ttX B
  have hτM := ttM B
  refine lv_aload_n hx hb dL_law_578 rfl (lv_at hl 2 rfl) ?_
  refine lv_aload_n hx hb dL_law_579 rfl (lv_at hl 3 rfl) ?_
  refine lv_iload_n hx hb dL_law_580 rfl (lv_at hl 0 rfl) ?_
  refine lv_iconst (v := 1) hx hb dL_law_581 (by decide) ?_
  refine lv_iadd hx hb dL_law_582 ?_
  refine th_topi (y := 1) (by decide) ?_
  refine lw_sld (j := 1) hx hb hX (by decide) (by decide) (by decide) dL_law_583 ?_
  refine lv_aload_n hx hb dL_law_584 rfl (lv_at hl 3 rfl) ?_
  refine lv_iload_n hx hb dL_law_585 rfl (lv_at hl 0 rfl) ?_
  refine lv_iconst (v := 2) hx hb dL_law_586 (by decide) ?_
  refine lv_iadd hx hb dL_law_587 ?_
  refine th_topi (y := 2) (by decide) ?_
  refine lw_sld (j := 2) hx hb hX (by decide) (by decide) (by decide) dL_law_588 ?_
  refine lv_aload_n hx hb dL_law_589 rfl (lv_at hl 3 rfl) ?_
  refine lv_iload_n hx hb dL_law_590 rfl (lv_at hl 0 rfl) ?_
  refine lv_iconst (v := 3) hx hb dL_law_591 (by decide) ?_
  refine lv_iadd hx hb dL_law_592 ?_
  refine th_topi (y := 3) (by decide) ?_
  refine lw_sld (j := 3) hx hb hX (by decide) (by decide) (by decide) dL_law_593 ?_
  refine th_Vi (A := fun q => B ≤ q) (As := [.int (xs 1), .int (xs 2), .int (xs 3)]) (rest := []) E hml hl.1 (c_X11_span_v2 l D cI cS (tq B 0 178) (rq B) hWX H hTX (B + 0) (xs 1) (xs 2) (xs 3) hτX l1) lk_L_88 yd_X11_span hTX hτX rfl (by decide) ⟨rfl, fun _ _ => rfl, hlo⟩ (fun q h => h.elim) ⟨Nat.le_of_ble_eq_true rfl, Nat.le_of_ble_eq_true rfl⟩ (Nat.le_of_ble_eq_true rfl) ⟨Nat.le_of_ble_eq_true rfl, Nat.le_of_ble_eq_true rfl⟩ rfl dL_law_594 (fun r_1 H_1 locs_1 p_1 hT_1 hk_1 hS_1 => ?_)
  refine th_topi (y := (-1)) (show ((-1) : Int32) = r_1 from p_1.2).symm ?_
  have kM : ∀ q, B + 178 ≤ q → H_1[q]? = H[q]? := fun q hq => hk_1 q (fun h => h.elim)
  have hTM := hTM.same (H1 := H_1) (fun q t h => kM q (by obtain ⟨j, rfl, z1, -, -⟩ := tq_some h; omega))
  have hFM := hFM.kept (H1 := H_1) kM
  have hX_1 : va_X b 4 xs s H_1 := hX.kept (hS_1.2.1 b (Nat.not_le.mpr hbB))
  refine lv_aload_n hx hb dL_law_597 rfl (lv_at hl 1 rfl) ?_
  refine lv_aload_n hx hb dL_law_598 rfl (lv_at hl 3 rfl) ?_
  refine lv_iload_n hx hb dL_law_599 rfl (lv_at hl 0 rfl) ?_
  refine lv_iconst (v := 1) hx hb dL_law_600 (by decide) ?_
  refine lv_iadd hx hb dL_law_601 ?_
  refine th_topi (y := 1) (by decide) ?_
  refine lw_sld (j := 1) hx hb hX_1 (by decide) (by decide) (by decide) dL_law_602 ?_
  refine lv_aload_n hx hb dL_law_603 rfl (lv_at hl 3 rfl) ?_
  refine lv_iload_n hx hb dL_law_604 rfl (lv_at hl 0 rfl) ?_
  refine lv_iconst (v := 2) hx hb dL_law_605 (by decide) ?_
  refine lv_iadd hx hb dL_law_606 ?_
  refine th_topi (y := 2) (by decide) ?_
  refine lw_sld (j := 2) hx hb hX_1 (by decide) (by decide) (by decide) dL_law_607 ?_
  refine lv_aload_n hx hb dL_law_608 rfl (lv_at hl 3 rfl) ?_
  refine lv_iload_n hx hb dL_law_609 rfl (lv_at hl 0 rfl) ?_
  refine lv_iconst (v := 3) hx hb dL_law_610 (by decide) ?_
  refine lv_iadd hx hb dL_law_611 ?_
  refine th_topi (y := 3) (by decide) ?_
  refine lw_sld (j := 3) hx hb hX_1 (by decide) (by decide) (by decide) dL_law_612 ?_
  refine th_Vi (A := fun q => B ≤ q) (As := [.int (xs 1), .int (xs 2), .int (xs 3)]) (rest := [.int (-1)]) E hml hl.1 (c_X12_span_v2 l D cI cS (tq B 178 186) (rq B) hWM H_1 hTM (B + 178) (xs 1) (xs 2) (xs 3) hτM l1) lk_L_92 yd_X12_span hTM hτM rfl (by decide) ⟨rfl, fun _ _ => rfl, hS_1.2.2⟩ (fun q h => h.elim) ⟨Nat.le_of_ble_eq_true rfl, Nat.le_of_ble_eq_true rfl⟩ (Nat.le_of_ble_eq_true rfl) ⟨Nat.le_of_ble_eq_true rfl, Nat.le_of_ble_eq_true rfl⟩ rfl dL_law_613 (fun r_2 H_2 locs_2 p_2 hT_2 hk_2 hS_2 => ?_)
  refine th_topi (y := (-1)) (show ((-1) : Int32) = r_2 from p_2.2).symm ?_
  have hX_2 : va_X b 4 xs s H_2 := hX_1.kept (hS_2.2.1 b (Nat.not_le.mpr hbB))
  refine lv_icmp_eq (tgt := 766) hx hb dL_law_616 (by decide) (fun c_ => ?_) (fun c_ => absurd (by decide) c_)
  exact kk H_2 locs_2 hS_2.2.2 hX_2
set_option maxHeartbeats 4000000 in
set_option maxRecDepth 100000 in
theorem w_span_2 (E : EE p s m args c cL_law RL D cI cS) (hml : c.maxLocals = 4) (hl : lv_has ls 4 [(3, .int 0), (2, .ref (B + 178)), (1, .ref (B + 0)), (0, .ref b)]) (hWX : WF (tq B 0 178) (rq B)) (hWM : WF (tq B 178 186) (rq B)) (hTX : TH D cI cS (tq B 0 178) (rq B) H) (hFX : FX D B H) (hTM : TH D cI cS (tq B 178 186) (rq B) H) (hFM : FM D B H) (hX : va_X b 4 xs s H) (hbB : b < B) (hlo : ∀ x ∈ locs, B ≤ x.base) (h1 : xs 1 = 0) (g2 : (xs 2).toInt ≤ -2) (kk : KL p l e s m args below meth c ls Q B b xs) : WL p l e s m args below meth c H locs ls Q 578 := by
  have hx := E.1
  have hb := E.2.1
  have hτX := ttX B
  have hτM := ttM B
  refine lv_aload_n hx hb dL_law_578 rfl (lv_at hl 2 rfl) ?_
  refine lv_aload_n hx hb dL_law_579 rfl (lv_at hl 3 rfl) ?_
  refine lv_iload_n hx hb dL_law_580 rfl (lv_at hl 0 rfl) ?_
  refine lv_iconst (v := 1) hx hb dL_law_581 (by decide) ?_
  refine lv_iadd hx hb dL_law_582 ?_
  refine th_topi (y := 1) (by decide) ?_
  refine lw_sld (j := 1) hx hb hX (by decide) (by decide) (by decide) dL_law_583 ?_
  refine th_topi h1 ?_
  refine lv_aload_n hx hb dL_law_584 rfl (lv_at hl 3 rfl) ?_
  refine lv_iload_n hx hb dL_law_585 rfl (lv_at hl 0 rfl) ?_
  refine lv_iconst (v := 2) hx hb dL_law_586 (by decide) ?_
  refine lv_iadd hx hb dL_law_587 ?_
  refine th_topi (y := 2) (by decide) ?_
  refine lw_sld (j := 2) hx hb hX (by decide) (by decide) (by decide) dL_law_588 ?_
  refine lv_aload_n hx hb dL_law_589 rfl (lv_at hl 3 rfl) ?_
  refine lv_iload_n hx hb dL_law_590 rfl (lv_at hl 0 rfl) ?_
  refine lv_iconst (v := 3) hx hb dL_law_591 (by decide) ?_
  refine lv_iadd hx hb dL_law_592 ?_
  refine th_topi (y := 3) (by decide) ?_
  refine lw_sld (j := 3) hx hb hX (by decide) (by decide) (by decide) dL_law_593 ?_
  refine th_Vi (A := fun q => B ≤ q) (As := [.int 0, .int (xs 2), .int (xs 3)]) (rest := []) E hml hl.1 (c_X11_span_v3 l D cI cS (tq B 0 178) (rq B) hWX H hTX (B + 0) (xs 2) (xs 3) hτX g2) lk_L_88 yd_X11_span hTX hτX rfl (by decide) ⟨rfl, fun _ _ => rfl, hlo⟩ (fun q h => h.elim) ⟨Nat.le_of_ble_eq_true rfl, Nat.le_of_ble_eq_true rfl⟩ (Nat.le_of_ble_eq_true rfl) ⟨Nat.le_of_ble_eq_true rfl, Nat.le_of_ble_eq_true rfl⟩ rfl dL_law_594 (fun r_1 H_1 locs_1 p_1 hT_1 hk_1 hS_1 => ?_)
  refine th_topi (y := (-1)) (show ((-1) : Int32) = r_1 from p_1.2).symm ?_
  have kM : ∀ q, B + 178 ≤ q → H_1[q]? = H[q]? := fun q hq => hk_1 q (fun h => h.elim)
  have hTM := hTM.same (H1 := H_1) (fun q t h => kM q (by obtain ⟨j, rfl, z1, -, -⟩ := tq_some h; omega))
  have hFM := hFM.kept (H1 := H_1) kM
  have hX_1 : va_X b 4 xs s H_1 := hX.kept (hS_1.2.1 b (Nat.not_le.mpr hbB))
  refine lv_aload_n hx hb dL_law_597 rfl (lv_at hl 1 rfl) ?_
  refine lv_aload_n hx hb dL_law_598 rfl (lv_at hl 3 rfl) ?_
  refine lv_iload_n hx hb dL_law_599 rfl (lv_at hl 0 rfl) ?_
  refine lv_iconst (v := 1) hx hb dL_law_600 (by decide) ?_
  refine lv_iadd hx hb dL_law_601 ?_
  refine th_topi (y := 1) (by decide) ?_
  refine lw_sld (j := 1) hx hb hX_1 (by decide) (by decide) (by decide) dL_law_602 ?_
  refine th_topi h1 ?_
  refine lv_aload_n hx hb dL_law_603 rfl (lv_at hl 3 rfl) ?_
  refine lv_iload_n hx hb dL_law_604 rfl (lv_at hl 0 rfl) ?_
  refine lv_iconst (v := 2) hx hb dL_law_605 (by decide) ?_
  refine lv_iadd hx hb dL_law_606 ?_
  refine th_topi (y := 2) (by decide) ?_
  refine lw_sld (j := 2) hx hb hX_1 (by decide) (by decide) (by decide) dL_law_607 ?_
  refine lv_aload_n hx hb dL_law_608 rfl (lv_at hl 3 rfl) ?_
  refine lv_iload_n hx hb dL_law_609 rfl (lv_at hl 0 rfl) ?_
  refine lv_iconst (v := 3) hx hb dL_law_610 (by decide) ?_
  refine lv_iadd hx hb dL_law_611 ?_
  refine th_topi (y := 3) (by decide) ?_
  refine lw_sld (j := 3) hx hb hX_1 (by decide) (by decide) (by decide) dL_law_612 ?_
  refine th_Vi (A := fun q => B ≤ q) (As := [.int 0, .int (xs 2), .int (xs 3)]) (rest := [.int (-1)]) E hml hl.1 (c_X12_span_v3 l D cI cS (tq B 178 186) (rq B) hWM H_1 hTM (B + 178) (xs 2) (xs 3) hτM g2) lk_L_92 yd_X12_span hTM hτM rfl (by decide) ⟨rfl, fun _ _ => rfl, hS_1.2.2⟩ (fun q h => h.elim) ⟨Nat.le_of_ble_eq_true rfl, Nat.le_of_ble_eq_true rfl⟩ (Nat.le_of_ble_eq_true rfl) ⟨Nat.le_of_ble_eq_true rfl, Nat.le_of_ble_eq_true rfl⟩ rfl dL_law_613 (fun r_2 H_2 locs_2 p_2 hT_2 hk_2 hS_2 => ?_)
  refine th_topi (y := (-1)) (show ((-1) : Int32) = r_2 from p_2.2).symm ?_
  have hX_2 : va_X b 4 xs s H_2 := hX_1.kept (hS_2.2.1 b (Nat.not_le.mpr hbB))
  refine lv_icmp_eq (tgt := 766) hx hb dL_law_616 (by decide) (fun c_ => ?_) (fun c_ => absurd (by decide) c_)
  exact kk H_2 locs_2 hS_2.2.2 hX_2
set_option maxHeartbeats 4000000 in
set_option maxRecDepth 100000 in
theorem w_span_3 (E : EE p s m args c cL_law RL D cI cS) (hml : c.maxLocals = 4) (hl : lv_has ls 4 [(3, .int 0), (2, .ref (B + 178)), (1, .ref (B + 0)), (0, .ref b)]) (hWX : WF (tq B 0 178) (rq B)) (hWM : WF (tq B 178 186) (rq B)) (hTX : TH D cI cS (tq B 0 178) (rq B) H) (hFX : FX D B H) (hTM : TH D cI cS (tq B 178 186) (rq B) H) (hFM : FM D B H) (hX : va_X b 4 xs s H) (hbB : b < B) (hlo : ∀ x ∈ locs, B ≤ x.base) (h1 : xs 1 = 0) (h2 : xs 2 = (-1)) (g3 : (xs 3).toInt ≤ -1) (kk : KL p l e s m args below meth c ls Q B b xs) : WL p l e s m args below meth c H locs ls Q 578 := by
  have hx := E.1
  have hb := E.2.1
  have hτX := ttX B
  have hτM := ttM B
  refine lv_aload_n hx hb dL_law_578 rfl (lv_at hl 2 rfl) ?_
  refine lv_aload_n hx hb dL_law_579 rfl (lv_at hl 3 rfl) ?_
  refine lv_iload_n hx hb dL_law_580 rfl (lv_at hl 0 rfl) ?_
  refine lv_iconst (v := 1) hx hb dL_law_581 (by decide) ?_
  refine lv_iadd hx hb dL_law_582 ?_
  refine th_topi (y := 1) (by decide) ?_
  refine lw_sld (j := 1) hx hb hX (by decide) (by decide) (by decide) dL_law_583 ?_
  refine th_topi h1 ?_
  refine lv_aload_n hx hb dL_law_584 rfl (lv_at hl 3 rfl) ?_
  refine lv_iload_n hx hb dL_law_585 rfl (lv_at hl 0 rfl) ?_
  refine lv_iconst (v := 2) hx hb dL_law_586 (by decide) ?_
  refine lv_iadd hx hb dL_law_587 ?_
  refine th_topi (y := 2) (by decide) ?_
  refine lw_sld (j := 2) hx hb hX (by decide) (by decide) (by decide) dL_law_588 ?_
  refine th_topi h2 ?_
  refine lv_aload_n hx hb dL_law_589 rfl (lv_at hl 3 rfl) ?_
  refine lv_iload_n hx hb dL_law_590 rfl (lv_at hl 0 rfl) ?_
  refine lv_iconst (v := 3) hx hb dL_law_591 (by decide) ?_
  refine lv_iadd hx hb dL_law_592 ?_
  refine th_topi (y := 3) (by decide) ?_
  refine lw_sld (j := 3) hx hb hX (by decide) (by decide) (by decide) dL_law_593 ?_
  refine th_Vi (A := fun q => B ≤ q) (As := [.int 0, .int (-1), .int (xs 3)]) (rest := []) E hml hl.1 (c_X11_span_v4 l D cI cS (tq B 0 178) (rq B) hWX H hTX (B + 0) (xs 3) hτX g3) lk_L_88 yd_X11_span hTX hτX rfl (by decide) ⟨rfl, fun _ _ => rfl, hlo⟩ (fun q h => h.elim) ⟨Nat.le_of_ble_eq_true rfl, Nat.le_of_ble_eq_true rfl⟩ (Nat.le_of_ble_eq_true rfl) ⟨Nat.le_of_ble_eq_true rfl, Nat.le_of_ble_eq_true rfl⟩ rfl dL_law_594 (fun r_1 H_1 locs_1 p_1 hT_1 hk_1 hS_1 => ?_)
  refine th_topi (y := (-1)) (show ((-1) : Int32) = r_1 from p_1.2).symm ?_
  have kM : ∀ q, B + 178 ≤ q → H_1[q]? = H[q]? := fun q hq => hk_1 q (fun h => h.elim)
  have hTM := hTM.same (H1 := H_1) (fun q t h => kM q (by obtain ⟨j, rfl, z1, -, -⟩ := tq_some h; omega))
  have hFM := hFM.kept (H1 := H_1) kM
  have hX_1 : va_X b 4 xs s H_1 := hX.kept (hS_1.2.1 b (Nat.not_le.mpr hbB))
  refine lv_aload_n hx hb dL_law_597 rfl (lv_at hl 1 rfl) ?_
  refine lv_aload_n hx hb dL_law_598 rfl (lv_at hl 3 rfl) ?_
  refine lv_iload_n hx hb dL_law_599 rfl (lv_at hl 0 rfl) ?_
  refine lv_iconst (v := 1) hx hb dL_law_600 (by decide) ?_
  refine lv_iadd hx hb dL_law_601 ?_
  refine th_topi (y := 1) (by decide) ?_
  refine lw_sld (j := 1) hx hb hX_1 (by decide) (by decide) (by decide) dL_law_602 ?_
  refine th_topi h1 ?_
  refine lv_aload_n hx hb dL_law_603 rfl (lv_at hl 3 rfl) ?_
  refine lv_iload_n hx hb dL_law_604 rfl (lv_at hl 0 rfl) ?_
  refine lv_iconst (v := 2) hx hb dL_law_605 (by decide) ?_
  refine lv_iadd hx hb dL_law_606 ?_
  refine th_topi (y := 2) (by decide) ?_
  refine lw_sld (j := 2) hx hb hX_1 (by decide) (by decide) (by decide) dL_law_607 ?_
  refine th_topi h2 ?_
  refine lv_aload_n hx hb dL_law_608 rfl (lv_at hl 3 rfl) ?_
  refine lv_iload_n hx hb dL_law_609 rfl (lv_at hl 0 rfl) ?_
  refine lv_iconst (v := 3) hx hb dL_law_610 (by decide) ?_
  refine lv_iadd hx hb dL_law_611 ?_
  refine th_topi (y := 3) (by decide) ?_
  refine lw_sld (j := 3) hx hb hX_1 (by decide) (by decide) (by decide) dL_law_612 ?_
  refine th_Vi (A := fun q => B ≤ q) (As := [.int 0, .int (-1), .int (xs 3)]) (rest := [.int (-1)]) E hml hl.1 (c_X12_span_v4 l D cI cS (tq B 178 186) (rq B) hWM H_1 hTM (B + 178) (xs 3) hτM g3) lk_L_92 yd_X12_span hTM hτM rfl (by decide) ⟨rfl, fun _ _ => rfl, hS_1.2.2⟩ (fun q h => h.elim) ⟨Nat.le_of_ble_eq_true rfl, Nat.le_of_ble_eq_true rfl⟩ (Nat.le_of_ble_eq_true rfl) ⟨Nat.le_of_ble_eq_true rfl, Nat.le_of_ble_eq_true rfl⟩ rfl dL_law_613 (fun r_2 H_2 locs_2 p_2 hT_2 hk_2 hS_2 => ?_)
  refine th_topi (y := (-1)) (show ((-1) : Int32) = r_2 from p_2.2).symm ?_
  have hX_2 : va_X b 4 xs s H_2 := hX_1.kept (hS_2.2.1 b (Nat.not_le.mpr hbB))
  refine lv_icmp_eq (tgt := 766) hx hb dL_law_616 (by decide) (fun c_ => ?_) (fun c_ => absurd (by decide) c_)
  exact kk H_2 locs_2 hS_2.2.2 hX_2
set_option maxHeartbeats 4000000 in
set_option maxRecDepth 100000 in
theorem w_span_4 (E : EE p s m args c cL_law RL D cI cS) (hml : c.maxLocals = 4) (hl : lv_has ls 4 [(3, .int 0), (2, .ref (B + 178)), (1, .ref (B + 0)), (0, .ref b)]) (hWX : WF (tq B 0 178) (rq B)) (hWM : WF (tq B 178 186) (rq B)) (hTX : TH D cI cS (tq B 0 178) (rq B) H) (hFX : FX D B H) (hTM : TH D cI cS (tq B 178 186) (rq B) H) (hFM : FM D B H) (hX : va_X b 4 xs s H) (hbB : b < B) (hlo : ∀ x ∈ locs, B ≤ x.base) (h1 : xs 1 = 0) (h2 : xs 2 = (-1)) (l3 : 0 ≤ (xs 3).toInt) (g3 : (xs 3).toInt ≤ 1) (kk : KL p l e s m args below meth c ls Q B b xs) : WL p l e s m args below meth c H locs ls Q 578 := by
  have hx := E.1
  have hb := E.2.1
  have hτX := ttX B
  have hτM := ttM B
  refine lv_aload_n hx hb dL_law_578 rfl (lv_at hl 2 rfl) ?_
  refine lv_aload_n hx hb dL_law_579 rfl (lv_at hl 3 rfl) ?_
  refine lv_iload_n hx hb dL_law_580 rfl (lv_at hl 0 rfl) ?_
  refine lv_iconst (v := 1) hx hb dL_law_581 (by decide) ?_
  refine lv_iadd hx hb dL_law_582 ?_
  refine th_topi (y := 1) (by decide) ?_
  refine lw_sld (j := 1) hx hb hX (by decide) (by decide) (by decide) dL_law_583 ?_
  refine th_topi h1 ?_
  refine lv_aload_n hx hb dL_law_584 rfl (lv_at hl 3 rfl) ?_
  refine lv_iload_n hx hb dL_law_585 rfl (lv_at hl 0 rfl) ?_
  refine lv_iconst (v := 2) hx hb dL_law_586 (by decide) ?_
  refine lv_iadd hx hb dL_law_587 ?_
  refine th_topi (y := 2) (by decide) ?_
  refine lw_sld (j := 2) hx hb hX (by decide) (by decide) (by decide) dL_law_588 ?_
  refine th_topi h2 ?_
  refine lv_aload_n hx hb dL_law_589 rfl (lv_at hl 3 rfl) ?_
  refine lv_iload_n hx hb dL_law_590 rfl (lv_at hl 0 rfl) ?_
  refine lv_iconst (v := 3) hx hb dL_law_591 (by decide) ?_
  refine lv_iadd hx hb dL_law_592 ?_
  refine th_topi (y := 3) (by decide) ?_
  refine lw_sld (j := 3) hx hb hX (by decide) (by decide) (by decide) dL_law_593 ?_
  refine th_Vi (A := fun q => B ≤ q) (As := [.int 0, .int (-1), .int (xs 3)]) (rest := []) E hml hl.1 (c_X11_span_v5 l D cI cS (tq B 0 178) (rq B) hWX H hTX (B + 0) (xs 3) hτX l3 g3 hFX.2.2.2.2.2.2.2.2.2.2.2.2.2.2.2.2.2.1 hFX.2.2.2.2.2.2.2.2.2.2.2.2.2.2.2.2.2.2.2.1 hFX.2.2.2.2.2.2.2.2.2.2.2.2.2.2.2.2.2.2.2.2.2.2.1) lk_L_88 yd_X11_span hTX hτX rfl (by decide) ⟨rfl, fun _ _ => rfl, hlo⟩ (fun q h => h.elim) ⟨Nat.le_of_ble_eq_true rfl, Nat.le_of_ble_eq_true rfl⟩ (Nat.le_of_ble_eq_true rfl) ⟨Nat.le_of_ble_eq_true rfl, Nat.le_of_ble_eq_true rfl⟩ rfl dL_law_594 (fun r_1 H_1 locs_1 p_1 hT_1 hk_1 hS_1 => ?_)
  refine th_topi (y := 0) (show (0 : Int32) = r_1 from p_1.2).symm ?_
  have kM : ∀ q, B + 178 ≤ q → H_1[q]? = H[q]? := fun q hq => hk_1 q (fun h => h.elim)
  have hTM := hTM.same (H1 := H_1) (fun q t h => kM q (by obtain ⟨j, rfl, z1, -, -⟩ := tq_some h; omega))
  have hFM := hFM.kept (H1 := H_1) kM
  have hX_1 : va_X b 4 xs s H_1 := hX.kept (hS_1.2.1 b (Nat.not_le.mpr hbB))
  refine lv_aload_n hx hb dL_law_597 rfl (lv_at hl 1 rfl) ?_
  refine lv_aload_n hx hb dL_law_598 rfl (lv_at hl 3 rfl) ?_
  refine lv_iload_n hx hb dL_law_599 rfl (lv_at hl 0 rfl) ?_
  refine lv_iconst (v := 1) hx hb dL_law_600 (by decide) ?_
  refine lv_iadd hx hb dL_law_601 ?_
  refine th_topi (y := 1) (by decide) ?_
  refine lw_sld (j := 1) hx hb hX_1 (by decide) (by decide) (by decide) dL_law_602 ?_
  refine th_topi h1 ?_
  refine lv_aload_n hx hb dL_law_603 rfl (lv_at hl 3 rfl) ?_
  refine lv_iload_n hx hb dL_law_604 rfl (lv_at hl 0 rfl) ?_
  refine lv_iconst (v := 2) hx hb dL_law_605 (by decide) ?_
  refine lv_iadd hx hb dL_law_606 ?_
  refine th_topi (y := 2) (by decide) ?_
  refine lw_sld (j := 2) hx hb hX_1 (by decide) (by decide) (by decide) dL_law_607 ?_
  refine th_topi h2 ?_
  refine lv_aload_n hx hb dL_law_608 rfl (lv_at hl 3 rfl) ?_
  refine lv_iload_n hx hb dL_law_609 rfl (lv_at hl 0 rfl) ?_
  refine lv_iconst (v := 3) hx hb dL_law_610 (by decide) ?_
  refine lv_iadd hx hb dL_law_611 ?_
  refine th_topi (y := 3) (by decide) ?_
  refine lw_sld (j := 3) hx hb hX_1 (by decide) (by decide) (by decide) dL_law_612 ?_
  refine th_Vi (A := fun q => B ≤ q) (As := [.int 0, .int (-1), .int (xs 3)]) (rest := [.int 0]) E hml hl.1 (c_X12_span_v5 l D cI cS (tq B 178 186) (rq B) hWM H_1 hTM (B + 178) (xs 3) hτM l3 g3 ((hFM.2.2.2.2.1 5 (by decide)).trans (by decide)) ((hFM.2.2.2.2.1 7 (by decide)).trans (by decide)) ((hFM.2.2.2.2.1 160 (by decide)).trans (by decide)) ((hFM.2.2.2.2.1 161 (by decide)).trans (by decide)) ((hFM.2.2.2.2.1 162 (by decide)).trans (by decide)) ((hFM.2.2.2.2.1 163 (by decide)).trans (by decide)) ((hFM.2.2.2.2.1 164 (by decide)).trans (by decide)) ((hFM.2.2.2.2.1 165 (by decide)).trans (by decide)) ((hFM.2.2.2.2.1 166 (by decide)).trans (by decide)) ((hFM.2.2.2.2.1 167 (by decide)).trans (by decide)) ((hFM.2.2.2.2.1 168 (by decide)).trans (by decide)) ((hFM.2.2.2.2.1 169 (by decide)).trans (by decide)) ((hFM.2.2.2.2.1 170 (by decide)).trans (by decide)) ((hFM.2.2.2.2.1 171 (by decide)).trans (by decide)) ((hFM.2.2.2.2.1 172 (by decide)).trans (by decide))) lk_L_92 yd_X12_span hTM hτM rfl (by decide) ⟨rfl, fun _ _ => rfl, hS_1.2.2⟩ (fun q h => h.elim) ⟨Nat.le_of_ble_eq_true rfl, Nat.le_of_ble_eq_true rfl⟩ (Nat.le_of_ble_eq_true rfl) ⟨Nat.le_of_ble_eq_true rfl, Nat.le_of_ble_eq_true rfl⟩ rfl dL_law_613 (fun r_2 H_2 locs_2 p_2 hT_2 hk_2 hS_2 => ?_)
  refine th_topi (y := 0) (show (0 : Int32) = r_2 from p_2.2).symm ?_
  have hX_2 : va_X b 4 xs s H_2 := hX_1.kept (hS_2.2.1 b (Nat.not_le.mpr hbB))
  refine lv_icmp_eq (tgt := 766) hx hb dL_law_616 (by decide) (fun c_ => ?_) (fun c_ => absurd (by decide) c_)
  exact kk H_2 locs_2 hS_2.2.2 hX_2
set_option maxHeartbeats 4000000 in
set_option maxRecDepth 100000 in
theorem w_span_5 (E : EE p s m args c cL_law RL D cI cS) (hml : c.maxLocals = 4) (hl : lv_has ls 4 [(3, .int 0), (2, .ref (B + 178)), (1, .ref (B + 0)), (0, .ref b)]) (hWX : WF (tq B 0 178) (rq B)) (hWM : WF (tq B 178 186) (rq B)) (hTX : TH D cI cS (tq B 0 178) (rq B) H) (hFX : FX D B H) (hTM : TH D cI cS (tq B 178 186) (rq B) H) (hFM : FM D B H) (hX : va_X b 4 xs s H) (hbB : b < B) (hlo : ∀ x ∈ locs, B ≤ x.base) (h1 : xs 1 = 0) (h2 : xs 2 = (-1)) (l3 : 2 ≤ (xs 3).toInt) (kk : KL p l e s m args below meth c ls Q B b xs) : WL p l e s m args below meth c H locs ls Q 578 := by
  have hx := E.1
  have hb := E.2.1
  have hτX := ttX B
  have hτM := ttM B
  refine lv_aload_n hx hb dL_law_578 rfl (lv_at hl 2 rfl) ?_
  refine lv_aload_n hx hb dL_law_579 rfl (lv_at hl 3 rfl) ?_
  refine lv_iload_n hx hb dL_law_580 rfl (lv_at hl 0 rfl) ?_
  refine lv_iconst (v := 1) hx hb dL_law_581 (by decide) ?_
  refine lv_iadd hx hb dL_law_582 ?_
  refine th_topi (y := 1) (by decide) ?_
  refine lw_sld (j := 1) hx hb hX (by decide) (by decide) (by decide) dL_law_583 ?_
  refine th_topi h1 ?_
  refine lv_aload_n hx hb dL_law_584 rfl (lv_at hl 3 rfl) ?_
  refine lv_iload_n hx hb dL_law_585 rfl (lv_at hl 0 rfl) ?_
  refine lv_iconst (v := 2) hx hb dL_law_586 (by decide) ?_
  refine lv_iadd hx hb dL_law_587 ?_
  refine th_topi (y := 2) (by decide) ?_
  refine lw_sld (j := 2) hx hb hX (by decide) (by decide) (by decide) dL_law_588 ?_
  refine th_topi h2 ?_
  refine lv_aload_n hx hb dL_law_589 rfl (lv_at hl 3 rfl) ?_
  refine lv_iload_n hx hb dL_law_590 rfl (lv_at hl 0 rfl) ?_
  refine lv_iconst (v := 3) hx hb dL_law_591 (by decide) ?_
  refine lv_iadd hx hb dL_law_592 ?_
  refine th_topi (y := 3) (by decide) ?_
  refine lw_sld (j := 3) hx hb hX (by decide) (by decide) (by decide) dL_law_593 ?_
  refine th_Vi (A := fun q => B ≤ q) (As := [.int 0, .int (-1), .int (xs 3)]) (rest := []) E hml hl.1 (c_X11_span_v6 l D cI cS (tq B 0 178) (rq B) hWX H hTX (B + 0) (xs 3) hτX l3) lk_L_88 yd_X11_span hTX hτX rfl (by decide) ⟨rfl, fun _ _ => rfl, hlo⟩ (fun q h => h.elim) ⟨Nat.le_of_ble_eq_true rfl, Nat.le_of_ble_eq_true rfl⟩ (Nat.le_of_ble_eq_true rfl) ⟨Nat.le_of_ble_eq_true rfl, Nat.le_of_ble_eq_true rfl⟩ rfl dL_law_594 (fun r_1 H_1 locs_1 p_1 hT_1 hk_1 hS_1 => ?_)
  refine th_topi (y := (-1)) (show ((-1) : Int32) = r_1 from p_1.2).symm ?_
  have kM : ∀ q, B + 178 ≤ q → H_1[q]? = H[q]? := fun q hq => hk_1 q (fun h => h.elim)
  have hTM := hTM.same (H1 := H_1) (fun q t h => kM q (by obtain ⟨j, rfl, z1, -, -⟩ := tq_some h; omega))
  have hFM := hFM.kept (H1 := H_1) kM
  have hX_1 : va_X b 4 xs s H_1 := hX.kept (hS_1.2.1 b (Nat.not_le.mpr hbB))
  refine lv_aload_n hx hb dL_law_597 rfl (lv_at hl 1 rfl) ?_
  refine lv_aload_n hx hb dL_law_598 rfl (lv_at hl 3 rfl) ?_
  refine lv_iload_n hx hb dL_law_599 rfl (lv_at hl 0 rfl) ?_
  refine lv_iconst (v := 1) hx hb dL_law_600 (by decide) ?_
  refine lv_iadd hx hb dL_law_601 ?_
  refine th_topi (y := 1) (by decide) ?_
  refine lw_sld (j := 1) hx hb hX_1 (by decide) (by decide) (by decide) dL_law_602 ?_
  refine th_topi h1 ?_
  refine lv_aload_n hx hb dL_law_603 rfl (lv_at hl 3 rfl) ?_
  refine lv_iload_n hx hb dL_law_604 rfl (lv_at hl 0 rfl) ?_
  refine lv_iconst (v := 2) hx hb dL_law_605 (by decide) ?_
  refine lv_iadd hx hb dL_law_606 ?_
  refine th_topi (y := 2) (by decide) ?_
  refine lw_sld (j := 2) hx hb hX_1 (by decide) (by decide) (by decide) dL_law_607 ?_
  refine th_topi h2 ?_
  refine lv_aload_n hx hb dL_law_608 rfl (lv_at hl 3 rfl) ?_
  refine lv_iload_n hx hb dL_law_609 rfl (lv_at hl 0 rfl) ?_
  refine lv_iconst (v := 3) hx hb dL_law_610 (by decide) ?_
  refine lv_iadd hx hb dL_law_611 ?_
  refine th_topi (y := 3) (by decide) ?_
  refine lw_sld (j := 3) hx hb hX_1 (by decide) (by decide) (by decide) dL_law_612 ?_
  refine th_Vi (A := fun q => B ≤ q) (As := [.int 0, .int (-1), .int (xs 3)]) (rest := [.int (-1)]) E hml hl.1 (c_X12_span_v6 l D cI cS (tq B 178 186) (rq B) hWM H_1 hTM (B + 178) (xs 3) hτM l3) lk_L_92 yd_X12_span hTM hτM rfl (by decide) ⟨rfl, fun _ _ => rfl, hS_1.2.2⟩ (fun q h => h.elim) ⟨Nat.le_of_ble_eq_true rfl, Nat.le_of_ble_eq_true rfl⟩ (Nat.le_of_ble_eq_true rfl) ⟨Nat.le_of_ble_eq_true rfl, Nat.le_of_ble_eq_true rfl⟩ rfl dL_law_613 (fun r_2 H_2 locs_2 p_2 hT_2 hk_2 hS_2 => ?_)
  refine th_topi (y := (-1)) (show ((-1) : Int32) = r_2 from p_2.2).symm ?_
  have hX_2 : va_X b 4 xs s H_2 := hX_1.kept (hS_2.2.1 b (Nat.not_le.mpr hbB))
  refine lv_icmp_eq (tgt := 766) hx hb dL_law_616 (by decide) (fun c_ => ?_) (fun c_ => absurd (by decide) c_)
  exact kk H_2 locs_2 hS_2.2.2 hX_2
set_option maxHeartbeats 4000000 in
set_option maxRecDepth 100000 in
theorem w_span_6 (E : EE p s m args c cL_law RL D cI cS) (hml : c.maxLocals = 4) (hl : lv_has ls 4 [(3, .int 0), (2, .ref (B + 178)), (1, .ref (B + 0)), (0, .ref b)]) (hWX : WF (tq B 0 178) (rq B)) (hWM : WF (tq B 178 186) (rq B)) (hTX : TH D cI cS (tq B 0 178) (rq B) H) (hFX : FX D B H) (hTM : TH D cI cS (tq B 178 186) (rq B) H) (hFM : FM D B H) (hX : va_X b 4 xs s H) (hbB : b < B) (hlo : ∀ x ∈ locs, B ≤ x.base) (h1 : xs 1 = 0) (l2 : 0 ≤ (xs 2).toInt) (g3 : (xs 3).toInt ≤ -1) (kk : KL p l e s m args below meth c ls Q B b xs) : WL p l e s m args below meth c H locs ls Q 578 := by
  have hx := E.1
  have hb := E.2.1
  have hτX := ttX B
  have hτM := ttM B
  refine lv_aload_n hx hb dL_law_578 rfl (lv_at hl 2 rfl) ?_
  refine lv_aload_n hx hb dL_law_579 rfl (lv_at hl 3 rfl) ?_
  refine lv_iload_n hx hb dL_law_580 rfl (lv_at hl 0 rfl) ?_
  refine lv_iconst (v := 1) hx hb dL_law_581 (by decide) ?_
  refine lv_iadd hx hb dL_law_582 ?_
  refine th_topi (y := 1) (by decide) ?_
  refine lw_sld (j := 1) hx hb hX (by decide) (by decide) (by decide) dL_law_583 ?_
  refine th_topi h1 ?_
  refine lv_aload_n hx hb dL_law_584 rfl (lv_at hl 3 rfl) ?_
  refine lv_iload_n hx hb dL_law_585 rfl (lv_at hl 0 rfl) ?_
  refine lv_iconst (v := 2) hx hb dL_law_586 (by decide) ?_
  refine lv_iadd hx hb dL_law_587 ?_
  refine th_topi (y := 2) (by decide) ?_
  refine lw_sld (j := 2) hx hb hX (by decide) (by decide) (by decide) dL_law_588 ?_
  refine lv_aload_n hx hb dL_law_589 rfl (lv_at hl 3 rfl) ?_
  refine lv_iload_n hx hb dL_law_590 rfl (lv_at hl 0 rfl) ?_
  refine lv_iconst (v := 3) hx hb dL_law_591 (by decide) ?_
  refine lv_iadd hx hb dL_law_592 ?_
  refine th_topi (y := 3) (by decide) ?_
  refine lw_sld (j := 3) hx hb hX (by decide) (by decide) (by decide) dL_law_593 ?_
  refine th_Vi (A := fun q => B ≤ q) (As := [.int 0, .int (xs 2), .int (xs 3)]) (rest := []) E hml hl.1 (c_X11_span_v7 l D cI cS (tq B 0 178) (rq B) hWX H hTX (B + 0) (xs 2) (xs 3) hτX l2 g3) lk_L_88 yd_X11_span hTX hτX rfl (by decide) ⟨rfl, fun _ _ => rfl, hlo⟩ (fun q h => h.elim) ⟨Nat.le_of_ble_eq_true rfl, Nat.le_of_ble_eq_true rfl⟩ (Nat.le_of_ble_eq_true rfl) ⟨Nat.le_of_ble_eq_true rfl, Nat.le_of_ble_eq_true rfl⟩ rfl dL_law_594 (fun r_1 H_1 locs_1 p_1 hT_1 hk_1 hS_1 => ?_)
  refine th_topi (y := (-1)) (show ((-1) : Int32) = r_1 from p_1.2).symm ?_
  have kM : ∀ q, B + 178 ≤ q → H_1[q]? = H[q]? := fun q hq => hk_1 q (fun h => h.elim)
  have hTM := hTM.same (H1 := H_1) (fun q t h => kM q (by obtain ⟨j, rfl, z1, -, -⟩ := tq_some h; omega))
  have hFM := hFM.kept (H1 := H_1) kM
  have hX_1 : va_X b 4 xs s H_1 := hX.kept (hS_1.2.1 b (Nat.not_le.mpr hbB))
  refine lv_aload_n hx hb dL_law_597 rfl (lv_at hl 1 rfl) ?_
  refine lv_aload_n hx hb dL_law_598 rfl (lv_at hl 3 rfl) ?_
  refine lv_iload_n hx hb dL_law_599 rfl (lv_at hl 0 rfl) ?_
  refine lv_iconst (v := 1) hx hb dL_law_600 (by decide) ?_
  refine lv_iadd hx hb dL_law_601 ?_
  refine th_topi (y := 1) (by decide) ?_
  refine lw_sld (j := 1) hx hb hX_1 (by decide) (by decide) (by decide) dL_law_602 ?_
  refine th_topi h1 ?_
  refine lv_aload_n hx hb dL_law_603 rfl (lv_at hl 3 rfl) ?_
  refine lv_iload_n hx hb dL_law_604 rfl (lv_at hl 0 rfl) ?_
  refine lv_iconst (v := 2) hx hb dL_law_605 (by decide) ?_
  refine lv_iadd hx hb dL_law_606 ?_
  refine th_topi (y := 2) (by decide) ?_
  refine lw_sld (j := 2) hx hb hX_1 (by decide) (by decide) (by decide) dL_law_607 ?_
  refine lv_aload_n hx hb dL_law_608 rfl (lv_at hl 3 rfl) ?_
  refine lv_iload_n hx hb dL_law_609 rfl (lv_at hl 0 rfl) ?_
  refine lv_iconst (v := 3) hx hb dL_law_610 (by decide) ?_
  refine lv_iadd hx hb dL_law_611 ?_
  refine th_topi (y := 3) (by decide) ?_
  refine lw_sld (j := 3) hx hb hX_1 (by decide) (by decide) (by decide) dL_law_612 ?_
  refine th_Vi (A := fun q => B ≤ q) (As := [.int 0, .int (xs 2), .int (xs 3)]) (rest := [.int (-1)]) E hml hl.1 (c_X12_span_v7 l D cI cS (tq B 178 186) (rq B) hWM H_1 hTM (B + 178) (xs 2) (xs 3) hτM l2 g3) lk_L_92 yd_X12_span hTM hτM rfl (by decide) ⟨rfl, fun _ _ => rfl, hS_1.2.2⟩ (fun q h => h.elim) ⟨Nat.le_of_ble_eq_true rfl, Nat.le_of_ble_eq_true rfl⟩ (Nat.le_of_ble_eq_true rfl) ⟨Nat.le_of_ble_eq_true rfl, Nat.le_of_ble_eq_true rfl⟩ rfl dL_law_613 (fun r_2 H_2 locs_2 p_2 hT_2 hk_2 hS_2 => ?_)
  refine th_topi (y := (-1)) (show ((-1) : Int32) = r_2 from p_2.2).symm ?_
  have hX_2 : va_X b 4 xs s H_2 := hX_1.kept (hS_2.2.1 b (Nat.not_le.mpr hbB))
  refine lv_icmp_eq (tgt := 766) hx hb dL_law_616 (by decide) (fun c_ => ?_) (fun c_ => absurd (by decide) c_)
  exact kk H_2 locs_2 hS_2.2.2 hX_2
set_option maxHeartbeats 4000000 in
set_option maxRecDepth 100000 in
theorem w_span_7 (E : EE p s m args c cL_law RL D cI cS) (hml : c.maxLocals = 4) (hl : lv_has ls 4 [(3, .int 0), (2, .ref (B + 178)), (1, .ref (B + 0)), (0, .ref b)]) (hWX : WF (tq B 0 178) (rq B)) (hWM : WF (tq B 178 186) (rq B)) (hTX : TH D cI cS (tq B 0 178) (rq B) H) (hFX : FX D B H) (hTM : TH D cI cS (tq B 178 186) (rq B) H) (hFM : FM D B H) (hX : va_X b 4 xs s H) (hbB : b < B) (hlo : ∀ x ∈ locs, B ≤ x.base) (h1 : xs 1 = 0) (l2 : 0 ≤ (xs 2).toInt) (l3 : 0 ≤ (xs 3).toInt) (g3 : (xs 3).toInt ≤ 1) (kk : KL p l e s m args below meth c ls Q B b xs) : WL p l e s m args below meth c H locs ls Q 578 := by
  have hx := E.1
  have hb := E.2.1
  have hτX := ttX B
  have hτM := ttM B
  refine lv_aload_n hx hb dL_law_578 rfl (lv_at hl 2 rfl) ?_
  refine lv_aload_n hx hb dL_law_579 rfl (lv_at hl 3 rfl) ?_
  refine lv_iload_n hx hb dL_law_580 rfl (lv_at hl 0 rfl) ?_
  refine lv_iconst (v := 1) hx hb dL_law_581 (by decide) ?_
  refine lv_iadd hx hb dL_law_582 ?_
  refine th_topi (y := 1) (by decide) ?_
  refine lw_sld (j := 1) hx hb hX (by decide) (by decide) (by decide) dL_law_583 ?_
  refine th_topi h1 ?_
  refine lv_aload_n hx hb dL_law_584 rfl (lv_at hl 3 rfl) ?_
  refine lv_iload_n hx hb dL_law_585 rfl (lv_at hl 0 rfl) ?_
  refine lv_iconst (v := 2) hx hb dL_law_586 (by decide) ?_
  refine lv_iadd hx hb dL_law_587 ?_
  refine th_topi (y := 2) (by decide) ?_
  refine lw_sld (j := 2) hx hb hX (by decide) (by decide) (by decide) dL_law_588 ?_
  refine lv_aload_n hx hb dL_law_589 rfl (lv_at hl 3 rfl) ?_
  refine lv_iload_n hx hb dL_law_590 rfl (lv_at hl 0 rfl) ?_
  refine lv_iconst (v := 3) hx hb dL_law_591 (by decide) ?_
  refine lv_iadd hx hb dL_law_592 ?_
  refine th_topi (y := 3) (by decide) ?_
  refine lw_sld (j := 3) hx hb hX (by decide) (by decide) (by decide) dL_law_593 ?_
  refine th_Vi (A := fun q => B ≤ q) (As := [.int 0, .int (xs 2), .int (xs 3)]) (rest := []) E hml hl.1 (c_X11_span_v8 l D cI cS (tq B 0 178) (rq B) hWX H hTX (B + 0) (xs 2) (xs 3) hτX l2 l3 g3 hFX.2.2.2.2.2.2.2.2.2.2.2.2.2.2.2.2.2.1 hFX.2.2.2.2.2.2.2.2.2.2.2.2.2.2.2.2.2.2.2.1 hFX.2.2.2.2.2.2.2.2.2.2.2.2.2.2.2.2.2.2.2.2.2.2.1) lk_L_88 yd_X11_span hTX hτX rfl (by decide) ⟨rfl, fun _ _ => rfl, hlo⟩ (fun q h => h.elim) ⟨Nat.le_of_ble_eq_true rfl, Nat.le_of_ble_eq_true rfl⟩ (Nat.le_of_ble_eq_true rfl) ⟨Nat.le_of_ble_eq_true rfl, Nat.le_of_ble_eq_true rfl⟩ rfl dL_law_594 (fun r_1 H_1 locs_1 p_1 hT_1 hk_1 hS_1 => ?_)
  refine th_topi (y := (-4)) (show ((-4) : Int32) = r_1 from p_1.2).symm ?_
  have kM : ∀ q, B + 178 ≤ q → H_1[q]? = H[q]? := fun q hq => hk_1 q (fun h => h.elim)
  have hTM := hTM.same (H1 := H_1) (fun q t h => kM q (by obtain ⟨j, rfl, z1, -, -⟩ := tq_some h; omega))
  have hFM := hFM.kept (H1 := H_1) kM
  have hX_1 : va_X b 4 xs s H_1 := hX.kept (hS_1.2.1 b (Nat.not_le.mpr hbB))
  refine lv_aload_n hx hb dL_law_597 rfl (lv_at hl 1 rfl) ?_
  refine lv_aload_n hx hb dL_law_598 rfl (lv_at hl 3 rfl) ?_
  refine lv_iload_n hx hb dL_law_599 rfl (lv_at hl 0 rfl) ?_
  refine lv_iconst (v := 1) hx hb dL_law_600 (by decide) ?_
  refine lv_iadd hx hb dL_law_601 ?_
  refine th_topi (y := 1) (by decide) ?_
  refine lw_sld (j := 1) hx hb hX_1 (by decide) (by decide) (by decide) dL_law_602 ?_
  refine th_topi h1 ?_
  refine lv_aload_n hx hb dL_law_603 rfl (lv_at hl 3 rfl) ?_
  refine lv_iload_n hx hb dL_law_604 rfl (lv_at hl 0 rfl) ?_
  refine lv_iconst (v := 2) hx hb dL_law_605 (by decide) ?_
  refine lv_iadd hx hb dL_law_606 ?_
  refine th_topi (y := 2) (by decide) ?_
  refine lw_sld (j := 2) hx hb hX_1 (by decide) (by decide) (by decide) dL_law_607 ?_
  refine lv_aload_n hx hb dL_law_608 rfl (lv_at hl 3 rfl) ?_
  refine lv_iload_n hx hb dL_law_609 rfl (lv_at hl 0 rfl) ?_
  refine lv_iconst (v := 3) hx hb dL_law_610 (by decide) ?_
  refine lv_iadd hx hb dL_law_611 ?_
  refine th_topi (y := 3) (by decide) ?_
  refine lw_sld (j := 3) hx hb hX_1 (by decide) (by decide) (by decide) dL_law_612 ?_
  refine th_Vi (A := fun q => B ≤ q) (As := [.int 0, .int (xs 2), .int (xs 3)]) (rest := [.int (-4)]) E hml hl.1 (c_X12_span_v8 l D cI cS (tq B 178 186) (rq B) hWM H_1 hTM (B + 178) (xs 2) (xs 3) hτM l2 l3 g3 ((hFM.2.2.2.2.1 5 (by decide)).trans (by decide)) ((hFM.2.2.2.2.1 7 (by decide)).trans (by decide)) ((hFM.2.2.2.2.1 160 (by decide)).trans (by decide)) ((hFM.2.2.2.2.1 161 (by decide)).trans (by decide)) ((hFM.2.2.2.2.1 162 (by decide)).trans (by decide)) ((hFM.2.2.2.2.1 163 (by decide)).trans (by decide)) ((hFM.2.2.2.2.1 164 (by decide)).trans (by decide)) ((hFM.2.2.2.2.1 165 (by decide)).trans (by decide)) ((hFM.2.2.2.2.1 166 (by decide)).trans (by decide)) ((hFM.2.2.2.2.1 167 (by decide)).trans (by decide)) ((hFM.2.2.2.2.1 168 (by decide)).trans (by decide)) ((hFM.2.2.2.2.1 169 (by decide)).trans (by decide)) ((hFM.2.2.2.2.1 170 (by decide)).trans (by decide)) ((hFM.2.2.2.2.1 171 (by decide)).trans (by decide)) ((hFM.2.2.2.2.1 172 (by decide)).trans (by decide))) lk_L_92 yd_X12_span hTM hτM rfl (by decide) ⟨rfl, fun _ _ => rfl, hS_1.2.2⟩ (fun q h => h.elim) ⟨Nat.le_of_ble_eq_true rfl, Nat.le_of_ble_eq_true rfl⟩ (Nat.le_of_ble_eq_true rfl) ⟨Nat.le_of_ble_eq_true rfl, Nat.le_of_ble_eq_true rfl⟩ rfl dL_law_613 (fun r_2 H_2 locs_2 p_2 hT_2 hk_2 hS_2 => ?_)
  refine th_topi (y := (-4)) (show ((-4) : Int32) = r_2 from p_2.2).symm ?_
  have hX_2 : va_X b 4 xs s H_2 := hX_1.kept (hS_2.2.1 b (Nat.not_le.mpr hbB))
  refine lv_icmp_eq (tgt := 766) hx hb dL_law_616 (by decide) (fun c_ => ?_) (fun c_ => absurd (by decide) c_)
  exact kk H_2 locs_2 hS_2.2.2 hX_2
set_option maxHeartbeats 4000000 in
set_option maxRecDepth 100000 in
theorem w_span_8 (E : EE p s m args c cL_law RL D cI cS) (hml : c.maxLocals = 4) (hl : lv_has ls 4 [(3, .int 0), (2, .ref (B + 178)), (1, .ref (B + 0)), (0, .ref b)]) (hWX : WF (tq B 0 178) (rq B)) (hWM : WF (tq B 178 186) (rq B)) (hTX : TH D cI cS (tq B 0 178) (rq B) H) (hFX : FX D B H) (hTM : TH D cI cS (tq B 178 186) (rq B) H) (hFM : FM D B H) (hX : va_X b 4 xs s H) (hbB : b < B) (hlo : ∀ x ∈ locs, B ≤ x.base) (h1 : xs 1 = 0) (l2 : 0 ≤ (xs 2).toInt) (l3 : 2 ≤ (xs 3).toInt) (kk : KL p l e s m args below meth c ls Q B b xs) : WL p l e s m args below meth c H locs ls Q 578 := by
  have hx := E.1
  have hb := E.2.1
  have hτX := ttX B
  have hτM := ttM B
  refine lv_aload_n hx hb dL_law_578 rfl (lv_at hl 2 rfl) ?_
  refine lv_aload_n hx hb dL_law_579 rfl (lv_at hl 3 rfl) ?_
  refine lv_iload_n hx hb dL_law_580 rfl (lv_at hl 0 rfl) ?_
  refine lv_iconst (v := 1) hx hb dL_law_581 (by decide) ?_
  refine lv_iadd hx hb dL_law_582 ?_
  refine th_topi (y := 1) (by decide) ?_
  refine lw_sld (j := 1) hx hb hX (by decide) (by decide) (by decide) dL_law_583 ?_
  refine th_topi h1 ?_
  refine lv_aload_n hx hb dL_law_584 rfl (lv_at hl 3 rfl) ?_
  refine lv_iload_n hx hb dL_law_585 rfl (lv_at hl 0 rfl) ?_
  refine lv_iconst (v := 2) hx hb dL_law_586 (by decide) ?_
  refine lv_iadd hx hb dL_law_587 ?_
  refine th_topi (y := 2) (by decide) ?_
  refine lw_sld (j := 2) hx hb hX (by decide) (by decide) (by decide) dL_law_588 ?_
  refine lv_aload_n hx hb dL_law_589 rfl (lv_at hl 3 rfl) ?_
  refine lv_iload_n hx hb dL_law_590 rfl (lv_at hl 0 rfl) ?_
  refine lv_iconst (v := 3) hx hb dL_law_591 (by decide) ?_
  refine lv_iadd hx hb dL_law_592 ?_
  refine th_topi (y := 3) (by decide) ?_
  refine lw_sld (j := 3) hx hb hX (by decide) (by decide) (by decide) dL_law_593 ?_
  refine th_Vi (A := fun q => B ≤ q) (As := [.int 0, .int (xs 2), .int (xs 3)]) (rest := []) E hml hl.1 (c_X11_span_v9 l D cI cS (tq B 0 178) (rq B) hWX H hTX (B + 0) (xs 2) (xs 3) hτX l2 l3) lk_L_88 yd_X11_span hTX hτX rfl (by decide) ⟨rfl, fun _ _ => rfl, hlo⟩ (fun q h => h.elim) ⟨Nat.le_of_ble_eq_true rfl, Nat.le_of_ble_eq_true rfl⟩ (Nat.le_of_ble_eq_true rfl) ⟨Nat.le_of_ble_eq_true rfl, Nat.le_of_ble_eq_true rfl⟩ rfl dL_law_594 (fun r_1 H_1 locs_1 p_1 hT_1 hk_1 hS_1 => ?_)
  refine th_topi (y := (-1)) (show ((-1) : Int32) = r_1 from p_1.2).symm ?_
  have kM : ∀ q, B + 178 ≤ q → H_1[q]? = H[q]? := fun q hq => hk_1 q (fun h => h.elim)
  have hTM := hTM.same (H1 := H_1) (fun q t h => kM q (by obtain ⟨j, rfl, z1, -, -⟩ := tq_some h; omega))
  have hFM := hFM.kept (H1 := H_1) kM
  have hX_1 : va_X b 4 xs s H_1 := hX.kept (hS_1.2.1 b (Nat.not_le.mpr hbB))
  refine lv_aload_n hx hb dL_law_597 rfl (lv_at hl 1 rfl) ?_
  refine lv_aload_n hx hb dL_law_598 rfl (lv_at hl 3 rfl) ?_
  refine lv_iload_n hx hb dL_law_599 rfl (lv_at hl 0 rfl) ?_
  refine lv_iconst (v := 1) hx hb dL_law_600 (by decide) ?_
  refine lv_iadd hx hb dL_law_601 ?_
  refine th_topi (y := 1) (by decide) ?_
  refine lw_sld (j := 1) hx hb hX_1 (by decide) (by decide) (by decide) dL_law_602 ?_
  refine th_topi h1 ?_
  refine lv_aload_n hx hb dL_law_603 rfl (lv_at hl 3 rfl) ?_
  refine lv_iload_n hx hb dL_law_604 rfl (lv_at hl 0 rfl) ?_
  refine lv_iconst (v := 2) hx hb dL_law_605 (by decide) ?_
  refine lv_iadd hx hb dL_law_606 ?_
  refine th_topi (y := 2) (by decide) ?_
  refine lw_sld (j := 2) hx hb hX_1 (by decide) (by decide) (by decide) dL_law_607 ?_
  refine lv_aload_n hx hb dL_law_608 rfl (lv_at hl 3 rfl) ?_
  refine lv_iload_n hx hb dL_law_609 rfl (lv_at hl 0 rfl) ?_
  refine lv_iconst (v := 3) hx hb dL_law_610 (by decide) ?_
  refine lv_iadd hx hb dL_law_611 ?_
  refine th_topi (y := 3) (by decide) ?_
  refine lw_sld (j := 3) hx hb hX_1 (by decide) (by decide) (by decide) dL_law_612 ?_
  refine th_Vi (A := fun q => B ≤ q) (As := [.int 0, .int (xs 2), .int (xs 3)]) (rest := [.int (-1)]) E hml hl.1 (c_X12_span_v9 l D cI cS (tq B 178 186) (rq B) hWM H_1 hTM (B + 178) (xs 2) (xs 3) hτM l2 l3) lk_L_92 yd_X12_span hTM hτM rfl (by decide) ⟨rfl, fun _ _ => rfl, hS_1.2.2⟩ (fun q h => h.elim) ⟨Nat.le_of_ble_eq_true rfl, Nat.le_of_ble_eq_true rfl⟩ (Nat.le_of_ble_eq_true rfl) ⟨Nat.le_of_ble_eq_true rfl, Nat.le_of_ble_eq_true rfl⟩ rfl dL_law_613 (fun r_2 H_2 locs_2 p_2 hT_2 hk_2 hS_2 => ?_)
  refine th_topi (y := (-1)) (show ((-1) : Int32) = r_2 from p_2.2).symm ?_
  have hX_2 : va_X b 4 xs s H_2 := hX_1.kept (hS_2.2.1 b (Nat.not_le.mpr hbB))
  refine lv_icmp_eq (tgt := 766) hx hb dL_law_616 (by decide) (fun c_ => ?_) (fun c_ => absurd (by decide) c_)
  exact kk H_2 locs_2 hS_2.2.2 hX_2
set_option maxHeartbeats 4000000 in
set_option maxRecDepth 100000 in
theorem w_span_9 (E : EE p s m args c cL_law RL D cI cS) (hml : c.maxLocals = 4) (hl : lv_has ls 4 [(3, .int 0), (2, .ref (B + 178)), (1, .ref (B + 0)), (0, .ref b)]) (hWX : WF (tq B 0 178) (rq B)) (hWM : WF (tq B 178 186) (rq B)) (hTX : TH D cI cS (tq B 0 178) (rq B) H) (hFX : FX D B H) (hTM : TH D cI cS (tq B 178 186) (rq B) H) (hFM : FM D B H) (hX : va_X b 4 xs s H) (hbB : b < B) (hlo : ∀ x ∈ locs, B ≤ x.base) (h1 : xs 1 = 1) (g2 : (xs 2).toInt ≤ -2) (kk : KL p l e s m args below meth c ls Q B b xs) : WL p l e s m args below meth c H locs ls Q 578 := by
  have hx := E.1
  have hb := E.2.1
  have hτX := ttX B
  have hτM := ttM B
  refine lv_aload_n hx hb dL_law_578 rfl (lv_at hl 2 rfl) ?_
  refine lv_aload_n hx hb dL_law_579 rfl (lv_at hl 3 rfl) ?_
  refine lv_iload_n hx hb dL_law_580 rfl (lv_at hl 0 rfl) ?_
  refine lv_iconst (v := 1) hx hb dL_law_581 (by decide) ?_
  refine lv_iadd hx hb dL_law_582 ?_
  refine th_topi (y := 1) (by decide) ?_
  refine lw_sld (j := 1) hx hb hX (by decide) (by decide) (by decide) dL_law_583 ?_
  refine th_topi h1 ?_
  refine lv_aload_n hx hb dL_law_584 rfl (lv_at hl 3 rfl) ?_
  refine lv_iload_n hx hb dL_law_585 rfl (lv_at hl 0 rfl) ?_
  refine lv_iconst (v := 2) hx hb dL_law_586 (by decide) ?_
  refine lv_iadd hx hb dL_law_587 ?_
  refine th_topi (y := 2) (by decide) ?_
  refine lw_sld (j := 2) hx hb hX (by decide) (by decide) (by decide) dL_law_588 ?_
  refine lv_aload_n hx hb dL_law_589 rfl (lv_at hl 3 rfl) ?_
  refine lv_iload_n hx hb dL_law_590 rfl (lv_at hl 0 rfl) ?_
  refine lv_iconst (v := 3) hx hb dL_law_591 (by decide) ?_
  refine lv_iadd hx hb dL_law_592 ?_
  refine th_topi (y := 3) (by decide) ?_
  refine lw_sld (j := 3) hx hb hX (by decide) (by decide) (by decide) dL_law_593 ?_
  refine th_Vi (A := fun q => B ≤ q) (As := [.int 1, .int (xs 2), .int (xs 3)]) (rest := []) E hml hl.1 (c_X11_span_v10 l D cI cS (tq B 0 178) (rq B) hWX H hTX (B + 0) (xs 2) (xs 3) hτX g2) lk_L_88 yd_X11_span hTX hτX rfl (by decide) ⟨rfl, fun _ _ => rfl, hlo⟩ (fun q h => h.elim) ⟨Nat.le_of_ble_eq_true rfl, Nat.le_of_ble_eq_true rfl⟩ (Nat.le_of_ble_eq_true rfl) ⟨Nat.le_of_ble_eq_true rfl, Nat.le_of_ble_eq_true rfl⟩ rfl dL_law_594 (fun r_1 H_1 locs_1 p_1 hT_1 hk_1 hS_1 => ?_)
  refine th_topi (y := (-1)) (show ((-1) : Int32) = r_1 from p_1.2).symm ?_
  have kM : ∀ q, B + 178 ≤ q → H_1[q]? = H[q]? := fun q hq => hk_1 q (fun h => h.elim)
  have hTM := hTM.same (H1 := H_1) (fun q t h => kM q (by obtain ⟨j, rfl, z1, -, -⟩ := tq_some h; omega))
  have hFM := hFM.kept (H1 := H_1) kM
  have hX_1 : va_X b 4 xs s H_1 := hX.kept (hS_1.2.1 b (Nat.not_le.mpr hbB))
  refine lv_aload_n hx hb dL_law_597 rfl (lv_at hl 1 rfl) ?_
  refine lv_aload_n hx hb dL_law_598 rfl (lv_at hl 3 rfl) ?_
  refine lv_iload_n hx hb dL_law_599 rfl (lv_at hl 0 rfl) ?_
  refine lv_iconst (v := 1) hx hb dL_law_600 (by decide) ?_
  refine lv_iadd hx hb dL_law_601 ?_
  refine th_topi (y := 1) (by decide) ?_
  refine lw_sld (j := 1) hx hb hX_1 (by decide) (by decide) (by decide) dL_law_602 ?_
  refine th_topi h1 ?_
  refine lv_aload_n hx hb dL_law_603 rfl (lv_at hl 3 rfl) ?_
  refine lv_iload_n hx hb dL_law_604 rfl (lv_at hl 0 rfl) ?_
  refine lv_iconst (v := 2) hx hb dL_law_605 (by decide) ?_
  refine lv_iadd hx hb dL_law_606 ?_
  refine th_topi (y := 2) (by decide) ?_
  refine lw_sld (j := 2) hx hb hX_1 (by decide) (by decide) (by decide) dL_law_607 ?_
  refine lv_aload_n hx hb dL_law_608 rfl (lv_at hl 3 rfl) ?_
  refine lv_iload_n hx hb dL_law_609 rfl (lv_at hl 0 rfl) ?_
  refine lv_iconst (v := 3) hx hb dL_law_610 (by decide) ?_
  refine lv_iadd hx hb dL_law_611 ?_
  refine th_topi (y := 3) (by decide) ?_
  refine lw_sld (j := 3) hx hb hX_1 (by decide) (by decide) (by decide) dL_law_612 ?_
  refine th_Vi (A := fun q => B ≤ q) (As := [.int 1, .int (xs 2), .int (xs 3)]) (rest := [.int (-1)]) E hml hl.1 (c_X12_span_v10 l D cI cS (tq B 178 186) (rq B) hWM H_1 hTM (B + 178) (xs 2) (xs 3) hτM g2) lk_L_92 yd_X12_span hTM hτM rfl (by decide) ⟨rfl, fun _ _ => rfl, hS_1.2.2⟩ (fun q h => h.elim) ⟨Nat.le_of_ble_eq_true rfl, Nat.le_of_ble_eq_true rfl⟩ (Nat.le_of_ble_eq_true rfl) ⟨Nat.le_of_ble_eq_true rfl, Nat.le_of_ble_eq_true rfl⟩ rfl dL_law_613 (fun r_2 H_2 locs_2 p_2 hT_2 hk_2 hS_2 => ?_)
  refine th_topi (y := (-1)) (show ((-1) : Int32) = r_2 from p_2.2).symm ?_
  have hX_2 : va_X b 4 xs s H_2 := hX_1.kept (hS_2.2.1 b (Nat.not_le.mpr hbB))
  refine lv_icmp_eq (tgt := 766) hx hb dL_law_616 (by decide) (fun c_ => ?_) (fun c_ => absurd (by decide) c_)
  exact kk H_2 locs_2 hS_2.2.2 hX_2
set_option maxHeartbeats 4000000 in
set_option maxRecDepth 100000 in
theorem w_span_10 (E : EE p s m args c cL_law RL D cI cS) (hml : c.maxLocals = 4) (hl : lv_has ls 4 [(3, .int 0), (2, .ref (B + 178)), (1, .ref (B + 0)), (0, .ref b)]) (hWX : WF (tq B 0 178) (rq B)) (hWM : WF (tq B 178 186) (rq B)) (hTX : TH D cI cS (tq B 0 178) (rq B) H) (hFX : FX D B H) (hTM : TH D cI cS (tq B 178 186) (rq B) H) (hFM : FM D B H) (hX : va_X b 4 xs s H) (hbB : b < B) (hlo : ∀ x ∈ locs, B ≤ x.base) (h1 : xs 1 = 1) (h2 : xs 2 = (-1)) (g3 : (xs 3).toInt ≤ -1) (kk : KL p l e s m args below meth c ls Q B b xs) : WL p l e s m args below meth c H locs ls Q 578 := by
  have hx := E.1
  have hb := E.2.1
  have hτX := ttX B
  have hτM := ttM B
  refine lv_aload_n hx hb dL_law_578 rfl (lv_at hl 2 rfl) ?_
  refine lv_aload_n hx hb dL_law_579 rfl (lv_at hl 3 rfl) ?_
  refine lv_iload_n hx hb dL_law_580 rfl (lv_at hl 0 rfl) ?_
  refine lv_iconst (v := 1) hx hb dL_law_581 (by decide) ?_
  refine lv_iadd hx hb dL_law_582 ?_
  refine th_topi (y := 1) (by decide) ?_
  refine lw_sld (j := 1) hx hb hX (by decide) (by decide) (by decide) dL_law_583 ?_
  refine th_topi h1 ?_
  refine lv_aload_n hx hb dL_law_584 rfl (lv_at hl 3 rfl) ?_
  refine lv_iload_n hx hb dL_law_585 rfl (lv_at hl 0 rfl) ?_
  refine lv_iconst (v := 2) hx hb dL_law_586 (by decide) ?_
  refine lv_iadd hx hb dL_law_587 ?_
  refine th_topi (y := 2) (by decide) ?_
  refine lw_sld (j := 2) hx hb hX (by decide) (by decide) (by decide) dL_law_588 ?_
  refine th_topi h2 ?_
  refine lv_aload_n hx hb dL_law_589 rfl (lv_at hl 3 rfl) ?_
  refine lv_iload_n hx hb dL_law_590 rfl (lv_at hl 0 rfl) ?_
  refine lv_iconst (v := 3) hx hb dL_law_591 (by decide) ?_
  refine lv_iadd hx hb dL_law_592 ?_
  refine th_topi (y := 3) (by decide) ?_
  refine lw_sld (j := 3) hx hb hX (by decide) (by decide) (by decide) dL_law_593 ?_
  refine th_Vi (A := fun q => B ≤ q) (As := [.int 1, .int (-1), .int (xs 3)]) (rest := []) E hml hl.1 (c_X11_span_v11 l D cI cS (tq B 0 178) (rq B) hWX H hTX (B + 0) (xs 3) hτX g3) lk_L_88 yd_X11_span hTX hτX rfl (by decide) ⟨rfl, fun _ _ => rfl, hlo⟩ (fun q h => h.elim) ⟨Nat.le_of_ble_eq_true rfl, Nat.le_of_ble_eq_true rfl⟩ (Nat.le_of_ble_eq_true rfl) ⟨Nat.le_of_ble_eq_true rfl, Nat.le_of_ble_eq_true rfl⟩ rfl dL_law_594 (fun r_1 H_1 locs_1 p_1 hT_1 hk_1 hS_1 => ?_)
  refine th_topi (y := (-1)) (show ((-1) : Int32) = r_1 from p_1.2).symm ?_
  have kM : ∀ q, B + 178 ≤ q → H_1[q]? = H[q]? := fun q hq => hk_1 q (fun h => h.elim)
  have hTM := hTM.same (H1 := H_1) (fun q t h => kM q (by obtain ⟨j, rfl, z1, -, -⟩ := tq_some h; omega))
  have hFM := hFM.kept (H1 := H_1) kM
  have hX_1 : va_X b 4 xs s H_1 := hX.kept (hS_1.2.1 b (Nat.not_le.mpr hbB))
  refine lv_aload_n hx hb dL_law_597 rfl (lv_at hl 1 rfl) ?_
  refine lv_aload_n hx hb dL_law_598 rfl (lv_at hl 3 rfl) ?_
  refine lv_iload_n hx hb dL_law_599 rfl (lv_at hl 0 rfl) ?_
  refine lv_iconst (v := 1) hx hb dL_law_600 (by decide) ?_
  refine lv_iadd hx hb dL_law_601 ?_
  refine th_topi (y := 1) (by decide) ?_
  refine lw_sld (j := 1) hx hb hX_1 (by decide) (by decide) (by decide) dL_law_602 ?_
  refine th_topi h1 ?_
  refine lv_aload_n hx hb dL_law_603 rfl (lv_at hl 3 rfl) ?_
  refine lv_iload_n hx hb dL_law_604 rfl (lv_at hl 0 rfl) ?_
  refine lv_iconst (v := 2) hx hb dL_law_605 (by decide) ?_
  refine lv_iadd hx hb dL_law_606 ?_
  refine th_topi (y := 2) (by decide) ?_
  refine lw_sld (j := 2) hx hb hX_1 (by decide) (by decide) (by decide) dL_law_607 ?_
  refine th_topi h2 ?_
  refine lv_aload_n hx hb dL_law_608 rfl (lv_at hl 3 rfl) ?_
  refine lv_iload_n hx hb dL_law_609 rfl (lv_at hl 0 rfl) ?_
  refine lv_iconst (v := 3) hx hb dL_law_610 (by decide) ?_
  refine lv_iadd hx hb dL_law_611 ?_
  refine th_topi (y := 3) (by decide) ?_
  refine lw_sld (j := 3) hx hb hX_1 (by decide) (by decide) (by decide) dL_law_612 ?_
  refine th_Vi (A := fun q => B ≤ q) (As := [.int 1, .int (-1), .int (xs 3)]) (rest := [.int (-1)]) E hml hl.1 (c_X12_span_v11 l D cI cS (tq B 178 186) (rq B) hWM H_1 hTM (B + 178) (xs 3) hτM g3) lk_L_92 yd_X12_span hTM hτM rfl (by decide) ⟨rfl, fun _ _ => rfl, hS_1.2.2⟩ (fun q h => h.elim) ⟨Nat.le_of_ble_eq_true rfl, Nat.le_of_ble_eq_true rfl⟩ (Nat.le_of_ble_eq_true rfl) ⟨Nat.le_of_ble_eq_true rfl, Nat.le_of_ble_eq_true rfl⟩ rfl dL_law_613 (fun r_2 H_2 locs_2 p_2 hT_2 hk_2 hS_2 => ?_)
  refine th_topi (y := (-1)) (show ((-1) : Int32) = r_2 from p_2.2).symm ?_
  have hX_2 : va_X b 4 xs s H_2 := hX_1.kept (hS_2.2.1 b (Nat.not_le.mpr hbB))
  refine lv_icmp_eq (tgt := 766) hx hb dL_law_616 (by decide) (fun c_ => ?_) (fun c_ => absurd (by decide) c_)
  exact kk H_2 locs_2 hS_2.2.2 hX_2
set_option maxHeartbeats 4000000 in
set_option maxRecDepth 100000 in
theorem w_span_11 (E : EE p s m args c cL_law RL D cI cS) (hml : c.maxLocals = 4) (hl : lv_has ls 4 [(3, .int 0), (2, .ref (B + 178)), (1, .ref (B + 0)), (0, .ref b)]) (hWX : WF (tq B 0 178) (rq B)) (hWM : WF (tq B 178 186) (rq B)) (hTX : TH D cI cS (tq B 0 178) (rq B) H) (hFX : FX D B H) (hTM : TH D cI cS (tq B 178 186) (rq B) H) (hFM : FM D B H) (hX : va_X b 4 xs s H) (hbB : b < B) (hlo : ∀ x ∈ locs, B ≤ x.base) (h1 : xs 1 = 1) (h2 : xs 2 = (-1)) (l3 : 0 ≤ (xs 3).toInt) (g3 : (xs 3).toInt ≤ 1) (kk : KL p l e s m args below meth c ls Q B b xs) : WL p l e s m args below meth c H locs ls Q 578 := by
  have hx := E.1
  have hb := E.2.1
  have hτX := ttX B
  have hτM := ttM B
  refine lv_aload_n hx hb dL_law_578 rfl (lv_at hl 2 rfl) ?_
  refine lv_aload_n hx hb dL_law_579 rfl (lv_at hl 3 rfl) ?_
  refine lv_iload_n hx hb dL_law_580 rfl (lv_at hl 0 rfl) ?_
  refine lv_iconst (v := 1) hx hb dL_law_581 (by decide) ?_
  refine lv_iadd hx hb dL_law_582 ?_
  refine th_topi (y := 1) (by decide) ?_
  refine lw_sld (j := 1) hx hb hX (by decide) (by decide) (by decide) dL_law_583 ?_
  refine th_topi h1 ?_
  refine lv_aload_n hx hb dL_law_584 rfl (lv_at hl 3 rfl) ?_
  refine lv_iload_n hx hb dL_law_585 rfl (lv_at hl 0 rfl) ?_
  refine lv_iconst (v := 2) hx hb dL_law_586 (by decide) ?_
  refine lv_iadd hx hb dL_law_587 ?_
  refine th_topi (y := 2) (by decide) ?_
  refine lw_sld (j := 2) hx hb hX (by decide) (by decide) (by decide) dL_law_588 ?_
  refine th_topi h2 ?_
  refine lv_aload_n hx hb dL_law_589 rfl (lv_at hl 3 rfl) ?_
  refine lv_iload_n hx hb dL_law_590 rfl (lv_at hl 0 rfl) ?_
  refine lv_iconst (v := 3) hx hb dL_law_591 (by decide) ?_
  refine lv_iadd hx hb dL_law_592 ?_
  refine th_topi (y := 3) (by decide) ?_
  refine lw_sld (j := 3) hx hb hX (by decide) (by decide) (by decide) dL_law_593 ?_
  refine th_Vi (A := fun q => B ≤ q) (As := [.int 1, .int (-1), .int (xs 3)]) (rest := []) E hml hl.1 (c_X11_span_v12 l D cI cS (tq B 0 178) (rq B) hWX H hTX (B + 0) (xs 3) hτX l3 g3 hFX.2.2.2.2.2.2.2.2.2.2.2.2.2.2.2.2.2.2.2.2.2.2.2.2.2.2.2.2.2.2.2.2.2.2.2.2.2.2.2.1 hFX.2.2.2.2.2.2.2.2.2.2.2.2.2.2.2.2.2.2.2.2.2.2.2.2.2.2.2.2.2.2.2.2.2.2.2.2.2.2.2.2.2.1 hFX.2.2.2.2.2.2.2.2.2.2.2.2.2.2.2.2.2.2.2.2.2.2.2.2.2.2.2.2.2.2.2.2.2.2.2.2.2.2.2.2.2.2.2.2.1) lk_L_88 yd_X11_span hTX hτX rfl (by decide) ⟨rfl, fun _ _ => rfl, hlo⟩ (fun q h => h.elim) ⟨Nat.le_of_ble_eq_true rfl, Nat.le_of_ble_eq_true rfl⟩ (Nat.le_of_ble_eq_true rfl) ⟨Nat.le_of_ble_eq_true rfl, Nat.le_of_ble_eq_true rfl⟩ rfl dL_law_594 (fun r_1 H_1 locs_1 p_1 hT_1 hk_1 hS_1 => ?_)
  refine th_topi (y := 0) (show (0 : Int32) = r_1 from p_1.2).symm ?_
  have kM : ∀ q, B + 178 ≤ q → H_1[q]? = H[q]? := fun q hq => hk_1 q (fun h => h.elim)
  have hTM := hTM.same (H1 := H_1) (fun q t h => kM q (by obtain ⟨j, rfl, z1, -, -⟩ := tq_some h; omega))
  have hFM := hFM.kept (H1 := H_1) kM
  have hX_1 : va_X b 4 xs s H_1 := hX.kept (hS_1.2.1 b (Nat.not_le.mpr hbB))
  refine lv_aload_n hx hb dL_law_597 rfl (lv_at hl 1 rfl) ?_
  refine lv_aload_n hx hb dL_law_598 rfl (lv_at hl 3 rfl) ?_
  refine lv_iload_n hx hb dL_law_599 rfl (lv_at hl 0 rfl) ?_
  refine lv_iconst (v := 1) hx hb dL_law_600 (by decide) ?_
  refine lv_iadd hx hb dL_law_601 ?_
  refine th_topi (y := 1) (by decide) ?_
  refine lw_sld (j := 1) hx hb hX_1 (by decide) (by decide) (by decide) dL_law_602 ?_
  refine th_topi h1 ?_
  refine lv_aload_n hx hb dL_law_603 rfl (lv_at hl 3 rfl) ?_
  refine lv_iload_n hx hb dL_law_604 rfl (lv_at hl 0 rfl) ?_
  refine lv_iconst (v := 2) hx hb dL_law_605 (by decide) ?_
  refine lv_iadd hx hb dL_law_606 ?_
  refine th_topi (y := 2) (by decide) ?_
  refine lw_sld (j := 2) hx hb hX_1 (by decide) (by decide) (by decide) dL_law_607 ?_
  refine th_topi h2 ?_
  refine lv_aload_n hx hb dL_law_608 rfl (lv_at hl 3 rfl) ?_
  refine lv_iload_n hx hb dL_law_609 rfl (lv_at hl 0 rfl) ?_
  refine lv_iconst (v := 3) hx hb dL_law_610 (by decide) ?_
  refine lv_iadd hx hb dL_law_611 ?_
  refine th_topi (y := 3) (by decide) ?_
  refine lw_sld (j := 3) hx hb hX_1 (by decide) (by decide) (by decide) dL_law_612 ?_
  refine th_Vi (A := fun q => B ≤ q) (As := [.int 1, .int (-1), .int (xs 3)]) (rest := [.int 0]) E hml hl.1 (c_X12_span_v12 l D cI cS (tq B 178 186) (rq B) hWM H_1 hTM (B + 178) (xs 3) hτM l3 g3 ((hFM.2.2.2.2.1 293 (by decide)).trans (by decide)) ((hFM.2.2.2.2.1 295 (by decide)).trans (by decide)) ((hFM.2.2.2.2.1 448 (by decide)).trans (by decide)) ((hFM.2.2.2.2.1 449 (by decide)).trans (by decide)) ((hFM.2.2.2.2.1 450 (by decide)).trans (by decide)) ((hFM.2.2.2.2.1 451 (by decide)).trans (by decide)) ((hFM.2.2.2.2.1 452 (by decide)).trans (by decide)) ((hFM.2.2.2.2.1 453 (by decide)).trans (by decide)) ((hFM.2.2.2.2.1 454 (by decide)).trans (by decide)) ((hFM.2.2.2.2.1 455 (by decide)).trans (by decide)) ((hFM.2.2.2.2.1 456 (by decide)).trans (by decide)) ((hFM.2.2.2.2.1 457 (by decide)).trans (by decide)) ((hFM.2.2.2.2.1 458 (by decide)).trans (by decide)) ((hFM.2.2.2.2.1 459 (by decide)).trans (by decide)) ((hFM.2.2.2.2.1 460 (by decide)).trans (by decide))) lk_L_92 yd_X12_span hTM hτM rfl (by decide) ⟨rfl, fun _ _ => rfl, hS_1.2.2⟩ (fun q h => h.elim) ⟨Nat.le_of_ble_eq_true rfl, Nat.le_of_ble_eq_true rfl⟩ (Nat.le_of_ble_eq_true rfl) ⟨Nat.le_of_ble_eq_true rfl, Nat.le_of_ble_eq_true rfl⟩ rfl dL_law_613 (fun r_2 H_2 locs_2 p_2 hT_2 hk_2 hS_2 => ?_)
  refine th_topi (y := 0) (show (0 : Int32) = r_2 from p_2.2).symm ?_
  have hX_2 : va_X b 4 xs s H_2 := hX_1.kept (hS_2.2.1 b (Nat.not_le.mpr hbB))
  refine lv_icmp_eq (tgt := 766) hx hb dL_law_616 (by decide) (fun c_ => ?_) (fun c_ => absurd (by decide) c_)
  exact kk H_2 locs_2 hS_2.2.2 hX_2
set_option maxHeartbeats 4000000 in
set_option maxRecDepth 100000 in
theorem w_span_12 (E : EE p s m args c cL_law RL D cI cS) (hml : c.maxLocals = 4) (hl : lv_has ls 4 [(3, .int 0), (2, .ref (B + 178)), (1, .ref (B + 0)), (0, .ref b)]) (hWX : WF (tq B 0 178) (rq B)) (hWM : WF (tq B 178 186) (rq B)) (hTX : TH D cI cS (tq B 0 178) (rq B) H) (hFX : FX D B H) (hTM : TH D cI cS (tq B 178 186) (rq B) H) (hFM : FM D B H) (hX : va_X b 4 xs s H) (hbB : b < B) (hlo : ∀ x ∈ locs, B ≤ x.base) (h1 : xs 1 = 1) (h2 : xs 2 = (-1)) (l3 : 2 ≤ (xs 3).toInt) (kk : KL p l e s m args below meth c ls Q B b xs) : WL p l e s m args below meth c H locs ls Q 578 := by
  have hx := E.1
  have hb := E.2.1
  have hτX := ttX B
  have hτM := ttM B
  refine lv_aload_n hx hb dL_law_578 rfl (lv_at hl 2 rfl) ?_
  refine lv_aload_n hx hb dL_law_579 rfl (lv_at hl 3 rfl) ?_
  refine lv_iload_n hx hb dL_law_580 rfl (lv_at hl 0 rfl) ?_
  refine lv_iconst (v := 1) hx hb dL_law_581 (by decide) ?_
  refine lv_iadd hx hb dL_law_582 ?_
  refine th_topi (y := 1) (by decide) ?_
  refine lw_sld (j := 1) hx hb hX (by decide) (by decide) (by decide) dL_law_583 ?_
  refine th_topi h1 ?_
  refine lv_aload_n hx hb dL_law_584 rfl (lv_at hl 3 rfl) ?_
  refine lv_iload_n hx hb dL_law_585 rfl (lv_at hl 0 rfl) ?_
  refine lv_iconst (v := 2) hx hb dL_law_586 (by decide) ?_
  refine lv_iadd hx hb dL_law_587 ?_
  refine th_topi (y := 2) (by decide) ?_
  refine lw_sld (j := 2) hx hb hX (by decide) (by decide) (by decide) dL_law_588 ?_
  refine th_topi h2 ?_
  refine lv_aload_n hx hb dL_law_589 rfl (lv_at hl 3 rfl) ?_
  refine lv_iload_n hx hb dL_law_590 rfl (lv_at hl 0 rfl) ?_
  refine lv_iconst (v := 3) hx hb dL_law_591 (by decide) ?_
  refine lv_iadd hx hb dL_law_592 ?_
  refine th_topi (y := 3) (by decide) ?_
  refine lw_sld (j := 3) hx hb hX (by decide) (by decide) (by decide) dL_law_593 ?_
  refine th_Vi (A := fun q => B ≤ q) (As := [.int 1, .int (-1), .int (xs 3)]) (rest := []) E hml hl.1 (c_X11_span_v13 l D cI cS (tq B 0 178) (rq B) hWX H hTX (B + 0) (xs 3) hτX l3) lk_L_88 yd_X11_span hTX hτX rfl (by decide) ⟨rfl, fun _ _ => rfl, hlo⟩ (fun q h => h.elim) ⟨Nat.le_of_ble_eq_true rfl, Nat.le_of_ble_eq_true rfl⟩ (Nat.le_of_ble_eq_true rfl) ⟨Nat.le_of_ble_eq_true rfl, Nat.le_of_ble_eq_true rfl⟩ rfl dL_law_594 (fun r_1 H_1 locs_1 p_1 hT_1 hk_1 hS_1 => ?_)
  refine th_topi (y := (-1)) (show ((-1) : Int32) = r_1 from p_1.2).symm ?_
  have kM : ∀ q, B + 178 ≤ q → H_1[q]? = H[q]? := fun q hq => hk_1 q (fun h => h.elim)
  have hTM := hTM.same (H1 := H_1) (fun q t h => kM q (by obtain ⟨j, rfl, z1, -, -⟩ := tq_some h; omega))
  have hFM := hFM.kept (H1 := H_1) kM
  have hX_1 : va_X b 4 xs s H_1 := hX.kept (hS_1.2.1 b (Nat.not_le.mpr hbB))
  refine lv_aload_n hx hb dL_law_597 rfl (lv_at hl 1 rfl) ?_
  refine lv_aload_n hx hb dL_law_598 rfl (lv_at hl 3 rfl) ?_
  refine lv_iload_n hx hb dL_law_599 rfl (lv_at hl 0 rfl) ?_
  refine lv_iconst (v := 1) hx hb dL_law_600 (by decide) ?_
  refine lv_iadd hx hb dL_law_601 ?_
  refine th_topi (y := 1) (by decide) ?_
  refine lw_sld (j := 1) hx hb hX_1 (by decide) (by decide) (by decide) dL_law_602 ?_
  refine th_topi h1 ?_
  refine lv_aload_n hx hb dL_law_603 rfl (lv_at hl 3 rfl) ?_
  refine lv_iload_n hx hb dL_law_604 rfl (lv_at hl 0 rfl) ?_
  refine lv_iconst (v := 2) hx hb dL_law_605 (by decide) ?_
  refine lv_iadd hx hb dL_law_606 ?_
  refine th_topi (y := 2) (by decide) ?_
  refine lw_sld (j := 2) hx hb hX_1 (by decide) (by decide) (by decide) dL_law_607 ?_
  refine th_topi h2 ?_
  refine lv_aload_n hx hb dL_law_608 rfl (lv_at hl 3 rfl) ?_
  refine lv_iload_n hx hb dL_law_609 rfl (lv_at hl 0 rfl) ?_
  refine lv_iconst (v := 3) hx hb dL_law_610 (by decide) ?_
  refine lv_iadd hx hb dL_law_611 ?_
  refine th_topi (y := 3) (by decide) ?_
  refine lw_sld (j := 3) hx hb hX_1 (by decide) (by decide) (by decide) dL_law_612 ?_
  refine th_Vi (A := fun q => B ≤ q) (As := [.int 1, .int (-1), .int (xs 3)]) (rest := [.int (-1)]) E hml hl.1 (c_X12_span_v13 l D cI cS (tq B 178 186) (rq B) hWM H_1 hTM (B + 178) (xs 3) hτM l3) lk_L_92 yd_X12_span hTM hτM rfl (by decide) ⟨rfl, fun _ _ => rfl, hS_1.2.2⟩ (fun q h => h.elim) ⟨Nat.le_of_ble_eq_true rfl, Nat.le_of_ble_eq_true rfl⟩ (Nat.le_of_ble_eq_true rfl) ⟨Nat.le_of_ble_eq_true rfl, Nat.le_of_ble_eq_true rfl⟩ rfl dL_law_613 (fun r_2 H_2 locs_2 p_2 hT_2 hk_2 hS_2 => ?_)
  refine th_topi (y := (-1)) (show ((-1) : Int32) = r_2 from p_2.2).symm ?_
  have hX_2 : va_X b 4 xs s H_2 := hX_1.kept (hS_2.2.1 b (Nat.not_le.mpr hbB))
  refine lv_icmp_eq (tgt := 766) hx hb dL_law_616 (by decide) (fun c_ => ?_) (fun c_ => absurd (by decide) c_)
  exact kk H_2 locs_2 hS_2.2.2 hX_2
set_option maxHeartbeats 4000000 in
set_option maxRecDepth 100000 in
theorem w_span_13 (E : EE p s m args c cL_law RL D cI cS) (hml : c.maxLocals = 4) (hl : lv_has ls 4 [(3, .int 0), (2, .ref (B + 178)), (1, .ref (B + 0)), (0, .ref b)]) (hWX : WF (tq B 0 178) (rq B)) (hWM : WF (tq B 178 186) (rq B)) (hTX : TH D cI cS (tq B 0 178) (rq B) H) (hFX : FX D B H) (hTM : TH D cI cS (tq B 178 186) (rq B) H) (hFM : FM D B H) (hX : va_X b 4 xs s H) (hbB : b < B) (hlo : ∀ x ∈ locs, B ≤ x.base) (h1 : xs 1 = 1) (l2 : 0 ≤ (xs 2).toInt) (g3 : (xs 3).toInt ≤ -1) (kk : KL p l e s m args below meth c ls Q B b xs) : WL p l e s m args below meth c H locs ls Q 578 := by
  have hx := E.1
  have hb := E.2.1
  have hτX := ttX B
  have hτM := ttM B
  refine lv_aload_n hx hb dL_law_578 rfl (lv_at hl 2 rfl) ?_
  refine lv_aload_n hx hb dL_law_579 rfl (lv_at hl 3 rfl) ?_
  refine lv_iload_n hx hb dL_law_580 rfl (lv_at hl 0 rfl) ?_
  refine lv_iconst (v := 1) hx hb dL_law_581 (by decide) ?_
  refine lv_iadd hx hb dL_law_582 ?_
  refine th_topi (y := 1) (by decide) ?_
  refine lw_sld (j := 1) hx hb hX (by decide) (by decide) (by decide) dL_law_583 ?_
  refine th_topi h1 ?_
  refine lv_aload_n hx hb dL_law_584 rfl (lv_at hl 3 rfl) ?_
  refine lv_iload_n hx hb dL_law_585 rfl (lv_at hl 0 rfl) ?_
  refine lv_iconst (v := 2) hx hb dL_law_586 (by decide) ?_
  refine lv_iadd hx hb dL_law_587 ?_
  refine th_topi (y := 2) (by decide) ?_
  refine lw_sld (j := 2) hx hb hX (by decide) (by decide) (by decide) dL_law_588 ?_
  refine lv_aload_n hx hb dL_law_589 rfl (lv_at hl 3 rfl) ?_
  refine lv_iload_n hx hb dL_law_590 rfl (lv_at hl 0 rfl) ?_
  refine lv_iconst (v := 3) hx hb dL_law_591 (by decide) ?_
  refine lv_iadd hx hb dL_law_592 ?_
  refine th_topi (y := 3) (by decide) ?_
  refine lw_sld (j := 3) hx hb hX (by decide) (by decide) (by decide) dL_law_593 ?_
  refine th_Vi (A := fun q => B ≤ q) (As := [.int 1, .int (xs 2), .int (xs 3)]) (rest := []) E hml hl.1 (c_X11_span_v14 l D cI cS (tq B 0 178) (rq B) hWX H hTX (B + 0) (xs 2) (xs 3) hτX l2 g3) lk_L_88 yd_X11_span hTX hτX rfl (by decide) ⟨rfl, fun _ _ => rfl, hlo⟩ (fun q h => h.elim) ⟨Nat.le_of_ble_eq_true rfl, Nat.le_of_ble_eq_true rfl⟩ (Nat.le_of_ble_eq_true rfl) ⟨Nat.le_of_ble_eq_true rfl, Nat.le_of_ble_eq_true rfl⟩ rfl dL_law_594 (fun r_1 H_1 locs_1 p_1 hT_1 hk_1 hS_1 => ?_)
  refine th_topi (y := (-1)) (show ((-1) : Int32) = r_1 from p_1.2).symm ?_
  have kM : ∀ q, B + 178 ≤ q → H_1[q]? = H[q]? := fun q hq => hk_1 q (fun h => h.elim)
  have hTM := hTM.same (H1 := H_1) (fun q t h => kM q (by obtain ⟨j, rfl, z1, -, -⟩ := tq_some h; omega))
  have hFM := hFM.kept (H1 := H_1) kM
  have hX_1 : va_X b 4 xs s H_1 := hX.kept (hS_1.2.1 b (Nat.not_le.mpr hbB))
  refine lv_aload_n hx hb dL_law_597 rfl (lv_at hl 1 rfl) ?_
  refine lv_aload_n hx hb dL_law_598 rfl (lv_at hl 3 rfl) ?_
  refine lv_iload_n hx hb dL_law_599 rfl (lv_at hl 0 rfl) ?_
  refine lv_iconst (v := 1) hx hb dL_law_600 (by decide) ?_
  refine lv_iadd hx hb dL_law_601 ?_
  refine th_topi (y := 1) (by decide) ?_
  refine lw_sld (j := 1) hx hb hX_1 (by decide) (by decide) (by decide) dL_law_602 ?_
  refine th_topi h1 ?_
  refine lv_aload_n hx hb dL_law_603 rfl (lv_at hl 3 rfl) ?_
  refine lv_iload_n hx hb dL_law_604 rfl (lv_at hl 0 rfl) ?_
  refine lv_iconst (v := 2) hx hb dL_law_605 (by decide) ?_
  refine lv_iadd hx hb dL_law_606 ?_
  refine th_topi (y := 2) (by decide) ?_
  refine lw_sld (j := 2) hx hb hX_1 (by decide) (by decide) (by decide) dL_law_607 ?_
  refine lv_aload_n hx hb dL_law_608 rfl (lv_at hl 3 rfl) ?_
  refine lv_iload_n hx hb dL_law_609 rfl (lv_at hl 0 rfl) ?_
  refine lv_iconst (v := 3) hx hb dL_law_610 (by decide) ?_
  refine lv_iadd hx hb dL_law_611 ?_
  refine th_topi (y := 3) (by decide) ?_
  refine lw_sld (j := 3) hx hb hX_1 (by decide) (by decide) (by decide) dL_law_612 ?_
  refine th_Vi (A := fun q => B ≤ q) (As := [.int 1, .int (xs 2), .int (xs 3)]) (rest := [.int (-1)]) E hml hl.1 (c_X12_span_v14 l D cI cS (tq B 178 186) (rq B) hWM H_1 hTM (B + 178) (xs 2) (xs 3) hτM l2 g3) lk_L_92 yd_X12_span hTM hτM rfl (by decide) ⟨rfl, fun _ _ => rfl, hS_1.2.2⟩ (fun q h => h.elim) ⟨Nat.le_of_ble_eq_true rfl, Nat.le_of_ble_eq_true rfl⟩ (Nat.le_of_ble_eq_true rfl) ⟨Nat.le_of_ble_eq_true rfl, Nat.le_of_ble_eq_true rfl⟩ rfl dL_law_613 (fun r_2 H_2 locs_2 p_2 hT_2 hk_2 hS_2 => ?_)
  refine th_topi (y := (-1)) (show ((-1) : Int32) = r_2 from p_2.2).symm ?_
  have hX_2 : va_X b 4 xs s H_2 := hX_1.kept (hS_2.2.1 b (Nat.not_le.mpr hbB))
  refine lv_icmp_eq (tgt := 766) hx hb dL_law_616 (by decide) (fun c_ => ?_) (fun c_ => absurd (by decide) c_)
  exact kk H_2 locs_2 hS_2.2.2 hX_2
set_option maxHeartbeats 4000000 in
set_option maxRecDepth 100000 in
theorem w_span_14 (E : EE p s m args c cL_law RL D cI cS) (hml : c.maxLocals = 4) (hl : lv_has ls 4 [(3, .int 0), (2, .ref (B + 178)), (1, .ref (B + 0)), (0, .ref b)]) (hWX : WF (tq B 0 178) (rq B)) (hWM : WF (tq B 178 186) (rq B)) (hTX : TH D cI cS (tq B 0 178) (rq B) H) (hFX : FX D B H) (hTM : TH D cI cS (tq B 178 186) (rq B) H) (hFM : FM D B H) (hX : va_X b 4 xs s H) (hbB : b < B) (hlo : ∀ x ∈ locs, B ≤ x.base) (h1 : xs 1 = 1) (l2 : 0 ≤ (xs 2).toInt) (l3 : 0 ≤ (xs 3).toInt) (g3 : (xs 3).toInt ≤ 1) (kk : KL p l e s m args below meth c ls Q B b xs) : WL p l e s m args below meth c H locs ls Q 578 := by
  have hx := E.1
  have hb := E.2.1
  have hτX := ttX B
  have hτM := ttM B
  refine lv_aload_n hx hb dL_law_578 rfl (lv_at hl 2 rfl) ?_
  refine lv_aload_n hx hb dL_law_579 rfl (lv_at hl 3 rfl) ?_
  refine lv_iload_n hx hb dL_law_580 rfl (lv_at hl 0 rfl) ?_
  refine lv_iconst (v := 1) hx hb dL_law_581 (by decide) ?_
  refine lv_iadd hx hb dL_law_582 ?_
  refine th_topi (y := 1) (by decide) ?_
  refine lw_sld (j := 1) hx hb hX (by decide) (by decide) (by decide) dL_law_583 ?_
  refine th_topi h1 ?_
  refine lv_aload_n hx hb dL_law_584 rfl (lv_at hl 3 rfl) ?_
  refine lv_iload_n hx hb dL_law_585 rfl (lv_at hl 0 rfl) ?_
  refine lv_iconst (v := 2) hx hb dL_law_586 (by decide) ?_
  refine lv_iadd hx hb dL_law_587 ?_
  refine th_topi (y := 2) (by decide) ?_
  refine lw_sld (j := 2) hx hb hX (by decide) (by decide) (by decide) dL_law_588 ?_
  refine lv_aload_n hx hb dL_law_589 rfl (lv_at hl 3 rfl) ?_
  refine lv_iload_n hx hb dL_law_590 rfl (lv_at hl 0 rfl) ?_
  refine lv_iconst (v := 3) hx hb dL_law_591 (by decide) ?_
  refine lv_iadd hx hb dL_law_592 ?_
  refine th_topi (y := 3) (by decide) ?_
  refine lw_sld (j := 3) hx hb hX (by decide) (by decide) (by decide) dL_law_593 ?_
  refine th_Vi (A := fun q => B ≤ q) (As := [.int 1, .int (xs 2), .int (xs 3)]) (rest := []) E hml hl.1 (c_X11_span_v15 l D cI cS (tq B 0 178) (rq B) hWX H hTX (B + 0) (xs 2) (xs 3) hτX l2 l3 g3 hFX.2.2.2.2.2.2.2.2.2.2.2.2.2.2.2.2.2.2.2.2.2.2.2.2.2.2.2.2.2.2.2.2.2.2.2.2.2.2.2.1 hFX.2.2.2.2.2.2.2.2.2.2.2.2.2.2.2.2.2.2.2.2.2.2.2.2.2.2.2.2.2.2.2.2.2.2.2.2.2.2.2.2.2.1 hFX.2.2.2.2.2.2.2.2.2.2.2.2.2.2.2.2.2.2.2.2.2.2.2.2.2.2.2.2.2.2.2.2.2.2.2.2.2.2.2.2.2.2.2.2.1) lk_L_88 yd_X11_span hTX hτX rfl (by decide) ⟨rfl, fun _ _ => rfl, hlo⟩ (fun q h => h.elim) ⟨Nat.le_of_ble_eq_true rfl, Nat.le_of_ble_eq_true rfl⟩ (Nat.le_of_ble_eq_true rfl) ⟨Nat.le_of_ble_eq_true rfl, Nat.le_of_ble_eq_true rfl⟩ rfl dL_law_594 (fun r_1 H_1 locs_1 p_1 hT_1 hk_1 hS_1 => ?_)
  refine th_topi (y := (-4)) (show ((-4) : Int32) = r_1 from p_1.2).symm ?_
  have kM : ∀ q, B + 178 ≤ q → H_1[q]? = H[q]? := fun q hq => hk_1 q (fun h => h.elim)
  have hTM := hTM.same (H1 := H_1) (fun q t h => kM q (by obtain ⟨j, rfl, z1, -, -⟩ := tq_some h; omega))
  have hFM := hFM.kept (H1 := H_1) kM
  have hX_1 : va_X b 4 xs s H_1 := hX.kept (hS_1.2.1 b (Nat.not_le.mpr hbB))
  refine lv_aload_n hx hb dL_law_597 rfl (lv_at hl 1 rfl) ?_
  refine lv_aload_n hx hb dL_law_598 rfl (lv_at hl 3 rfl) ?_
  refine lv_iload_n hx hb dL_law_599 rfl (lv_at hl 0 rfl) ?_
  refine lv_iconst (v := 1) hx hb dL_law_600 (by decide) ?_
  refine lv_iadd hx hb dL_law_601 ?_
  refine th_topi (y := 1) (by decide) ?_
  refine lw_sld (j := 1) hx hb hX_1 (by decide) (by decide) (by decide) dL_law_602 ?_
  refine th_topi h1 ?_
  refine lv_aload_n hx hb dL_law_603 rfl (lv_at hl 3 rfl) ?_
  refine lv_iload_n hx hb dL_law_604 rfl (lv_at hl 0 rfl) ?_
  refine lv_iconst (v := 2) hx hb dL_law_605 (by decide) ?_
  refine lv_iadd hx hb dL_law_606 ?_
  refine th_topi (y := 2) (by decide) ?_
  refine lw_sld (j := 2) hx hb hX_1 (by decide) (by decide) (by decide) dL_law_607 ?_
  refine lv_aload_n hx hb dL_law_608 rfl (lv_at hl 3 rfl) ?_
  refine lv_iload_n hx hb dL_law_609 rfl (lv_at hl 0 rfl) ?_
  refine lv_iconst (v := 3) hx hb dL_law_610 (by decide) ?_
  refine lv_iadd hx hb dL_law_611 ?_
  refine th_topi (y := 3) (by decide) ?_
  refine lw_sld (j := 3) hx hb hX_1 (by decide) (by decide) (by decide) dL_law_612 ?_
  refine th_Vi (A := fun q => B ≤ q) (As := [.int 1, .int (xs 2), .int (xs 3)]) (rest := [.int (-4)]) E hml hl.1 (c_X12_span_v15 l D cI cS (tq B 178 186) (rq B) hWM H_1 hTM (B + 178) (xs 2) (xs 3) hτM l2 l3 g3 ((hFM.2.2.2.2.1 293 (by decide)).trans (by decide)) ((hFM.2.2.2.2.1 295 (by decide)).trans (by decide)) ((hFM.2.2.2.2.1 448 (by decide)).trans (by decide)) ((hFM.2.2.2.2.1 449 (by decide)).trans (by decide)) ((hFM.2.2.2.2.1 450 (by decide)).trans (by decide)) ((hFM.2.2.2.2.1 451 (by decide)).trans (by decide)) ((hFM.2.2.2.2.1 452 (by decide)).trans (by decide)) ((hFM.2.2.2.2.1 453 (by decide)).trans (by decide)) ((hFM.2.2.2.2.1 454 (by decide)).trans (by decide)) ((hFM.2.2.2.2.1 455 (by decide)).trans (by decide)) ((hFM.2.2.2.2.1 456 (by decide)).trans (by decide)) ((hFM.2.2.2.2.1 457 (by decide)).trans (by decide)) ((hFM.2.2.2.2.1 458 (by decide)).trans (by decide)) ((hFM.2.2.2.2.1 459 (by decide)).trans (by decide)) ((hFM.2.2.2.2.1 460 (by decide)).trans (by decide))) lk_L_92 yd_X12_span hTM hτM rfl (by decide) ⟨rfl, fun _ _ => rfl, hS_1.2.2⟩ (fun q h => h.elim) ⟨Nat.le_of_ble_eq_true rfl, Nat.le_of_ble_eq_true rfl⟩ (Nat.le_of_ble_eq_true rfl) ⟨Nat.le_of_ble_eq_true rfl, Nat.le_of_ble_eq_true rfl⟩ rfl dL_law_613 (fun r_2 H_2 locs_2 p_2 hT_2 hk_2 hS_2 => ?_)
  refine th_topi (y := (-4)) (show ((-4) : Int32) = r_2 from p_2.2).symm ?_
  have hX_2 : va_X b 4 xs s H_2 := hX_1.kept (hS_2.2.1 b (Nat.not_le.mpr hbB))
  refine lv_icmp_eq (tgt := 766) hx hb dL_law_616 (by decide) (fun c_ => ?_) (fun c_ => absurd (by decide) c_)
  exact kk H_2 locs_2 hS_2.2.2 hX_2
set_option maxHeartbeats 4000000 in
set_option maxRecDepth 100000 in
theorem w_span_15 (E : EE p s m args c cL_law RL D cI cS) (hml : c.maxLocals = 4) (hl : lv_has ls 4 [(3, .int 0), (2, .ref (B + 178)), (1, .ref (B + 0)), (0, .ref b)]) (hWX : WF (tq B 0 178) (rq B)) (hWM : WF (tq B 178 186) (rq B)) (hTX : TH D cI cS (tq B 0 178) (rq B) H) (hFX : FX D B H) (hTM : TH D cI cS (tq B 178 186) (rq B) H) (hFM : FM D B H) (hX : va_X b 4 xs s H) (hbB : b < B) (hlo : ∀ x ∈ locs, B ≤ x.base) (h1 : xs 1 = 1) (l2 : 0 ≤ (xs 2).toInt) (l3 : 2 ≤ (xs 3).toInt) (kk : KL p l e s m args below meth c ls Q B b xs) : WL p l e s m args below meth c H locs ls Q 578 := by
  have hx := E.1
  have hb := E.2.1
  have hτX := ttX B
  have hτM := ttM B
  refine lv_aload_n hx hb dL_law_578 rfl (lv_at hl 2 rfl) ?_
  refine lv_aload_n hx hb dL_law_579 rfl (lv_at hl 3 rfl) ?_
  refine lv_iload_n hx hb dL_law_580 rfl (lv_at hl 0 rfl) ?_
  refine lv_iconst (v := 1) hx hb dL_law_581 (by decide) ?_
  refine lv_iadd hx hb dL_law_582 ?_
  refine th_topi (y := 1) (by decide) ?_
  refine lw_sld (j := 1) hx hb hX (by decide) (by decide) (by decide) dL_law_583 ?_
  refine th_topi h1 ?_
  refine lv_aload_n hx hb dL_law_584 rfl (lv_at hl 3 rfl) ?_
  refine lv_iload_n hx hb dL_law_585 rfl (lv_at hl 0 rfl) ?_
  refine lv_iconst (v := 2) hx hb dL_law_586 (by decide) ?_
  refine lv_iadd hx hb dL_law_587 ?_
  refine th_topi (y := 2) (by decide) ?_
  refine lw_sld (j := 2) hx hb hX (by decide) (by decide) (by decide) dL_law_588 ?_
  refine lv_aload_n hx hb dL_law_589 rfl (lv_at hl 3 rfl) ?_
  refine lv_iload_n hx hb dL_law_590 rfl (lv_at hl 0 rfl) ?_
  refine lv_iconst (v := 3) hx hb dL_law_591 (by decide) ?_
  refine lv_iadd hx hb dL_law_592 ?_
  refine th_topi (y := 3) (by decide) ?_
  refine lw_sld (j := 3) hx hb hX (by decide) (by decide) (by decide) dL_law_593 ?_
  refine th_Vi (A := fun q => B ≤ q) (As := [.int 1, .int (xs 2), .int (xs 3)]) (rest := []) E hml hl.1 (c_X11_span_v16 l D cI cS (tq B 0 178) (rq B) hWX H hTX (B + 0) (xs 2) (xs 3) hτX l2 l3) lk_L_88 yd_X11_span hTX hτX rfl (by decide) ⟨rfl, fun _ _ => rfl, hlo⟩ (fun q h => h.elim) ⟨Nat.le_of_ble_eq_true rfl, Nat.le_of_ble_eq_true rfl⟩ (Nat.le_of_ble_eq_true rfl) ⟨Nat.le_of_ble_eq_true rfl, Nat.le_of_ble_eq_true rfl⟩ rfl dL_law_594 (fun r_1 H_1 locs_1 p_1 hT_1 hk_1 hS_1 => ?_)
  refine th_topi (y := (-1)) (show ((-1) : Int32) = r_1 from p_1.2).symm ?_
  have kM : ∀ q, B + 178 ≤ q → H_1[q]? = H[q]? := fun q hq => hk_1 q (fun h => h.elim)
  have hTM := hTM.same (H1 := H_1) (fun q t h => kM q (by obtain ⟨j, rfl, z1, -, -⟩ := tq_some h; omega))
  have hFM := hFM.kept (H1 := H_1) kM
  have hX_1 : va_X b 4 xs s H_1 := hX.kept (hS_1.2.1 b (Nat.not_le.mpr hbB))
  refine lv_aload_n hx hb dL_law_597 rfl (lv_at hl 1 rfl) ?_
  refine lv_aload_n hx hb dL_law_598 rfl (lv_at hl 3 rfl) ?_
  refine lv_iload_n hx hb dL_law_599 rfl (lv_at hl 0 rfl) ?_
  refine lv_iconst (v := 1) hx hb dL_law_600 (by decide) ?_
  refine lv_iadd hx hb dL_law_601 ?_
  refine th_topi (y := 1) (by decide) ?_
  refine lw_sld (j := 1) hx hb hX_1 (by decide) (by decide) (by decide) dL_law_602 ?_
  refine th_topi h1 ?_
  refine lv_aload_n hx hb dL_law_603 rfl (lv_at hl 3 rfl) ?_
  refine lv_iload_n hx hb dL_law_604 rfl (lv_at hl 0 rfl) ?_
  refine lv_iconst (v := 2) hx hb dL_law_605 (by decide) ?_
  refine lv_iadd hx hb dL_law_606 ?_
  refine th_topi (y := 2) (by decide) ?_
  refine lw_sld (j := 2) hx hb hX_1 (by decide) (by decide) (by decide) dL_law_607 ?_
  refine lv_aload_n hx hb dL_law_608 rfl (lv_at hl 3 rfl) ?_
  refine lv_iload_n hx hb dL_law_609 rfl (lv_at hl 0 rfl) ?_
  refine lv_iconst (v := 3) hx hb dL_law_610 (by decide) ?_
  refine lv_iadd hx hb dL_law_611 ?_
  refine th_topi (y := 3) (by decide) ?_
  refine lw_sld (j := 3) hx hb hX_1 (by decide) (by decide) (by decide) dL_law_612 ?_
  refine th_Vi (A := fun q => B ≤ q) (As := [.int 1, .int (xs 2), .int (xs 3)]) (rest := [.int (-1)]) E hml hl.1 (c_X12_span_v16 l D cI cS (tq B 178 186) (rq B) hWM H_1 hTM (B + 178) (xs 2) (xs 3) hτM l2 l3) lk_L_92 yd_X12_span hTM hτM rfl (by decide) ⟨rfl, fun _ _ => rfl, hS_1.2.2⟩ (fun q h => h.elim) ⟨Nat.le_of_ble_eq_true rfl, Nat.le_of_ble_eq_true rfl⟩ (Nat.le_of_ble_eq_true rfl) ⟨Nat.le_of_ble_eq_true rfl, Nat.le_of_ble_eq_true rfl⟩ rfl dL_law_613 (fun r_2 H_2 locs_2 p_2 hT_2 hk_2 hS_2 => ?_)
  refine th_topi (y := (-1)) (show ((-1) : Int32) = r_2 from p_2.2).symm ?_
  have hX_2 : va_X b 4 xs s H_2 := hX_1.kept (hS_2.2.1 b (Nat.not_le.mpr hbB))
  refine lv_icmp_eq (tgt := 766) hx hb dL_law_616 (by decide) (fun c_ => ?_) (fun c_ => absurd (by decide) c_)
  exact kk H_2 locs_2 hS_2.2.2 hX_2
theorem w_span (E : EE p s m args c cL_law RL D cI cS) (hml : c.maxLocals = 4) (hl : lv_has ls 4 [(3, .int 0), (2, .ref (B + 178)), (1, .ref (B + 0)), (0, .ref b)]) (hWX : WF (tq B 0 178) (rq B)) (hWM : WF (tq B 178 186) (rq B)) (hTX : TH D cI cS (tq B 0 178) (rq B) H) (hFX : FX D B H) (hTM : TH D cI cS (tq B 178 186) (rq B) H) (hFM : FM D B H) (hX : va_X b 4 xs s H) (hbB : b < B) (hlo : ∀ x ∈ locs, B ≤ x.base) (kk : KL p l e s m args below meth c ls Q B b xs) : WL p l e s m args below meth c H locs ls Q 578 := by
  rcases (show (xs 1).toInt ≤ -1 ∨ 2 ≤ (xs 1).toInt ∨ (xs 1).toInt = 0 ∨ (xs 1).toInt = 1 by omega) with g1 | l1 | t1 | t1
  · exact w_span_0 E hml hl hWX hWM hTX hFX hTM hFM hX hbB hlo g1 kk
  · exact w_span_1 E hml hl hWX hWM hTX hFX hTM hFM hX hbB hlo l1 kk
  · have h1 : xs 1 = 0 := i_eq t1 (by decide)
    rcases (show (xs 2).toInt ≤ -2 ∨ (xs 2).toInt = -1 ∨ 0 ≤ (xs 2).toInt by omega) with g2 | t2 | l2
    · exact w_span_2 E hml hl hWX hWM hTX hFX hTM hFM hX hbB hlo h1 g2 kk
    · have h2 : xs 2 = (-1) := i_eq t2 (by decide)
      rcases (show (xs 3).toInt ≤ -1 ∨ (0 ≤ (xs 3).toInt ∧ (xs 3).toInt ≤ 1) ∨ 2 ≤ (xs 3).toInt by omega) with g3 | ⟨l3, g3⟩ | l3
      · exact w_span_3 E hml hl hWX hWM hTX hFX hTM hFM hX hbB hlo h1 h2 g3 kk
      · exact w_span_4 E hml hl hWX hWM hTX hFX hTM hFM hX hbB hlo h1 h2 l3 g3 kk
      · exact w_span_5 E hml hl hWX hWM hTX hFX hTM hFM hX hbB hlo h1 h2 l3 kk
    · rcases (show (xs 3).toInt ≤ -1 ∨ (0 ≤ (xs 3).toInt ∧ (xs 3).toInt ≤ 1) ∨ 2 ≤ (xs 3).toInt by omega) with g3 | ⟨l3, g3⟩ | l3
      · exact w_span_6 E hml hl hWX hWM hTX hFX hTM hFM hX hbB hlo h1 l2 g3 kk
      · exact w_span_7 E hml hl hWX hWM hTX hFX hTM hFM hX hbB hlo h1 l2 l3 g3 kk
      · exact w_span_8 E hml hl hWX hWM hTX hFX hTM hFM hX hbB hlo h1 l2 l3 kk
  · have h1 : xs 1 = 1 := i_eq t1 (by decide)
    rcases (show (xs 2).toInt ≤ -2 ∨ (xs 2).toInt = -1 ∨ 0 ≤ (xs 2).toInt by omega) with g2 | t2 | l2
    · exact w_span_9 E hml hl hWX hWM hTX hFX hTM hFM hX hbB hlo h1 g2 kk
    · have h2 : xs 2 = (-1) := i_eq t2 (by decide)
      rcases (show (xs 3).toInt ≤ -1 ∨ (0 ≤ (xs 3).toInt ∧ (xs 3).toInt ≤ 1) ∨ 2 ≤ (xs 3).toInt by omega) with g3 | ⟨l3, g3⟩ | l3
      · exact w_span_10 E hml hl hWX hWM hTX hFX hTM hFM hX hbB hlo h1 h2 g3 kk
      · exact w_span_11 E hml hl hWX hWM hTX hFX hTM hFM hX hbB hlo h1 h2 l3 g3 kk
      · exact w_span_12 E hml hl hWX hWM hTX hFX hTM hFM hX hbB hlo h1 h2 l3 kk
    · rcases (show (xs 3).toInt ≤ -1 ∨ (0 ≤ (xs 3).toInt ∧ (xs 3).toInt ≤ 1) ∨ 2 ≤ (xs 3).toInt by omega) with g3 | ⟨l3, g3⟩ | l3
      · exact w_span_13 E hml hl hWX hWM hTX hFX hTM hFM hX hbB hlo h1 l2 g3 kk
      · exact w_span_14 E hml hl hWX hWM hTX hFX hTM hFM hX hbB hlo h1 l2 l3 g3 kk
      · exact w_span_15 E hml hl hWX hWM hTX hFX hTM hFM hX hbB hlo h1 l2 l3 kk
set_option maxHeartbeats 4000000 in
set_option maxRecDepth 100000 in
theorem w_known_0 (E : EE p s m args c cL_law RL D cI cS) (hml : c.maxLocals = 4) (hl : lv_has ls 4 [(3, .int 0), (2, .ref (B + 178)), (1, .ref (B + 0)), (0, .ref b)]) (hWX : WF (tq B 0 178) (rq B)) (hWM : WF (tq B 178 186) (rq B)) (hTX : TH D cI cS (tq B 0 178) (rq B) H) (hFX : FX D B H) (hTM : TH D cI cS (tq B 178 186) (rq B) H) (hFM : FM D B H) (hX : va_X b 4 xs s H) (hbB : b < B) (hlo : ∀ x ∈ locs, B ≤ x.base) (g1 : (xs 1).toInt ≤ -1) (kk : KL p l e s m args below meth c ls Q B b xs) : WL p l e s m args below meth c H locs ls Q 621 := by
  have hx := E.1
  have hb := E.2.1
  have hτX := ttX B
  have hτM := ttM B
  refine lv_aload_n hx hb dL_law_621 rfl (lv_at hl 2 rfl) ?_
  refine lv_aload_n hx hb dL_law_622 rfl (lv_at hl 3 rfl) ?_
  refine lv_iload_n hx hb dL_law_623 rfl (lv_at hl 0 rfl) ?_
  refine lv_iconst (v := 1) hx hb dL_law_624 (by decide) ?_
  refine lv_iadd hx hb dL_law_625 ?_
  refine th_topi (y := 1) (by decide) ?_
  refine lw_sld (j := 1) hx hb hX (by decide) (by decide) (by decide) dL_law_626 ?_
  refine lv_aload_n hx hb dL_law_627 rfl (lv_at hl 3 rfl) ?_
  refine lv_iload_n hx hb dL_law_628 rfl (lv_at hl 0 rfl) ?_
  refine lv_iconst (v := 2) hx hb dL_law_629 (by decide) ?_
  refine lv_iadd hx hb dL_law_630 ?_
  refine th_topi (y := 2) (by decide) ?_
  refine lw_sld (j := 2) hx hb hX (by decide) (by decide) (by decide) dL_law_631 ?_
  refine th_Vi (A := fun q => B ≤ q) (As := [.int (xs 1), .int (xs 2)]) (rest := []) E hml hl.1 (c_X11_known l D cI cS (tq B 0 178) (rq B) hWX H hTX (B + 0) (xs 1) (xs 2) hτX g1) lk_L_93 yd_X11_known hTX hτX rfl (by decide) ⟨rfl, fun _ _ => rfl, hlo⟩ (fun q h => h.elim) ⟨Nat.le_of_ble_eq_true rfl, Nat.le_of_ble_eq_true rfl⟩ (Nat.le_of_ble_eq_true rfl) ⟨Nat.le_of_ble_eq_true rfl, Nat.le_of_ble_eq_true rfl⟩ rfl dL_law_632 (fun r_1 H_1 locs_1 p_1 hT_1 hk_1 hS_1 => ?_)
  refine th_topi (y := (-1)) (show ((-1) : Int32) = r_1 from p_1.2).symm ?_
  have kM : ∀ q, B + 178 ≤ q → H_1[q]? = H[q]? := fun q hq => hk_1 q (fun h => h.elim)
  have hTM := hTM.same (H1 := H_1) (fun q t h => kM q (by obtain ⟨j, rfl, z1, -, -⟩ := tq_some h; omega))
  have hFM := hFM.kept (H1 := H_1) kM
  have hX_1 : va_X b 4 xs s H_1 := hX.kept (hS_1.2.1 b (Nat.not_le.mpr hbB))
  refine lv_aload_n hx hb dL_law_635 rfl (lv_at hl 1 rfl) ?_
  refine lv_aload_n hx hb dL_law_636 rfl (lv_at hl 3 rfl) ?_
  refine lv_iload_n hx hb dL_law_637 rfl (lv_at hl 0 rfl) ?_
  refine lv_iconst (v := 1) hx hb dL_law_638 (by decide) ?_
  refine lv_iadd hx hb dL_law_639 ?_
  refine th_topi (y := 1) (by decide) ?_
  refine lw_sld (j := 1) hx hb hX_1 (by decide) (by decide) (by decide) dL_law_640 ?_
  refine lv_aload_n hx hb dL_law_641 rfl (lv_at hl 3 rfl) ?_
  refine lv_iload_n hx hb dL_law_642 rfl (lv_at hl 0 rfl) ?_
  refine lv_iconst (v := 2) hx hb dL_law_643 (by decide) ?_
  refine lv_iadd hx hb dL_law_644 ?_
  refine th_topi (y := 2) (by decide) ?_
  refine lw_sld (j := 2) hx hb hX_1 (by decide) (by decide) (by decide) dL_law_645 ?_
  refine th_Vi (A := fun q => B ≤ q) (As := [.int (xs 1), .int (xs 2)]) (rest := [.int (-1)]) E hml hl.1 (c_X12_known l D cI cS (tq B 178 186) (rq B) hWM H_1 hTM (B + 178) (xs 1) (xs 2) hτM g1) lk_L_96 yd_X12_known hTM hτM rfl (by decide) ⟨rfl, fun _ _ => rfl, hS_1.2.2⟩ (fun q h => h.elim) ⟨Nat.le_of_ble_eq_true rfl, Nat.le_of_ble_eq_true rfl⟩ (Nat.le_of_ble_eq_true rfl) ⟨Nat.le_of_ble_eq_true rfl, Nat.le_of_ble_eq_true rfl⟩ rfl dL_law_646 (fun r_2 H_2 locs_2 p_2 hT_2 hk_2 hS_2 => ?_)
  refine th_topi (y := (-1)) (show ((-1) : Int32) = r_2 from p_2.2).symm ?_
  have hX_2 : va_X b 4 xs s H_2 := hX_1.kept (hS_2.2.1 b (Nat.not_le.mpr hbB))
  refine lv_icmp_eq (tgt := 766) hx hb dL_law_649 (by decide) (fun c_ => ?_) (fun c_ => absurd (by decide) c_)
  exact kk H_2 locs_2 hS_2.2.2 hX_2
set_option maxHeartbeats 4000000 in
set_option maxRecDepth 100000 in
theorem w_known_1 (E : EE p s m args c cL_law RL D cI cS) (hml : c.maxLocals = 4) (hl : lv_has ls 4 [(3, .int 0), (2, .ref (B + 178)), (1, .ref (B + 0)), (0, .ref b)]) (hWX : WF (tq B 0 178) (rq B)) (hWM : WF (tq B 178 186) (rq B)) (hTX : TH D cI cS (tq B 0 178) (rq B) H) (hFX : FX D B H) (hTM : TH D cI cS (tq B 178 186) (rq B) H) (hFM : FM D B H) (hX : va_X b 4 xs s H) (hbB : b < B) (hlo : ∀ x ∈ locs, B ≤ x.base) (l1 : 2 ≤ (xs 1).toInt) (kk : KL p l e s m args below meth c ls Q B b xs) : WL p l e s m args below meth c H locs ls Q 621 := by
  have hx := E.1
  have hb := E.2.1
  have hτX := ttX B
  have hτM := ttM B
  refine lv_aload_n hx hb dL_law_621 rfl (lv_at hl 2 rfl) ?_
  refine lv_aload_n hx hb dL_law_622 rfl (lv_at hl 3 rfl) ?_
  refine lv_iload_n hx hb dL_law_623 rfl (lv_at hl 0 rfl) ?_
  refine lv_iconst (v := 1) hx hb dL_law_624 (by decide) ?_
  refine lv_iadd hx hb dL_law_625 ?_
  refine th_topi (y := 1) (by decide) ?_
  refine lw_sld (j := 1) hx hb hX (by decide) (by decide) (by decide) dL_law_626 ?_
  refine lv_aload_n hx hb dL_law_627 rfl (lv_at hl 3 rfl) ?_
  refine lv_iload_n hx hb dL_law_628 rfl (lv_at hl 0 rfl) ?_
  refine lv_iconst (v := 2) hx hb dL_law_629 (by decide) ?_
  refine lv_iadd hx hb dL_law_630 ?_
  refine th_topi (y := 2) (by decide) ?_
  refine lw_sld (j := 2) hx hb hX (by decide) (by decide) (by decide) dL_law_631 ?_
  refine th_Vi (A := fun q => B ≤ q) (As := [.int (xs 1), .int (xs 2)]) (rest := []) E hml hl.1 (c_X11_known_v2 l D cI cS (tq B 0 178) (rq B) hWX H hTX (B + 0) (xs 1) (xs 2) hτX l1) lk_L_93 yd_X11_known hTX hτX rfl (by decide) ⟨rfl, fun _ _ => rfl, hlo⟩ (fun q h => h.elim) ⟨Nat.le_of_ble_eq_true rfl, Nat.le_of_ble_eq_true rfl⟩ (Nat.le_of_ble_eq_true rfl) ⟨Nat.le_of_ble_eq_true rfl, Nat.le_of_ble_eq_true rfl⟩ rfl dL_law_632 (fun r_1 H_1 locs_1 p_1 hT_1 hk_1 hS_1 => ?_)
  refine th_topi (y := (-1)) (show ((-1) : Int32) = r_1 from p_1.2).symm ?_
  have kM : ∀ q, B + 178 ≤ q → H_1[q]? = H[q]? := fun q hq => hk_1 q (fun h => h.elim)
  have hTM := hTM.same (H1 := H_1) (fun q t h => kM q (by obtain ⟨j, rfl, z1, -, -⟩ := tq_some h; omega))
  have hFM := hFM.kept (H1 := H_1) kM
  have hX_1 : va_X b 4 xs s H_1 := hX.kept (hS_1.2.1 b (Nat.not_le.mpr hbB))
  refine lv_aload_n hx hb dL_law_635 rfl (lv_at hl 1 rfl) ?_
  refine lv_aload_n hx hb dL_law_636 rfl (lv_at hl 3 rfl) ?_
  refine lv_iload_n hx hb dL_law_637 rfl (lv_at hl 0 rfl) ?_
  refine lv_iconst (v := 1) hx hb dL_law_638 (by decide) ?_
  refine lv_iadd hx hb dL_law_639 ?_
  refine th_topi (y := 1) (by decide) ?_
  refine lw_sld (j := 1) hx hb hX_1 (by decide) (by decide) (by decide) dL_law_640 ?_
  refine lv_aload_n hx hb dL_law_641 rfl (lv_at hl 3 rfl) ?_
  refine lv_iload_n hx hb dL_law_642 rfl (lv_at hl 0 rfl) ?_
  refine lv_iconst (v := 2) hx hb dL_law_643 (by decide) ?_
  refine lv_iadd hx hb dL_law_644 ?_
  refine th_topi (y := 2) (by decide) ?_
  refine lw_sld (j := 2) hx hb hX_1 (by decide) (by decide) (by decide) dL_law_645 ?_
  refine th_Vi (A := fun q => B ≤ q) (As := [.int (xs 1), .int (xs 2)]) (rest := [.int (-1)]) E hml hl.1 (c_X12_known_v2 l D cI cS (tq B 178 186) (rq B) hWM H_1 hTM (B + 178) (xs 1) (xs 2) hτM l1) lk_L_96 yd_X12_known hTM hτM rfl (by decide) ⟨rfl, fun _ _ => rfl, hS_1.2.2⟩ (fun q h => h.elim) ⟨Nat.le_of_ble_eq_true rfl, Nat.le_of_ble_eq_true rfl⟩ (Nat.le_of_ble_eq_true rfl) ⟨Nat.le_of_ble_eq_true rfl, Nat.le_of_ble_eq_true rfl⟩ rfl dL_law_646 (fun r_2 H_2 locs_2 p_2 hT_2 hk_2 hS_2 => ?_)
  refine th_topi (y := (-1)) (show ((-1) : Int32) = r_2 from p_2.2).symm ?_
  have hX_2 : va_X b 4 xs s H_2 := hX_1.kept (hS_2.2.1 b (Nat.not_le.mpr hbB))
  refine lv_icmp_eq (tgt := 766) hx hb dL_law_649 (by decide) (fun c_ => ?_) (fun c_ => absurd (by decide) c_)
  exact kk H_2 locs_2 hS_2.2.2 hX_2
set_option maxHeartbeats 4000000 in
set_option maxRecDepth 100000 in
theorem w_known_2 (E : EE p s m args c cL_law RL D cI cS) (hml : c.maxLocals = 4) (hl : lv_has ls 4 [(3, .int 0), (2, .ref (B + 178)), (1, .ref (B + 0)), (0, .ref b)]) (hWX : WF (tq B 0 178) (rq B)) (hWM : WF (tq B 178 186) (rq B)) (hTX : TH D cI cS (tq B 0 178) (rq B) H) (hFX : FX D B H) (hTM : TH D cI cS (tq B 178 186) (rq B) H) (hFM : FM D B H) (hX : va_X b 4 xs s H) (hbB : b < B) (hlo : ∀ x ∈ locs, B ≤ x.base) (h1 : xs 1 = 0) (g2 : (xs 2).toInt ≤ -1) (kk : KL p l e s m args below meth c ls Q B b xs) : WL p l e s m args below meth c H locs ls Q 621 := by
  have hx := E.1
  have hb := E.2.1
  have hτX := ttX B
  have hτM := ttM B
  refine lv_aload_n hx hb dL_law_621 rfl (lv_at hl 2 rfl) ?_
  refine lv_aload_n hx hb dL_law_622 rfl (lv_at hl 3 rfl) ?_
  refine lv_iload_n hx hb dL_law_623 rfl (lv_at hl 0 rfl) ?_
  refine lv_iconst (v := 1) hx hb dL_law_624 (by decide) ?_
  refine lv_iadd hx hb dL_law_625 ?_
  refine th_topi (y := 1) (by decide) ?_
  refine lw_sld (j := 1) hx hb hX (by decide) (by decide) (by decide) dL_law_626 ?_
  refine th_topi h1 ?_
  refine lv_aload_n hx hb dL_law_627 rfl (lv_at hl 3 rfl) ?_
  refine lv_iload_n hx hb dL_law_628 rfl (lv_at hl 0 rfl) ?_
  refine lv_iconst (v := 2) hx hb dL_law_629 (by decide) ?_
  refine lv_iadd hx hb dL_law_630 ?_
  refine th_topi (y := 2) (by decide) ?_
  refine lw_sld (j := 2) hx hb hX (by decide) (by decide) (by decide) dL_law_631 ?_
  refine th_Vi (A := fun q => B ≤ q) (As := [.int 0, .int (xs 2)]) (rest := []) E hml hl.1 (c_X11_known_v3 l D cI cS (tq B 0 178) (rq B) hWX H hTX (B + 0) (xs 2) hτX g2) lk_L_93 yd_X11_known hTX hτX rfl (by decide) ⟨rfl, fun _ _ => rfl, hlo⟩ (fun q h => h.elim) ⟨Nat.le_of_ble_eq_true rfl, Nat.le_of_ble_eq_true rfl⟩ (Nat.le_of_ble_eq_true rfl) ⟨Nat.le_of_ble_eq_true rfl, Nat.le_of_ble_eq_true rfl⟩ rfl dL_law_632 (fun r_1 H_1 locs_1 p_1 hT_1 hk_1 hS_1 => ?_)
  refine th_topi (y := (-1)) (show ((-1) : Int32) = r_1 from p_1.2).symm ?_
  have kM : ∀ q, B + 178 ≤ q → H_1[q]? = H[q]? := fun q hq => hk_1 q (fun h => h.elim)
  have hTM := hTM.same (H1 := H_1) (fun q t h => kM q (by obtain ⟨j, rfl, z1, -, -⟩ := tq_some h; omega))
  have hFM := hFM.kept (H1 := H_1) kM
  have hX_1 : va_X b 4 xs s H_1 := hX.kept (hS_1.2.1 b (Nat.not_le.mpr hbB))
  refine lv_aload_n hx hb dL_law_635 rfl (lv_at hl 1 rfl) ?_
  refine lv_aload_n hx hb dL_law_636 rfl (lv_at hl 3 rfl) ?_
  refine lv_iload_n hx hb dL_law_637 rfl (lv_at hl 0 rfl) ?_
  refine lv_iconst (v := 1) hx hb dL_law_638 (by decide) ?_
  refine lv_iadd hx hb dL_law_639 ?_
  refine th_topi (y := 1) (by decide) ?_
  refine lw_sld (j := 1) hx hb hX_1 (by decide) (by decide) (by decide) dL_law_640 ?_
  refine th_topi h1 ?_
  refine lv_aload_n hx hb dL_law_641 rfl (lv_at hl 3 rfl) ?_
  refine lv_iload_n hx hb dL_law_642 rfl (lv_at hl 0 rfl) ?_
  refine lv_iconst (v := 2) hx hb dL_law_643 (by decide) ?_
  refine lv_iadd hx hb dL_law_644 ?_
  refine th_topi (y := 2) (by decide) ?_
  refine lw_sld (j := 2) hx hb hX_1 (by decide) (by decide) (by decide) dL_law_645 ?_
  refine th_Vi (A := fun q => B ≤ q) (As := [.int 0, .int (xs 2)]) (rest := [.int (-1)]) E hml hl.1 (c_X12_known_v3 l D cI cS (tq B 178 186) (rq B) hWM H_1 hTM (B + 178) (xs 2) hτM g2) lk_L_96 yd_X12_known hTM hτM rfl (by decide) ⟨rfl, fun _ _ => rfl, hS_1.2.2⟩ (fun q h => h.elim) ⟨Nat.le_of_ble_eq_true rfl, Nat.le_of_ble_eq_true rfl⟩ (Nat.le_of_ble_eq_true rfl) ⟨Nat.le_of_ble_eq_true rfl, Nat.le_of_ble_eq_true rfl⟩ rfl dL_law_646 (fun r_2 H_2 locs_2 p_2 hT_2 hk_2 hS_2 => ?_)
  refine th_topi (y := (-1)) (show ((-1) : Int32) = r_2 from p_2.2).symm ?_
  have hX_2 : va_X b 4 xs s H_2 := hX_1.kept (hS_2.2.1 b (Nat.not_le.mpr hbB))
  refine lv_icmp_eq (tgt := 766) hx hb dL_law_649 (by decide) (fun c_ => ?_) (fun c_ => absurd (by decide) c_)
  exact kk H_2 locs_2 hS_2.2.2 hX_2
set_option maxHeartbeats 4000000 in
set_option maxRecDepth 100000 in
theorem w_known_3 (E : EE p s m args c cL_law RL D cI cS) (hml : c.maxLocals = 4) (hl : lv_has ls 4 [(3, .int 0), (2, .ref (B + 178)), (1, .ref (B + 0)), (0, .ref b)]) (hWX : WF (tq B 0 178) (rq B)) (hWM : WF (tq B 178 186) (rq B)) (hTX : TH D cI cS (tq B 0 178) (rq B) H) (hFX : FX D B H) (hTM : TH D cI cS (tq B 178 186) (rq B) H) (hFM : FM D B H) (hX : va_X b 4 xs s H) (hbB : b < B) (hlo : ∀ x ∈ locs, B ≤ x.base) (h1 : xs 1 = 0) (l2 : 0 ≤ (xs 2).toInt) (kk : KL p l e s m args below meth c ls Q B b xs) : WL p l e s m args below meth c H locs ls Q 621 := by
  have hx := E.1
  have hb := E.2.1
  have hτX := ttX B
  have hτM := ttM B
  refine lv_aload_n hx hb dL_law_621 rfl (lv_at hl 2 rfl) ?_
  refine lv_aload_n hx hb dL_law_622 rfl (lv_at hl 3 rfl) ?_
  refine lv_iload_n hx hb dL_law_623 rfl (lv_at hl 0 rfl) ?_
  refine lv_iconst (v := 1) hx hb dL_law_624 (by decide) ?_
  refine lv_iadd hx hb dL_law_625 ?_
  refine th_topi (y := 1) (by decide) ?_
  refine lw_sld (j := 1) hx hb hX (by decide) (by decide) (by decide) dL_law_626 ?_
  refine th_topi h1 ?_
  refine lv_aload_n hx hb dL_law_627 rfl (lv_at hl 3 rfl) ?_
  refine lv_iload_n hx hb dL_law_628 rfl (lv_at hl 0 rfl) ?_
  refine lv_iconst (v := 2) hx hb dL_law_629 (by decide) ?_
  refine lv_iadd hx hb dL_law_630 ?_
  refine th_topi (y := 2) (by decide) ?_
  refine lw_sld (j := 2) hx hb hX (by decide) (by decide) (by decide) dL_law_631 ?_
  refine th_Vi (A := fun q => B ≤ q) (As := [.int 0, .int (xs 2)]) (rest := []) E hml hl.1 (c_X11_known_v4 l D cI cS (tq B 0 178) (rq B) hWX H hTX (B + 0) (xs 2) hτX l2 hFX.2.2.2.2.2.2.2.2.2.2.2.2.2.2.2.2.2.2.2.2.2.2.2.1 hFX.2.2.2.2.2.2.2.2.2.2.2.2.2.2.2.2.2.2.2.2.2.2.2.2.1) lk_L_93 yd_X11_known hTX hτX rfl (by decide) ⟨rfl, fun _ _ => rfl, hlo⟩ (fun q h => h.elim) ⟨Nat.le_of_ble_eq_true rfl, Nat.le_of_ble_eq_true rfl⟩ (Nat.le_of_ble_eq_true rfl) ⟨Nat.le_of_ble_eq_true rfl, Nat.le_of_ble_eq_true rfl⟩ rfl dL_law_632 (fun r_1 H_1 locs_1 p_1 hT_1 hk_1 hS_1 => ?_)
  refine th_topi (y := 0) (show (0 : Int32) = r_1 from p_1.2).symm ?_
  have kM : ∀ q, B + 178 ≤ q → H_1[q]? = H[q]? := fun q hq => hk_1 q (fun h => h.elim)
  have hTM := hTM.same (H1 := H_1) (fun q t h => kM q (by obtain ⟨j, rfl, z1, -, -⟩ := tq_some h; omega))
  have hFM := hFM.kept (H1 := H_1) kM
  have hX_1 : va_X b 4 xs s H_1 := hX.kept (hS_1.2.1 b (Nat.not_le.mpr hbB))
  refine lv_aload_n hx hb dL_law_635 rfl (lv_at hl 1 rfl) ?_
  refine lv_aload_n hx hb dL_law_636 rfl (lv_at hl 3 rfl) ?_
  refine lv_iload_n hx hb dL_law_637 rfl (lv_at hl 0 rfl) ?_
  refine lv_iconst (v := 1) hx hb dL_law_638 (by decide) ?_
  refine lv_iadd hx hb dL_law_639 ?_
  refine th_topi (y := 1) (by decide) ?_
  refine lw_sld (j := 1) hx hb hX_1 (by decide) (by decide) (by decide) dL_law_640 ?_
  refine th_topi h1 ?_
  refine lv_aload_n hx hb dL_law_641 rfl (lv_at hl 3 rfl) ?_
  refine lv_iload_n hx hb dL_law_642 rfl (lv_at hl 0 rfl) ?_
  refine lv_iconst (v := 2) hx hb dL_law_643 (by decide) ?_
  refine lv_iadd hx hb dL_law_644 ?_
  refine th_topi (y := 2) (by decide) ?_
  refine lw_sld (j := 2) hx hb hX_1 (by decide) (by decide) (by decide) dL_law_645 ?_
  refine th_Vi (A := fun q => B ≤ q) (As := [.int 0, .int (xs 2)]) (rest := [.int 0]) E hml hl.1 (c_X12_known_v4 l D cI cS (tq B 178 186) (rq B) hWM H_1 hTM (B + 178) (xs 2) hτM l2 ((hFM.2.2.2.2.1 1 (by decide)).trans (by decide)) hFM.2.2.2.2.1) lk_L_96 yd_X12_known hTM hτM rfl (by decide) ⟨rfl, fun _ _ => rfl, hS_1.2.2⟩ (fun q h => h.elim) ⟨Nat.le_of_ble_eq_true rfl, Nat.le_of_ble_eq_true rfl⟩ (Nat.le_of_ble_eq_true rfl) ⟨Nat.le_of_ble_eq_true rfl, Nat.le_of_ble_eq_true rfl⟩ rfl dL_law_646 (fun r_2 H_2 locs_2 p_2 hT_2 hk_2 hS_2 => ?_)
  refine th_topi (y := 0) (show (0 : Int32) = r_2 from p_2.2).symm ?_
  have hX_2 : va_X b 4 xs s H_2 := hX_1.kept (hS_2.2.1 b (Nat.not_le.mpr hbB))
  refine lv_icmp_eq (tgt := 766) hx hb dL_law_649 (by decide) (fun c_ => ?_) (fun c_ => absurd (by decide) c_)
  exact kk H_2 locs_2 hS_2.2.2 hX_2
set_option maxHeartbeats 4000000 in
set_option maxRecDepth 100000 in
theorem w_known_4 (E : EE p s m args c cL_law RL D cI cS) (hml : c.maxLocals = 4) (hl : lv_has ls 4 [(3, .int 0), (2, .ref (B + 178)), (1, .ref (B + 0)), (0, .ref b)]) (hWX : WF (tq B 0 178) (rq B)) (hWM : WF (tq B 178 186) (rq B)) (hTX : TH D cI cS (tq B 0 178) (rq B) H) (hFX : FX D B H) (hTM : TH D cI cS (tq B 178 186) (rq B) H) (hFM : FM D B H) (hX : va_X b 4 xs s H) (hbB : b < B) (hlo : ∀ x ∈ locs, B ≤ x.base) (h1 : xs 1 = 1) (g2 : (xs 2).toInt ≤ -1) (kk : KL p l e s m args below meth c ls Q B b xs) : WL p l e s m args below meth c H locs ls Q 621 := by
  have hx := E.1
  have hb := E.2.1
  have hτX := ttX B
  have hτM := ttM B
  refine lv_aload_n hx hb dL_law_621 rfl (lv_at hl 2 rfl) ?_
  refine lv_aload_n hx hb dL_law_622 rfl (lv_at hl 3 rfl) ?_
  refine lv_iload_n hx hb dL_law_623 rfl (lv_at hl 0 rfl) ?_
  refine lv_iconst (v := 1) hx hb dL_law_624 (by decide) ?_
  refine lv_iadd hx hb dL_law_625 ?_
  refine th_topi (y := 1) (by decide) ?_
  refine lw_sld (j := 1) hx hb hX (by decide) (by decide) (by decide) dL_law_626 ?_
  refine th_topi h1 ?_
  refine lv_aload_n hx hb dL_law_627 rfl (lv_at hl 3 rfl) ?_
  refine lv_iload_n hx hb dL_law_628 rfl (lv_at hl 0 rfl) ?_
  refine lv_iconst (v := 2) hx hb dL_law_629 (by decide) ?_
  refine lv_iadd hx hb dL_law_630 ?_
  refine th_topi (y := 2) (by decide) ?_
  refine lw_sld (j := 2) hx hb hX (by decide) (by decide) (by decide) dL_law_631 ?_
  refine th_Vi (A := fun q => B ≤ q) (As := [.int 1, .int (xs 2)]) (rest := []) E hml hl.1 (c_X11_known_v5 l D cI cS (tq B 0 178) (rq B) hWX H hTX (B + 0) (xs 2) hτX g2) lk_L_93 yd_X11_known hTX hτX rfl (by decide) ⟨rfl, fun _ _ => rfl, hlo⟩ (fun q h => h.elim) ⟨Nat.le_of_ble_eq_true rfl, Nat.le_of_ble_eq_true rfl⟩ (Nat.le_of_ble_eq_true rfl) ⟨Nat.le_of_ble_eq_true rfl, Nat.le_of_ble_eq_true rfl⟩ rfl dL_law_632 (fun r_1 H_1 locs_1 p_1 hT_1 hk_1 hS_1 => ?_)
  refine th_topi (y := (-1)) (show ((-1) : Int32) = r_1 from p_1.2).symm ?_
  have kM : ∀ q, B + 178 ≤ q → H_1[q]? = H[q]? := fun q hq => hk_1 q (fun h => h.elim)
  have hTM := hTM.same (H1 := H_1) (fun q t h => kM q (by obtain ⟨j, rfl, z1, -, -⟩ := tq_some h; omega))
  have hFM := hFM.kept (H1 := H_1) kM
  have hX_1 : va_X b 4 xs s H_1 := hX.kept (hS_1.2.1 b (Nat.not_le.mpr hbB))
  refine lv_aload_n hx hb dL_law_635 rfl (lv_at hl 1 rfl) ?_
  refine lv_aload_n hx hb dL_law_636 rfl (lv_at hl 3 rfl) ?_
  refine lv_iload_n hx hb dL_law_637 rfl (lv_at hl 0 rfl) ?_
  refine lv_iconst (v := 1) hx hb dL_law_638 (by decide) ?_
  refine lv_iadd hx hb dL_law_639 ?_
  refine th_topi (y := 1) (by decide) ?_
  refine lw_sld (j := 1) hx hb hX_1 (by decide) (by decide) (by decide) dL_law_640 ?_
  refine th_topi h1 ?_
  refine lv_aload_n hx hb dL_law_641 rfl (lv_at hl 3 rfl) ?_
  refine lv_iload_n hx hb dL_law_642 rfl (lv_at hl 0 rfl) ?_
  refine lv_iconst (v := 2) hx hb dL_law_643 (by decide) ?_
  refine lv_iadd hx hb dL_law_644 ?_
  refine th_topi (y := 2) (by decide) ?_
  refine lw_sld (j := 2) hx hb hX_1 (by decide) (by decide) (by decide) dL_law_645 ?_
  refine th_Vi (A := fun q => B ≤ q) (As := [.int 1, .int (xs 2)]) (rest := [.int (-1)]) E hml hl.1 (c_X12_known_v5 l D cI cS (tq B 178 186) (rq B) hWM H_1 hTM (B + 178) (xs 2) hτM g2) lk_L_96 yd_X12_known hTM hτM rfl (by decide) ⟨rfl, fun _ _ => rfl, hS_1.2.2⟩ (fun q h => h.elim) ⟨Nat.le_of_ble_eq_true rfl, Nat.le_of_ble_eq_true rfl⟩ (Nat.le_of_ble_eq_true rfl) ⟨Nat.le_of_ble_eq_true rfl, Nat.le_of_ble_eq_true rfl⟩ rfl dL_law_646 (fun r_2 H_2 locs_2 p_2 hT_2 hk_2 hS_2 => ?_)
  refine th_topi (y := (-1)) (show ((-1) : Int32) = r_2 from p_2.2).symm ?_
  have hX_2 : va_X b 4 xs s H_2 := hX_1.kept (hS_2.2.1 b (Nat.not_le.mpr hbB))
  refine lv_icmp_eq (tgt := 766) hx hb dL_law_649 (by decide) (fun c_ => ?_) (fun c_ => absurd (by decide) c_)
  exact kk H_2 locs_2 hS_2.2.2 hX_2
set_option maxHeartbeats 4000000 in
set_option maxRecDepth 100000 in
theorem w_known_5 (E : EE p s m args c cL_law RL D cI cS) (hml : c.maxLocals = 4) (hl : lv_has ls 4 [(3, .int 0), (2, .ref (B + 178)), (1, .ref (B + 0)), (0, .ref b)]) (hWX : WF (tq B 0 178) (rq B)) (hWM : WF (tq B 178 186) (rq B)) (hTX : TH D cI cS (tq B 0 178) (rq B) H) (hFX : FX D B H) (hTM : TH D cI cS (tq B 178 186) (rq B) H) (hFM : FM D B H) (hX : va_X b 4 xs s H) (hbB : b < B) (hlo : ∀ x ∈ locs, B ≤ x.base) (h1 : xs 1 = 1) (l2 : 0 ≤ (xs 2).toInt) (kk : KL p l e s m args below meth c ls Q B b xs) : WL p l e s m args below meth c H locs ls Q 621 := by
  have hx := E.1
  have hb := E.2.1
  have hτX := ttX B
  have hτM := ttM B
  refine lv_aload_n hx hb dL_law_621 rfl (lv_at hl 2 rfl) ?_
  refine lv_aload_n hx hb dL_law_622 rfl (lv_at hl 3 rfl) ?_
  refine lv_iload_n hx hb dL_law_623 rfl (lv_at hl 0 rfl) ?_
  refine lv_iconst (v := 1) hx hb dL_law_624 (by decide) ?_
  refine lv_iadd hx hb dL_law_625 ?_
  refine th_topi (y := 1) (by decide) ?_
  refine lw_sld (j := 1) hx hb hX (by decide) (by decide) (by decide) dL_law_626 ?_
  refine th_topi h1 ?_
  refine lv_aload_n hx hb dL_law_627 rfl (lv_at hl 3 rfl) ?_
  refine lv_iload_n hx hb dL_law_628 rfl (lv_at hl 0 rfl) ?_
  refine lv_iconst (v := 2) hx hb dL_law_629 (by decide) ?_
  refine lv_iadd hx hb dL_law_630 ?_
  refine th_topi (y := 2) (by decide) ?_
  refine lw_sld (j := 2) hx hb hX (by decide) (by decide) (by decide) dL_law_631 ?_
  refine th_Vi (A := fun q => B ≤ q) (As := [.int 1, .int (xs 2)]) (rest := []) E hml hl.1 (c_X11_known_v6 l D cI cS (tq B 0 178) (rq B) hWX H hTX (B + 0) (xs 2) hτX l2 hFX.2.2.2.2.2.2.2.2.2.2.2.2.2.2.2.2.2.2.2.2.2.2.2.2.2.2.2.2.2.2.2.2.2.2.2.2.2.2.2.2.2.2.2.2.2.1 hFX.2.2.2.2.2.2.2.2.2.2.2.2.2.2.2.2.2.2.2.2.2.2.2.2.2.2.2.2.2.2.2.2.2.2.2.2.2.2.2.2.2.2.2.2.2.2.1) lk_L_93 yd_X11_known hTX hτX rfl (by decide) ⟨rfl, fun _ _ => rfl, hlo⟩ (fun q h => h.elim) ⟨Nat.le_of_ble_eq_true rfl, Nat.le_of_ble_eq_true rfl⟩ (Nat.le_of_ble_eq_true rfl) ⟨Nat.le_of_ble_eq_true rfl, Nat.le_of_ble_eq_true rfl⟩ rfl dL_law_632 (fun r_1 H_1 locs_1 p_1 hT_1 hk_1 hS_1 => ?_)
  refine th_topi (y := 0) (show (0 : Int32) = r_1 from p_1.2).symm ?_
  have kM : ∀ q, B + 178 ≤ q → H_1[q]? = H[q]? := fun q hq => hk_1 q (fun h => h.elim)
  have hTM := hTM.same (H1 := H_1) (fun q t h => kM q (by obtain ⟨j, rfl, z1, -, -⟩ := tq_some h; omega))
  have hFM := hFM.kept (H1 := H_1) kM
  have hX_1 : va_X b 4 xs s H_1 := hX.kept (hS_1.2.1 b (Nat.not_le.mpr hbB))
  refine lv_aload_n hx hb dL_law_635 rfl (lv_at hl 1 rfl) ?_
  refine lv_aload_n hx hb dL_law_636 rfl (lv_at hl 3 rfl) ?_
  refine lv_iload_n hx hb dL_law_637 rfl (lv_at hl 0 rfl) ?_
  refine lv_iconst (v := 1) hx hb dL_law_638 (by decide) ?_
  refine lv_iadd hx hb dL_law_639 ?_
  refine th_topi (y := 1) (by decide) ?_
  refine lw_sld (j := 1) hx hb hX_1 (by decide) (by decide) (by decide) dL_law_640 ?_
  refine th_topi h1 ?_
  refine lv_aload_n hx hb dL_law_641 rfl (lv_at hl 3 rfl) ?_
  refine lv_iload_n hx hb dL_law_642 rfl (lv_at hl 0 rfl) ?_
  refine lv_iconst (v := 2) hx hb dL_law_643 (by decide) ?_
  refine lv_iadd hx hb dL_law_644 ?_
  refine th_topi (y := 2) (by decide) ?_
  refine lw_sld (j := 2) hx hb hX_1 (by decide) (by decide) (by decide) dL_law_645 ?_
  refine th_Vi (A := fun q => B ≤ q) (As := [.int 1, .int (xs 2)]) (rest := [.int 0]) E hml hl.1 (c_X12_known_v6 l D cI cS (tq B 178 186) (rq B) hWM H_1 hTM (B + 178) (xs 2) hτM l2 ((hFM.2.2.2.2.1 289 (by decide)).trans (by decide)) hFM.2.2.2.2.1) lk_L_96 yd_X12_known hTM hτM rfl (by decide) ⟨rfl, fun _ _ => rfl, hS_1.2.2⟩ (fun q h => h.elim) ⟨Nat.le_of_ble_eq_true rfl, Nat.le_of_ble_eq_true rfl⟩ (Nat.le_of_ble_eq_true rfl) ⟨Nat.le_of_ble_eq_true rfl, Nat.le_of_ble_eq_true rfl⟩ rfl dL_law_646 (fun r_2 H_2 locs_2 p_2 hT_2 hk_2 hS_2 => ?_)
  refine th_topi (y := 0) (show (0 : Int32) = r_2 from p_2.2).symm ?_
  have hX_2 : va_X b 4 xs s H_2 := hX_1.kept (hS_2.2.1 b (Nat.not_le.mpr hbB))
  refine lv_icmp_eq (tgt := 766) hx hb dL_law_649 (by decide) (fun c_ => ?_) (fun c_ => absurd (by decide) c_)
  exact kk H_2 locs_2 hS_2.2.2 hX_2
theorem w_known (E : EE p s m args c cL_law RL D cI cS) (hml : c.maxLocals = 4) (hl : lv_has ls 4 [(3, .int 0), (2, .ref (B + 178)), (1, .ref (B + 0)), (0, .ref b)]) (hWX : WF (tq B 0 178) (rq B)) (hWM : WF (tq B 178 186) (rq B)) (hTX : TH D cI cS (tq B 0 178) (rq B) H) (hFX : FX D B H) (hTM : TH D cI cS (tq B 178 186) (rq B) H) (hFM : FM D B H) (hX : va_X b 4 xs s H) (hbB : b < B) (hlo : ∀ x ∈ locs, B ≤ x.base) (kk : KL p l e s m args below meth c ls Q B b xs) : WL p l e s m args below meth c H locs ls Q 621 := by
  rcases (show (xs 1).toInt ≤ -1 ∨ 2 ≤ (xs 1).toInt ∨ (xs 1).toInt = 0 ∨ (xs 1).toInt = 1 by omega) with g1 | l1 | t1 | t1
  · exact w_known_0 E hml hl hWX hWM hTX hFX hTM hFM hX hbB hlo g1 kk
  · exact w_known_1 E hml hl hWX hWM hTX hFX hTM hFM hX hbB hlo l1 kk
  · have h1 : xs 1 = 0 := i_eq t1 (by decide)
    rcases (show (xs 2).toInt ≤ -1 ∨ 0 ≤ (xs 2).toInt by omega) with g2 | l2
    · exact w_known_2 E hml hl hWX hWM hTX hFX hTM hFM hX hbB hlo h1 g2 kk
    · exact w_known_3 E hml hl hWX hWM hTX hFX hTM hFM hX hbB hlo h1 l2 kk
  · have h1 : xs 1 = 1 := i_eq t1 (by decide)
    rcases (show (xs 2).toInt ≤ -1 ∨ 0 ≤ (xs 2).toInt by omega) with g2 | l2
    · exact w_known_4 E hml hl hWX hWM hTX hFX hTM hFM hX hbB hlo h1 g2 kk
    · exact w_known_5 E hml hl hWX hWM hTX hFX hTM hFM hX hbB hlo h1 l2 kk
set_option maxHeartbeats 4000000 in
set_option maxRecDepth 100000 in
theorem w_letter_0 (E : EE p s m args c cL_law RL D cI cS) (hml : c.maxLocals = 4) (hl : lv_has ls 4 [(3, .int 0), (2, .ref (B + 178)), (1, .ref (B + 0)), (0, .ref b)]) (hWX : WF (tq B 0 178) (rq B)) (hWM : WF (tq B 178 186) (rq B)) (hTX : TH D cI cS (tq B 0 178) (rq B) H) (hFX : FX D B H) (hTM : TH D cI cS (tq B 178 186) (rq B) H) (hFM : FM D B H) (hX : va_X b 4 xs s H) (hbB : b < B) (hlo : ∀ x ∈ locs, B ≤ x.base) (g1 : (xs 1).toInt ≤ -1) (kk : KL p l e s m args below meth c ls Q B b xs) : WL p l e s m args below meth c H locs ls Q 654 := by
  have hx := E.1
  have hb := E.2.1
  have hτX := ttX B
  have hτM := ttM B
  refine lv_aload_n hx hb dL_law_654 rfl (lv_at hl 2 rfl) ?_
  refine lv_aload_n hx hb dL_law_655 rfl (lv_at hl 3 rfl) ?_
  refine lv_iload_n hx hb dL_law_656 rfl (lv_at hl 0 rfl) ?_
  refine lv_iconst (v := 1) hx hb dL_law_657 (by decide) ?_
  refine lv_iadd hx hb dL_law_658 ?_
  refine th_topi (y := 1) (by decide) ?_
  refine lw_sld (j := 1) hx hb hX (by decide) (by decide) (by decide) dL_law_659 ?_
  refine lv_aload_n hx hb dL_law_660 rfl (lv_at hl 3 rfl) ?_
  refine lv_iload_n hx hb dL_law_661 rfl (lv_at hl 0 rfl) ?_
  refine lv_iconst (v := 2) hx hb dL_law_662 (by decide) ?_
  refine lv_iadd hx hb dL_law_663 ?_
  refine th_topi (y := 2) (by decide) ?_
  refine lw_sld (j := 2) hx hb hX (by decide) (by decide) (by decide) dL_law_664 ?_
  refine th_Vi (A := fun q => B ≤ q) (As := [.int (xs 1), .int (xs 2)]) (rest := []) E hml hl.1 (c_X11_letter l D cI cS (tq B 0 178) (rq B) hWX H hTX (B + 0) (xs 1) (xs 2) hτX g1) lk_L_97 yd_X11_letter hTX hτX rfl (by decide) ⟨rfl, fun _ _ => rfl, hlo⟩ (fun q h => h.elim) ⟨Nat.le_of_ble_eq_true rfl, Nat.le_of_ble_eq_true rfl⟩ (Nat.le_of_ble_eq_true rfl) ⟨Nat.le_of_ble_eq_true rfl, Nat.le_of_ble_eq_true rfl⟩ rfl dL_law_665 (fun r_1 H_1 locs_1 p_1 hT_1 hk_1 hS_1 => ?_)
  refine th_topi (y := (-1)) (show ((-1) : Int32) = r_1 from p_1.2).symm ?_
  have kM : ∀ q, B + 178 ≤ q → H_1[q]? = H[q]? := fun q hq => hk_1 q (fun h => h.elim)
  have hTM := hTM.same (H1 := H_1) (fun q t h => kM q (by obtain ⟨j, rfl, z1, -, -⟩ := tq_some h; omega))
  have hFM := hFM.kept (H1 := H_1) kM
  have hX_1 : va_X b 4 xs s H_1 := hX.kept (hS_1.2.1 b (Nat.not_le.mpr hbB))
  refine lv_aload_n hx hb dL_law_668 rfl (lv_at hl 1 rfl) ?_
  refine lv_aload_n hx hb dL_law_669 rfl (lv_at hl 3 rfl) ?_
  refine lv_iload_n hx hb dL_law_670 rfl (lv_at hl 0 rfl) ?_
  refine lv_iconst (v := 1) hx hb dL_law_671 (by decide) ?_
  refine lv_iadd hx hb dL_law_672 ?_
  refine th_topi (y := 1) (by decide) ?_
  refine lw_sld (j := 1) hx hb hX_1 (by decide) (by decide) (by decide) dL_law_673 ?_
  refine lv_aload_n hx hb dL_law_674 rfl (lv_at hl 3 rfl) ?_
  refine lv_iload_n hx hb dL_law_675 rfl (lv_at hl 0 rfl) ?_
  refine lv_iconst (v := 2) hx hb dL_law_676 (by decide) ?_
  refine lv_iadd hx hb dL_law_677 ?_
  refine th_topi (y := 2) (by decide) ?_
  refine lw_sld (j := 2) hx hb hX_1 (by decide) (by decide) (by decide) dL_law_678 ?_
  refine th_Vi (A := fun q => B ≤ q) (As := [.int (xs 1), .int (xs 2)]) (rest := [.int (-1)]) E hml hl.1 (c_X12_letter l D cI cS (tq B 178 186) (rq B) hWM H_1 hTM (B + 178) (xs 1) (xs 2) hτM g1 ((hFM.2.2.2.2.1 976 (by decide)).trans (by decide))) lk_L_100 yd_X12_letter hTM hτM rfl (by decide) ⟨rfl, fun _ _ => rfl, hS_1.2.2⟩ (fun q h => h.elim) ⟨Nat.le_of_ble_eq_true rfl, Nat.le_of_ble_eq_true rfl⟩ (Nat.le_of_ble_eq_true rfl) ⟨Nat.le_of_ble_eq_true rfl, Nat.le_of_ble_eq_true rfl⟩ rfl dL_law_679 (fun r_2 H_2 locs_2 p_2 hT_2 hk_2 hS_2 => ?_)
  refine th_topi (y := (-1)) (show ((-1) : Int32) = r_2 from p_2.2).symm ?_
  have hX_2 : va_X b 4 xs s H_2 := hX_1.kept (hS_2.2.1 b (Nat.not_le.mpr hbB))
  refine lv_icmp_eq (tgt := 766) hx hb dL_law_682 (by decide) (fun c_ => ?_) (fun c_ => absurd (by decide) c_)
  exact kk H_2 locs_2 hS_2.2.2 hX_2
set_option maxHeartbeats 4000000 in
set_option maxRecDepth 100000 in
theorem w_letter_1 (E : EE p s m args c cL_law RL D cI cS) (hml : c.maxLocals = 4) (hl : lv_has ls 4 [(3, .int 0), (2, .ref (B + 178)), (1, .ref (B + 0)), (0, .ref b)]) (hWX : WF (tq B 0 178) (rq B)) (hWM : WF (tq B 178 186) (rq B)) (hTX : TH D cI cS (tq B 0 178) (rq B) H) (hFX : FX D B H) (hTM : TH D cI cS (tq B 178 186) (rq B) H) (hFM : FM D B H) (hX : va_X b 4 xs s H) (hbB : b < B) (hlo : ∀ x ∈ locs, B ≤ x.base) (l1 : 0 ≤ (xs 1).toInt) (kk : KL p l e s m args below meth c ls Q B b xs) : WL p l e s m args below meth c H locs ls Q 654 := by
  have hx := E.1
  have hb := E.2.1
  have hτX := ttX B
  have hτM := ttM B
  refine lv_aload_n hx hb dL_law_654 rfl (lv_at hl 2 rfl) ?_
  refine lv_aload_n hx hb dL_law_655 rfl (lv_at hl 3 rfl) ?_
  refine lv_iload_n hx hb dL_law_656 rfl (lv_at hl 0 rfl) ?_
  refine lv_iconst (v := 1) hx hb dL_law_657 (by decide) ?_
  refine lv_iadd hx hb dL_law_658 ?_
  refine th_topi (y := 1) (by decide) ?_
  refine lw_sld (j := 1) hx hb hX (by decide) (by decide) (by decide) dL_law_659 ?_
  refine lv_aload_n hx hb dL_law_660 rfl (lv_at hl 3 rfl) ?_
  refine lv_iload_n hx hb dL_law_661 rfl (lv_at hl 0 rfl) ?_
  refine lv_iconst (v := 2) hx hb dL_law_662 (by decide) ?_
  refine lv_iadd hx hb dL_law_663 ?_
  refine th_topi (y := 2) (by decide) ?_
  refine lw_sld (j := 2) hx hb hX (by decide) (by decide) (by decide) dL_law_664 ?_
  refine th_Vi (A := fun q => B ≤ q) (As := [.int (xs 1), .int (xs 2)]) (rest := []) E hml hl.1 (c_X11_letter_v2 l D cI cS (tq B 0 178) (rq B) hWX H hTX (B + 0) (xs 1) (xs 2) hτX l1 hFX.2.2.2.2.2.2.2.2.2.1) lk_L_97 yd_X11_letter hTX hτX rfl (by decide) ⟨rfl, fun _ _ => rfl, hlo⟩ (fun q h => h.elim) ⟨Nat.le_of_ble_eq_true rfl, Nat.le_of_ble_eq_true rfl⟩ (Nat.le_of_ble_eq_true rfl) ⟨Nat.le_of_ble_eq_true rfl, Nat.le_of_ble_eq_true rfl⟩ rfl dL_law_665 (fun r_1 H_1 locs_1 p_1 hT_1 hk_1 hS_1 => ?_)
  refine th_topi (y := (-1)) (show ((-1) : Int32) = r_1 from p_1.2).symm ?_
  have kM : ∀ q, B + 178 ≤ q → H_1[q]? = H[q]? := fun q hq => hk_1 q (fun h => h.elim)
  have hTM := hTM.same (H1 := H_1) (fun q t h => kM q (by obtain ⟨j, rfl, z1, -, -⟩ := tq_some h; omega))
  have hFM := hFM.kept (H1 := H_1) kM
  have hX_1 : va_X b 4 xs s H_1 := hX.kept (hS_1.2.1 b (Nat.not_le.mpr hbB))
  refine lv_aload_n hx hb dL_law_668 rfl (lv_at hl 1 rfl) ?_
  refine lv_aload_n hx hb dL_law_669 rfl (lv_at hl 3 rfl) ?_
  refine lv_iload_n hx hb dL_law_670 rfl (lv_at hl 0 rfl) ?_
  refine lv_iconst (v := 1) hx hb dL_law_671 (by decide) ?_
  refine lv_iadd hx hb dL_law_672 ?_
  refine th_topi (y := 1) (by decide) ?_
  refine lw_sld (j := 1) hx hb hX_1 (by decide) (by decide) (by decide) dL_law_673 ?_
  refine lv_aload_n hx hb dL_law_674 rfl (lv_at hl 3 rfl) ?_
  refine lv_iload_n hx hb dL_law_675 rfl (lv_at hl 0 rfl) ?_
  refine lv_iconst (v := 2) hx hb dL_law_676 (by decide) ?_
  refine lv_iadd hx hb dL_law_677 ?_
  refine th_topi (y := 2) (by decide) ?_
  refine lw_sld (j := 2) hx hb hX_1 (by decide) (by decide) (by decide) dL_law_678 ?_
  refine th_Vi (A := fun q => B ≤ q) (As := [.int (xs 1), .int (xs 2)]) (rest := [.int (-1)]) E hml hl.1 (c_X12_letter_v2 l D cI cS (tq B 178 186) (rq B) hWM H_1 hTM (B + 178) (xs 1) (xs 2) hτM l1 ((hFM.2.2.2.2.1 976 (by decide)).trans (by decide))) lk_L_100 yd_X12_letter hTM hτM rfl (by decide) ⟨rfl, fun _ _ => rfl, hS_1.2.2⟩ (fun q h => h.elim) ⟨Nat.le_of_ble_eq_true rfl, Nat.le_of_ble_eq_true rfl⟩ (Nat.le_of_ble_eq_true rfl) ⟨Nat.le_of_ble_eq_true rfl, Nat.le_of_ble_eq_true rfl⟩ rfl dL_law_679 (fun r_2 H_2 locs_2 p_2 hT_2 hk_2 hS_2 => ?_)
  refine th_topi (y := (-1)) (show ((-1) : Int32) = r_2 from p_2.2).symm ?_
  have hX_2 : va_X b 4 xs s H_2 := hX_1.kept (hS_2.2.1 b (Nat.not_le.mpr hbB))
  refine lv_icmp_eq (tgt := 766) hx hb dL_law_682 (by decide) (fun c_ => ?_) (fun c_ => absurd (by decide) c_)
  exact kk H_2 locs_2 hS_2.2.2 hX_2
theorem w_letter (E : EE p s m args c cL_law RL D cI cS) (hml : c.maxLocals = 4) (hl : lv_has ls 4 [(3, .int 0), (2, .ref (B + 178)), (1, .ref (B + 0)), (0, .ref b)]) (hWX : WF (tq B 0 178) (rq B)) (hWM : WF (tq B 178 186) (rq B)) (hTX : TH D cI cS (tq B 0 178) (rq B) H) (hFX : FX D B H) (hTM : TH D cI cS (tq B 178 186) (rq B) H) (hFM : FM D B H) (hX : va_X b 4 xs s H) (hbB : b < B) (hlo : ∀ x ∈ locs, B ≤ x.base) (kk : KL p l e s m args below meth c ls Q B b xs) : WL p l e s m args below meth c H locs ls Q 654 := by
  rcases (show (xs 1).toInt ≤ -1 ∨ 0 ≤ (xs 1).toInt by omega) with g1 | l1
  · exact w_letter_0 E hml hl hWX hWM hTX hFX hTM hFM hX hbB hlo g1 kk
  · exact w_letter_1 E hml hl hWX hWM hTX hFX hTM hFM hX hbB hlo l1 kk
set_option maxHeartbeats 4000000 in
set_option maxRecDepth 100000 in
theorem w_byteOf_0 (E : EE p s m args c cL_law RL D cI cS) (hml : c.maxLocals = 4) (hl : lv_has ls 4 [(3, .int 0), (2, .ref (B + 178)), (1, .ref (B + 0)), (0, .ref b)]) (hWX : WF (tq B 0 178) (rq B)) (hWM : WF (tq B 178 186) (rq B)) (hTX : TH D cI cS (tq B 0 178) (rq B) H) (hFX : FX D B H) (hTM : TH D cI cS (tq B 178 186) (rq B) H) (hFM : FM D B H) (hX : va_X b 4 xs s H) (hbB : b < B) (hlo : ∀ x ∈ locs, B ≤ x.base) (g1 : (xs 1).toInt ≤ -1) (kk : KL p l e s m args below meth c ls Q B b xs) : WL p l e s m args below meth c H locs ls Q 687 := by
  have hx := E.1
  have hb := E.2.1
  have hτX := ttX B
  have hτM := ttM B
  refine lv_aload_n hx hb dL_law_687 rfl (lv_at hl 2 rfl) ?_
  refine lv_aload_n hx hb dL_law_688 rfl (lv_at hl 3 rfl) ?_
  refine lv_iload_n hx hb dL_law_689 rfl (lv_at hl 0 rfl) ?_
  refine lv_iconst (v := 1) hx hb dL_law_690 (by decide) ?_
  refine lv_iadd hx hb dL_law_691 ?_
  refine th_topi (y := 1) (by decide) ?_
  refine lw_sld (j := 1) hx hb hX (by decide) (by decide) (by decide) dL_law_692 ?_
  refine lv_aload_n hx hb dL_law_693 rfl (lv_at hl 3 rfl) ?_
  refine lv_iload_n hx hb dL_law_694 rfl (lv_at hl 0 rfl) ?_
  refine lv_iconst (v := 2) hx hb dL_law_695 (by decide) ?_
  refine lv_iadd hx hb dL_law_696 ?_
  refine th_topi (y := 2) (by decide) ?_
  refine lw_sld (j := 2) hx hb hX (by decide) (by decide) (by decide) dL_law_697 ?_
  refine th_Vi (A := fun q => B ≤ q) (As := [.int (xs 1), .int (xs 2)]) (rest := []) E hml hl.1 (c_X11_byteOf l D cI cS (tq B 0 178) (rq B) hWX H hTX (B + 0) (xs 1) (xs 2) hτX g1) lk_L_101 yd_X11_byteOf hTX hτX rfl (by decide) ⟨rfl, fun _ _ => rfl, hlo⟩ (fun q h => h.elim) ⟨Nat.le_of_ble_eq_true rfl, Nat.le_of_ble_eq_true rfl⟩ (Nat.le_of_ble_eq_true rfl) ⟨Nat.le_of_ble_eq_true rfl, Nat.le_of_ble_eq_true rfl⟩ rfl dL_law_698 (fun r_1 H_1 locs_1 p_1 hT_1 hk_1 hS_1 => ?_)
  refine th_topi (y := (-1)) (show ((-1) : Int32) = r_1 from p_1.2).symm ?_
  have kM : ∀ q, B + 178 ≤ q → H_1[q]? = H[q]? := fun q hq => hk_1 q (fun h => h.elim)
  have hTM := hTM.same (H1 := H_1) (fun q t h => kM q (by obtain ⟨j, rfl, z1, -, -⟩ := tq_some h; omega))
  have hFM := hFM.kept (H1 := H_1) kM
  have hX_1 : va_X b 4 xs s H_1 := hX.kept (hS_1.2.1 b (Nat.not_le.mpr hbB))
  refine lv_aload_n hx hb dL_law_701 rfl (lv_at hl 1 rfl) ?_
  refine lv_aload_n hx hb dL_law_702 rfl (lv_at hl 3 rfl) ?_
  refine lv_iload_n hx hb dL_law_703 rfl (lv_at hl 0 rfl) ?_
  refine lv_iconst (v := 1) hx hb dL_law_704 (by decide) ?_
  refine lv_iadd hx hb dL_law_705 ?_
  refine th_topi (y := 1) (by decide) ?_
  refine lw_sld (j := 1) hx hb hX_1 (by decide) (by decide) (by decide) dL_law_706 ?_
  refine lv_aload_n hx hb dL_law_707 rfl (lv_at hl 3 rfl) ?_
  refine lv_iload_n hx hb dL_law_708 rfl (lv_at hl 0 rfl) ?_
  refine lv_iconst (v := 2) hx hb dL_law_709 (by decide) ?_
  refine lv_iadd hx hb dL_law_710 ?_
  refine th_topi (y := 2) (by decide) ?_
  refine lw_sld (j := 2) hx hb hX_1 (by decide) (by decide) (by decide) dL_law_711 ?_
  refine th_Vi (A := fun q => B ≤ q) (As := [.int (xs 1), .int (xs 2)]) (rest := [.int (-1)]) E hml hl.1 (c_X12_byteOf l D cI cS (tq B 178 186) (rq B) hWM H_1 hTM (B + 178) (xs 1) (xs 2) hτM g1 ((hFM.2.2.2.2.1 976 (by decide)).trans (by decide))) lk_L_104 yd_X12_byteOf hTM hτM rfl (by decide) ⟨rfl, fun _ _ => rfl, hS_1.2.2⟩ (fun q h => h.elim) ⟨Nat.le_of_ble_eq_true rfl, Nat.le_of_ble_eq_true rfl⟩ (Nat.le_of_ble_eq_true rfl) ⟨Nat.le_of_ble_eq_true rfl, Nat.le_of_ble_eq_true rfl⟩ rfl dL_law_712 (fun r_2 H_2 locs_2 p_2 hT_2 hk_2 hS_2 => ?_)
  refine th_topi (y := (-1)) (show ((-1) : Int32) = r_2 from p_2.2).symm ?_
  have hX_2 : va_X b 4 xs s H_2 := hX_1.kept (hS_2.2.1 b (Nat.not_le.mpr hbB))
  refine lv_icmp_eq (tgt := 766) hx hb dL_law_715 (by decide) (fun c_ => ?_) (fun c_ => absurd (by decide) c_)
  exact kk H_2 locs_2 hS_2.2.2 hX_2
set_option maxHeartbeats 4000000 in
set_option maxRecDepth 100000 in
theorem w_byteOf_1 (E : EE p s m args c cL_law RL D cI cS) (hml : c.maxLocals = 4) (hl : lv_has ls 4 [(3, .int 0), (2, .ref (B + 178)), (1, .ref (B + 0)), (0, .ref b)]) (hWX : WF (tq B 0 178) (rq B)) (hWM : WF (tq B 178 186) (rq B)) (hTX : TH D cI cS (tq B 0 178) (rq B) H) (hFX : FX D B H) (hTM : TH D cI cS (tq B 178 186) (rq B) H) (hFM : FM D B H) (hX : va_X b 4 xs s H) (hbB : b < B) (hlo : ∀ x ∈ locs, B ≤ x.base) (l1 : 0 ≤ (xs 1).toInt) (kk : KL p l e s m args below meth c ls Q B b xs) : WL p l e s m args below meth c H locs ls Q 687 := by
  have hx := E.1
  have hb := E.2.1
  have hτX := ttX B
  have hτM := ttM B
  refine lv_aload_n hx hb dL_law_687 rfl (lv_at hl 2 rfl) ?_
  refine lv_aload_n hx hb dL_law_688 rfl (lv_at hl 3 rfl) ?_
  refine lv_iload_n hx hb dL_law_689 rfl (lv_at hl 0 rfl) ?_
  refine lv_iconst (v := 1) hx hb dL_law_690 (by decide) ?_
  refine lv_iadd hx hb dL_law_691 ?_
  refine th_topi (y := 1) (by decide) ?_
  refine lw_sld (j := 1) hx hb hX (by decide) (by decide) (by decide) dL_law_692 ?_
  refine lv_aload_n hx hb dL_law_693 rfl (lv_at hl 3 rfl) ?_
  refine lv_iload_n hx hb dL_law_694 rfl (lv_at hl 0 rfl) ?_
  refine lv_iconst (v := 2) hx hb dL_law_695 (by decide) ?_
  refine lv_iadd hx hb dL_law_696 ?_
  refine th_topi (y := 2) (by decide) ?_
  refine lw_sld (j := 2) hx hb hX (by decide) (by decide) (by decide) dL_law_697 ?_
  refine th_Vi (A := fun q => B ≤ q) (As := [.int (xs 1), .int (xs 2)]) (rest := []) E hml hl.1 (c_X11_byteOf_v2 l D cI cS (tq B 0 178) (rq B) hWX H hTX (B + 0) (xs 1) (xs 2) hτX l1 hFX.2.2.2.2.2.2.2.2.2.1) lk_L_101 yd_X11_byteOf hTX hτX rfl (by decide) ⟨rfl, fun _ _ => rfl, hlo⟩ (fun q h => h.elim) ⟨Nat.le_of_ble_eq_true rfl, Nat.le_of_ble_eq_true rfl⟩ (Nat.le_of_ble_eq_true rfl) ⟨Nat.le_of_ble_eq_true rfl, Nat.le_of_ble_eq_true rfl⟩ rfl dL_law_698 (fun r_1 H_1 locs_1 p_1 hT_1 hk_1 hS_1 => ?_)
  refine th_topi (y := (-1)) (show ((-1) : Int32) = r_1 from p_1.2).symm ?_
  have kM : ∀ q, B + 178 ≤ q → H_1[q]? = H[q]? := fun q hq => hk_1 q (fun h => h.elim)
  have hTM := hTM.same (H1 := H_1) (fun q t h => kM q (by obtain ⟨j, rfl, z1, -, -⟩ := tq_some h; omega))
  have hFM := hFM.kept (H1 := H_1) kM
  have hX_1 : va_X b 4 xs s H_1 := hX.kept (hS_1.2.1 b (Nat.not_le.mpr hbB))
  refine lv_aload_n hx hb dL_law_701 rfl (lv_at hl 1 rfl) ?_
  refine lv_aload_n hx hb dL_law_702 rfl (lv_at hl 3 rfl) ?_
  refine lv_iload_n hx hb dL_law_703 rfl (lv_at hl 0 rfl) ?_
  refine lv_iconst (v := 1) hx hb dL_law_704 (by decide) ?_
  refine lv_iadd hx hb dL_law_705 ?_
  refine th_topi (y := 1) (by decide) ?_
  refine lw_sld (j := 1) hx hb hX_1 (by decide) (by decide) (by decide) dL_law_706 ?_
  refine lv_aload_n hx hb dL_law_707 rfl (lv_at hl 3 rfl) ?_
  refine lv_iload_n hx hb dL_law_708 rfl (lv_at hl 0 rfl) ?_
  refine lv_iconst (v := 2) hx hb dL_law_709 (by decide) ?_
  refine lv_iadd hx hb dL_law_710 ?_
  refine th_topi (y := 2) (by decide) ?_
  refine lw_sld (j := 2) hx hb hX_1 (by decide) (by decide) (by decide) dL_law_711 ?_
  refine th_Vi (A := fun q => B ≤ q) (As := [.int (xs 1), .int (xs 2)]) (rest := [.int (-1)]) E hml hl.1 (c_X12_byteOf_v2 l D cI cS (tq B 178 186) (rq B) hWM H_1 hTM (B + 178) (xs 1) (xs 2) hτM l1 ((hFM.2.2.2.2.1 976 (by decide)).trans (by decide))) lk_L_104 yd_X12_byteOf hTM hτM rfl (by decide) ⟨rfl, fun _ _ => rfl, hS_1.2.2⟩ (fun q h => h.elim) ⟨Nat.le_of_ble_eq_true rfl, Nat.le_of_ble_eq_true rfl⟩ (Nat.le_of_ble_eq_true rfl) ⟨Nat.le_of_ble_eq_true rfl, Nat.le_of_ble_eq_true rfl⟩ rfl dL_law_712 (fun r_2 H_2 locs_2 p_2 hT_2 hk_2 hS_2 => ?_)
  refine th_topi (y := (-1)) (show ((-1) : Int32) = r_2 from p_2.2).symm ?_
  have hX_2 : va_X b 4 xs s H_2 := hX_1.kept (hS_2.2.1 b (Nat.not_le.mpr hbB))
  refine lv_icmp_eq (tgt := 766) hx hb dL_law_715 (by decide) (fun c_ => ?_) (fun c_ => absurd (by decide) c_)
  exact kk H_2 locs_2 hS_2.2.2 hX_2
theorem w_byteOf (E : EE p s m args c cL_law RL D cI cS) (hml : c.maxLocals = 4) (hl : lv_has ls 4 [(3, .int 0), (2, .ref (B + 178)), (1, .ref (B + 0)), (0, .ref b)]) (hWX : WF (tq B 0 178) (rq B)) (hWM : WF (tq B 178 186) (rq B)) (hTX : TH D cI cS (tq B 0 178) (rq B) H) (hFX : FX D B H) (hTM : TH D cI cS (tq B 178 186) (rq B) H) (hFM : FM D B H) (hX : va_X b 4 xs s H) (hbB : b < B) (hlo : ∀ x ∈ locs, B ≤ x.base) (kk : KL p l e s m args below meth c ls Q B b xs) : WL p l e s m args below meth c H locs ls Q 687 := by
  rcases (show (xs 1).toInt ≤ -1 ∨ 0 ≤ (xs 1).toInt by omega) with g1 | l1
  · exact w_byteOf_0 E hml hl hWX hWM hTX hFX hTM hFM hX hbB hlo g1 kk
  · exact w_byteOf_1 E hml hl hWX hWM hTX hFX hTM hFM hX hbB hlo l1 kk
set_option maxHeartbeats 4000000 in
set_option maxRecDepth 100000 in
theorem w_cause_0 (E : EE p s m args c cL_law RL D cI cS) (hml : c.maxLocals = 4) (hl : lv_has ls 4 [(3, .int 0), (2, .ref (B + 178)), (1, .ref (B + 0)), (0, .ref b)]) (hWX : WF (tq B 0 178) (rq B)) (hWM : WF (tq B 178 186) (rq B)) (hTX : TH D cI cS (tq B 0 178) (rq B) H) (hFX : FX D B H) (hTM : TH D cI cS (tq B 178 186) (rq B) H) (hFM : FM D B H) (hX : va_X b 4 xs s H) (hbB : b < B) (hlo : ∀ x ∈ locs, B ≤ x.base) (g1 : (xs 1).toInt ≤ -1) (kk : KL p l e s m args below meth c ls Q B b xs) : WL p l e s m args below meth c H locs ls Q 720 := by
  have hx := E.1
  have hb := E.2.1
  have hτX := ttX B
  have hτM := ttM B
  refine lv_aload_n hx hb dL_law_720 rfl (lv_at hl 2 rfl) ?_
  refine lv_aload_n hx hb dL_law_721 rfl (lv_at hl 3 rfl) ?_
  refine lv_iload_n hx hb dL_law_722 rfl (lv_at hl 0 rfl) ?_
  refine lv_iconst (v := 1) hx hb dL_law_723 (by decide) ?_
  refine lv_iadd hx hb dL_law_724 ?_
  refine th_topi (y := 1) (by decide) ?_
  refine lw_sld (j := 1) hx hb hX (by decide) (by decide) (by decide) dL_law_725 ?_
  refine th_Vi (A := fun q => B ≤ q) (As := [.int (xs 1)]) (rest := []) E hml hl.1 (c_X11_cause l D cI cS (tq B 0 178) (rq B) hWX H hTX (B + 0) (xs 1) hτX g1) lk_L_105 yd_X11_cause hTX hτX rfl (by decide) ⟨rfl, fun _ _ => rfl, hlo⟩ (fun q h => h.elim) ⟨Nat.le_of_ble_eq_true rfl, Nat.le_of_ble_eq_true rfl⟩ (Nat.le_of_ble_eq_true rfl) ⟨Nat.le_of_ble_eq_true rfl, Nat.le_of_ble_eq_true rfl⟩ rfl dL_law_726 (fun r_1 H_1 locs_1 p_1 hT_1 hk_1 hS_1 => ?_)
  refine th_topi (y := (-1)) (show ((-1) : Int32) = r_1 from p_1.2).symm ?_
  have kM : ∀ q, B + 178 ≤ q → H_1[q]? = H[q]? := fun q hq => hk_1 q (fun h => h.elim)
  have hTM := hTM.same (H1 := H_1) (fun q t h => kM q (by obtain ⟨j, rfl, z1, -, -⟩ := tq_some h; omega))
  have hFM := hFM.kept (H1 := H_1) kM
  have hX_1 : va_X b 4 xs s H_1 := hX.kept (hS_1.2.1 b (Nat.not_le.mpr hbB))
  refine lv_aload_n hx hb dL_law_729 rfl (lv_at hl 1 rfl) ?_
  refine lv_aload_n hx hb dL_law_730 rfl (lv_at hl 3 rfl) ?_
  refine lv_iload_n hx hb dL_law_731 rfl (lv_at hl 0 rfl) ?_
  refine lv_iconst (v := 1) hx hb dL_law_732 (by decide) ?_
  refine lv_iadd hx hb dL_law_733 ?_
  refine th_topi (y := 1) (by decide) ?_
  refine lw_sld (j := 1) hx hb hX_1 (by decide) (by decide) (by decide) dL_law_734 ?_
  refine th_Vi (A := fun q => B ≤ q) (As := [.int (xs 1)]) (rest := [.int (-1)]) E hml hl.1 (c_X12_cause l D cI cS (tq B 178 186) (rq B) hWM H_1 hTM (B + 178) (xs 1) hτM g1) lk_L_108 yd_X12_cause hTM hτM rfl (by decide) ⟨rfl, fun _ _ => rfl, hS_1.2.2⟩ (fun q h => h.elim) ⟨Nat.le_of_ble_eq_true rfl, Nat.le_of_ble_eq_true rfl⟩ (Nat.le_of_ble_eq_true rfl) ⟨Nat.le_of_ble_eq_true rfl, Nat.le_of_ble_eq_true rfl⟩ rfl dL_law_735 (fun r_2 H_2 locs_2 p_2 hT_2 hk_2 hS_2 => ?_)
  refine th_topi (y := (-1)) (show ((-1) : Int32) = r_2 from p_2.2).symm ?_
  have hX_2 : va_X b 4 xs s H_2 := hX_1.kept (hS_2.2.1 b (Nat.not_le.mpr hbB))
  refine lv_icmp_eq (tgt := 766) hx hb dL_law_738 (by decide) (fun c_ => ?_) (fun c_ => absurd (by decide) c_)
  exact kk H_2 locs_2 hS_2.2.2 hX_2
set_option maxHeartbeats 4000000 in
set_option maxRecDepth 100000 in
theorem w_cause_1 (E : EE p s m args c cL_law RL D cI cS) (hml : c.maxLocals = 4) (hl : lv_has ls 4 [(3, .int 0), (2, .ref (B + 178)), (1, .ref (B + 0)), (0, .ref b)]) (hWX : WF (tq B 0 178) (rq B)) (hWM : WF (tq B 178 186) (rq B)) (hTX : TH D cI cS (tq B 0 178) (rq B) H) (hFX : FX D B H) (hTM : TH D cI cS (tq B 178 186) (rq B) H) (hFM : FM D B H) (hX : va_X b 4 xs s H) (hbB : b < B) (hlo : ∀ x ∈ locs, B ≤ x.base) (h1 : xs 1 = 0) (kk : KL p l e s m args below meth c ls Q B b xs) : WL p l e s m args below meth c H locs ls Q 720 := by
  have hx := E.1
  have hb := E.2.1
  have hτX := ttX B
  have hτM := ttM B
  refine lv_aload_n hx hb dL_law_720 rfl (lv_at hl 2 rfl) ?_
  refine lv_aload_n hx hb dL_law_721 rfl (lv_at hl 3 rfl) ?_
  refine lv_iload_n hx hb dL_law_722 rfl (lv_at hl 0 rfl) ?_
  refine lv_iconst (v := 1) hx hb dL_law_723 (by decide) ?_
  refine lv_iadd hx hb dL_law_724 ?_
  refine th_topi (y := 1) (by decide) ?_
  refine lw_sld (j := 1) hx hb hX (by decide) (by decide) (by decide) dL_law_725 ?_
  refine th_topi h1 ?_
  refine th_Vi (A := fun q => B ≤ q) (As := [.int 0]) (rest := []) E hml hl.1 (c_X11_cause_v2 l D cI cS (tq B 0 178) (rq B) hWX H hTX (B + 0) hτX hFX.2.2.2.2.2.2.2.2.2.2.2.2.2.2.2.2.2.2.2.2.2.2.2.2.2.2.2.2.2.2.2.2.2.2.2.2.2.2.2.2.2.2.2.2.2.2.2.2.2.2.2.2.2.2.2.1) lk_L_105 yd_X11_cause hTX hτX rfl (by decide) ⟨rfl, fun _ _ => rfl, hlo⟩ (fun q h => h.elim) ⟨Nat.le_of_ble_eq_true rfl, Nat.le_of_ble_eq_true rfl⟩ (Nat.le_of_ble_eq_true rfl) ⟨Nat.le_of_ble_eq_true rfl, Nat.le_of_ble_eq_true rfl⟩ rfl dL_law_726 (fun r_1 H_1 locs_1 p_1 hT_1 hk_1 hS_1 => ?_)
  refine th_topi (y := (-4)) (show ((-4) : Int32) = r_1 from p_1.2).symm ?_
  have kM : ∀ q, B + 178 ≤ q → H_1[q]? = H[q]? := fun q hq => hk_1 q (fun h => h.elim)
  have hTM := hTM.same (H1 := H_1) (fun q t h => kM q (by obtain ⟨j, rfl, z1, -, -⟩ := tq_some h; omega))
  have hFM := hFM.kept (H1 := H_1) kM
  have hX_1 : va_X b 4 xs s H_1 := hX.kept (hS_1.2.1 b (Nat.not_le.mpr hbB))
  refine lv_aload_n hx hb dL_law_729 rfl (lv_at hl 1 rfl) ?_
  refine lv_aload_n hx hb dL_law_730 rfl (lv_at hl 3 rfl) ?_
  refine lv_iload_n hx hb dL_law_731 rfl (lv_at hl 0 rfl) ?_
  refine lv_iconst (v := 1) hx hb dL_law_732 (by decide) ?_
  refine lv_iadd hx hb dL_law_733 ?_
  refine th_topi (y := 1) (by decide) ?_
  refine lw_sld (j := 1) hx hb hX_1 (by decide) (by decide) (by decide) dL_law_734 ?_
  refine th_topi h1 ?_
  refine th_Vi (A := fun q => B ≤ q) (As := [.int 0]) (rest := [.int (-4)]) E hml hl.1 (c_X12_cause_v2 l D cI cS (tq B 178 186) (rq B) hWM H_1 hTM (B + 178) hτM ((hFM.2.2.2.2.1 982 (by decide)).trans (by decide))) lk_L_108 yd_X12_cause hTM hτM rfl (by decide) ⟨rfl, fun _ _ => rfl, hS_1.2.2⟩ (fun q h => h.elim) ⟨Nat.le_of_ble_eq_true rfl, Nat.le_of_ble_eq_true rfl⟩ (Nat.le_of_ble_eq_true rfl) ⟨Nat.le_of_ble_eq_true rfl, Nat.le_of_ble_eq_true rfl⟩ rfl dL_law_735 (fun r_2 H_2 locs_2 p_2 hT_2 hk_2 hS_2 => ?_)
  refine th_topi (y := (-4)) (show ((-4) : Int32) = r_2 from p_2.2).symm ?_
  have hX_2 : va_X b 4 xs s H_2 := hX_1.kept (hS_2.2.1 b (Nat.not_le.mpr hbB))
  refine lv_icmp_eq (tgt := 766) hx hb dL_law_738 (by decide) (fun c_ => ?_) (fun c_ => absurd (by decide) c_)
  exact kk H_2 locs_2 hS_2.2.2 hX_2
set_option maxHeartbeats 4000000 in
set_option maxRecDepth 100000 in
theorem w_cause_2 (E : EE p s m args c cL_law RL D cI cS) (hml : c.maxLocals = 4) (hl : lv_has ls 4 [(3, .int 0), (2, .ref (B + 178)), (1, .ref (B + 0)), (0, .ref b)]) (hWX : WF (tq B 0 178) (rq B)) (hWM : WF (tq B 178 186) (rq B)) (hTX : TH D cI cS (tq B 0 178) (rq B) H) (hFX : FX D B H) (hTM : TH D cI cS (tq B 178 186) (rq B) H) (hFM : FM D B H) (hX : va_X b 4 xs s H) (hbB : b < B) (hlo : ∀ x ∈ locs, B ≤ x.base) (h1 : xs 1 = 1) (kk : KL p l e s m args below meth c ls Q B b xs) : WL p l e s m args below meth c H locs ls Q 720 := by
  have hx := E.1
  have hb := E.2.1
  have hτX := ttX B
  have hτM := ttM B
  refine lv_aload_n hx hb dL_law_720 rfl (lv_at hl 2 rfl) ?_
  refine lv_aload_n hx hb dL_law_721 rfl (lv_at hl 3 rfl) ?_
  refine lv_iload_n hx hb dL_law_722 rfl (lv_at hl 0 rfl) ?_
  refine lv_iconst (v := 1) hx hb dL_law_723 (by decide) ?_
  refine lv_iadd hx hb dL_law_724 ?_
  refine th_topi (y := 1) (by decide) ?_
  refine lw_sld (j := 1) hx hb hX (by decide) (by decide) (by decide) dL_law_725 ?_
  refine th_topi h1 ?_
  refine th_Vi (A := fun q => B ≤ q) (As := [.int 1]) (rest := []) E hml hl.1 (c_X11_cause_v3 l D cI cS (tq B 0 178) (rq B) hWX H hTX (B + 0) hτX hFX.2.2.2.2.2.2.2.2.2.2.2.2.2.2.2.2.2.2.2.2.2.2.2.2.2.2.2.2.2.2.2.2.2.2.2.2.2.2.2.2.2.2.2.2.2.2.2.2.2.2.2.2.2.2.2.2.1) lk_L_105 yd_X11_cause hTX hτX rfl (by decide) ⟨rfl, fun _ _ => rfl, hlo⟩ (fun q h => h.elim) ⟨Nat.le_of_ble_eq_true rfl, Nat.le_of_ble_eq_true rfl⟩ (Nat.le_of_ble_eq_true rfl) ⟨Nat.le_of_ble_eq_true rfl, Nat.le_of_ble_eq_true rfl⟩ rfl dL_law_726 (fun r_1 H_1 locs_1 p_1 hT_1 hk_1 hS_1 => ?_)
  refine th_topi (y := (-4)) (show ((-4) : Int32) = r_1 from p_1.2).symm ?_
  have kM : ∀ q, B + 178 ≤ q → H_1[q]? = H[q]? := fun q hq => hk_1 q (fun h => h.elim)
  have hTM := hTM.same (H1 := H_1) (fun q t h => kM q (by obtain ⟨j, rfl, z1, -, -⟩ := tq_some h; omega))
  have hFM := hFM.kept (H1 := H_1) kM
  have hX_1 : va_X b 4 xs s H_1 := hX.kept (hS_1.2.1 b (Nat.not_le.mpr hbB))
  refine lv_aload_n hx hb dL_law_729 rfl (lv_at hl 1 rfl) ?_
  refine lv_aload_n hx hb dL_law_730 rfl (lv_at hl 3 rfl) ?_
  refine lv_iload_n hx hb dL_law_731 rfl (lv_at hl 0 rfl) ?_
  refine lv_iconst (v := 1) hx hb dL_law_732 (by decide) ?_
  refine lv_iadd hx hb dL_law_733 ?_
  refine th_topi (y := 1) (by decide) ?_
  refine lw_sld (j := 1) hx hb hX_1 (by decide) (by decide) (by decide) dL_law_734 ?_
  refine th_topi h1 ?_
  refine th_Vi (A := fun q => B ≤ q) (As := [.int 1]) (rest := [.int (-4)]) E hml hl.1 (c_X12_cause_v3 l D cI cS (tq B 178 186) (rq B) hWM H_1 hTM (B + 178) hτM ((hFM.2.2.2.2.1 982 (by decide)).trans (by decide))) lk_L_108 yd_X12_cause hTM hτM rfl (by decide) ⟨rfl, fun _ _ => rfl, hS_1.2.2⟩ (fun q h => h.elim) ⟨Nat.le_of_ble_eq_true rfl, Nat.le_of_ble_eq_true rfl⟩ (Nat.le_of_ble_eq_true rfl) ⟨Nat.le_of_ble_eq_true rfl, Nat.le_of_ble_eq_true rfl⟩ rfl dL_law_735 (fun r_2 H_2 locs_2 p_2 hT_2 hk_2 hS_2 => ?_)
  refine th_topi (y := (-4)) (show ((-4) : Int32) = r_2 from p_2.2).symm ?_
  have hX_2 : va_X b 4 xs s H_2 := hX_1.kept (hS_2.2.1 b (Nat.not_le.mpr hbB))
  refine lv_icmp_eq (tgt := 766) hx hb dL_law_738 (by decide) (fun c_ => ?_) (fun c_ => absurd (by decide) c_)
  exact kk H_2 locs_2 hS_2.2.2 hX_2
set_option maxHeartbeats 4000000 in
set_option maxRecDepth 100000 in
theorem w_cause_3 (E : EE p s m args c cL_law RL D cI cS) (hml : c.maxLocals = 4) (hl : lv_has ls 4 [(3, .int 0), (2, .ref (B + 178)), (1, .ref (B + 0)), (0, .ref b)]) (hWX : WF (tq B 0 178) (rq B)) (hWM : WF (tq B 178 186) (rq B)) (hTX : TH D cI cS (tq B 0 178) (rq B) H) (hFX : FX D B H) (hTM : TH D cI cS (tq B 178 186) (rq B) H) (hFM : FM D B H) (hX : va_X b 4 xs s H) (hbB : b < B) (hlo : ∀ x ∈ locs, B ≤ x.base) (l1 : 2 ≤ (xs 1).toInt) (kk : KL p l e s m args below meth c ls Q B b xs) : WL p l e s m args below meth c H locs ls Q 720 := by
  have hx := E.1
  have hb := E.2.1
  have hτX := ttX B
  have hτM := ttM B
  refine lv_aload_n hx hb dL_law_720 rfl (lv_at hl 2 rfl) ?_
  refine lv_aload_n hx hb dL_law_721 rfl (lv_at hl 3 rfl) ?_
  refine lv_iload_n hx hb dL_law_722 rfl (lv_at hl 0 rfl) ?_
  refine lv_iconst (v := 1) hx hb dL_law_723 (by decide) ?_
  refine lv_iadd hx hb dL_law_724 ?_
  refine th_topi (y := 1) (by decide) ?_
  refine lw_sld (j := 1) hx hb hX (by decide) (by decide) (by decide) dL_law_725 ?_
  refine th_Vi (A := fun q => B ≤ q) (As := [.int (xs 1)]) (rest := []) E hml hl.1 (c_X11_cause_v4 l D cI cS (tq B 0 178) (rq B) hWX H hTX (B + 0) (xs 1) hτX l1) lk_L_105 yd_X11_cause hTX hτX rfl (by decide) ⟨rfl, fun _ _ => rfl, hlo⟩ (fun q h => h.elim) ⟨Nat.le_of_ble_eq_true rfl, Nat.le_of_ble_eq_true rfl⟩ (Nat.le_of_ble_eq_true rfl) ⟨Nat.le_of_ble_eq_true rfl, Nat.le_of_ble_eq_true rfl⟩ rfl dL_law_726 (fun r_1 H_1 locs_1 p_1 hT_1 hk_1 hS_1 => ?_)
  refine th_topi (y := (-4)) (show ((-4) : Int32) = r_1 from p_1.2).symm ?_
  have kM : ∀ q, B + 178 ≤ q → H_1[q]? = H[q]? := fun q hq => hk_1 q (fun h => h.elim)
  have hTM := hTM.same (H1 := H_1) (fun q t h => kM q (by obtain ⟨j, rfl, z1, -, -⟩ := tq_some h; omega))
  have hFM := hFM.kept (H1 := H_1) kM
  have hX_1 : va_X b 4 xs s H_1 := hX.kept (hS_1.2.1 b (Nat.not_le.mpr hbB))
  refine lv_aload_n hx hb dL_law_729 rfl (lv_at hl 1 rfl) ?_
  refine lv_aload_n hx hb dL_law_730 rfl (lv_at hl 3 rfl) ?_
  refine lv_iload_n hx hb dL_law_731 rfl (lv_at hl 0 rfl) ?_
  refine lv_iconst (v := 1) hx hb dL_law_732 (by decide) ?_
  refine lv_iadd hx hb dL_law_733 ?_
  refine th_topi (y := 1) (by decide) ?_
  refine lw_sld (j := 1) hx hb hX_1 (by decide) (by decide) (by decide) dL_law_734 ?_
  refine th_Vi (A := fun q => B ≤ q) (As := [.int (xs 1)]) (rest := [.int (-4)]) E hml hl.1 (c_X12_cause_v4 l D cI cS (tq B 178 186) (rq B) hWM H_1 hTM (B + 178) (xs 1) hτM l1 ((hFM.2.2.2.2.1 982 (by decide)).trans (by decide))) lk_L_108 yd_X12_cause hTM hτM rfl (by decide) ⟨rfl, fun _ _ => rfl, hS_1.2.2⟩ (fun q h => h.elim) ⟨Nat.le_of_ble_eq_true rfl, Nat.le_of_ble_eq_true rfl⟩ (Nat.le_of_ble_eq_true rfl) ⟨Nat.le_of_ble_eq_true rfl, Nat.le_of_ble_eq_true rfl⟩ rfl dL_law_735 (fun r_2 H_2 locs_2 p_2 hT_2 hk_2 hS_2 => ?_)
  refine th_topi (y := (-4)) (show ((-4) : Int32) = r_2 from p_2.2).symm ?_
  have hX_2 : va_X b 4 xs s H_2 := hX_1.kept (hS_2.2.1 b (Nat.not_le.mpr hbB))
  refine lv_icmp_eq (tgt := 766) hx hb dL_law_738 (by decide) (fun c_ => ?_) (fun c_ => absurd (by decide) c_)
  exact kk H_2 locs_2 hS_2.2.2 hX_2
theorem w_cause (E : EE p s m args c cL_law RL D cI cS) (hml : c.maxLocals = 4) (hl : lv_has ls 4 [(3, .int 0), (2, .ref (B + 178)), (1, .ref (B + 0)), (0, .ref b)]) (hWX : WF (tq B 0 178) (rq B)) (hWM : WF (tq B 178 186) (rq B)) (hTX : TH D cI cS (tq B 0 178) (rq B) H) (hFX : FX D B H) (hTM : TH D cI cS (tq B 178 186) (rq B) H) (hFM : FM D B H) (hX : va_X b 4 xs s H) (hbB : b < B) (hlo : ∀ x ∈ locs, B ≤ x.base) (kk : KL p l e s m args below meth c ls Q B b xs) : WL p l e s m args below meth c H locs ls Q 720 := by
  rcases (show (xs 1).toInt ≤ -1 ∨ (xs 1).toInt = 0 ∨ (xs 1).toInt = 1 ∨ 2 ≤ (xs 1).toInt by omega) with g1 | t1 | t1 | l1
  · exact w_cause_0 E hml hl hWX hWM hTX hFX hTM hFM hX hbB hlo g1 kk
  · have h1 : xs 1 = 0 := i_eq t1 (by decide)
    exact w_cause_1 E hml hl hWX hWM hTX hFX hTM hFM hX hbB hlo h1 kk
  · have h1 : xs 1 = 1 := i_eq t1 (by decide)
    exact w_cause_2 E hml hl hWX hWM hTX hFX hTM hFM hX hbB hlo h1 kk
  · exact w_cause_3 E hml hl hWX hWM hTX hFX hTM hFM hX hbB hlo l1 kk
set_option maxHeartbeats 4000000 in
set_option maxRecDepth 100000 in
theorem w_count_0 (E : EE p s m args c cL_law RL D cI cS) (hml : c.maxLocals = 4) (hl : lv_has ls 4 [(3, .int 0), (2, .ref (B + 178)), (1, .ref (B + 0)), (0, .ref b)]) (hWX : WF (tq B 0 178) (rq B)) (hWM : WF (tq B 178 186) (rq B)) (hTX : TH D cI cS (tq B 0 178) (rq B) H) (hFX : FX D B H) (hTM : TH D cI cS (tq B 178 186) (rq B) H) (hFM : FM D B H) (hX : va_X b 4 xs s H) (hbB : b < B) (hlo : ∀ x ∈ locs, B ≤ x.base) (g1 : (xs 1).toInt ≤ -1) (kk : KL p l e s m args below meth c ls Q B b xs) : WL p l e s m args below meth c H locs ls Q 743 := by
  have hx := E.1
  have hb := E.2.1
  have hτX := ttX B
  have hτM := ttM B
  refine lv_aload_n hx hb dL_law_743 rfl (lv_at hl 2 rfl) ?_
  refine lv_aload_n hx hb dL_law_744 rfl (lv_at hl 3 rfl) ?_
  refine lv_iload_n hx hb dL_law_745 rfl (lv_at hl 0 rfl) ?_
  refine lv_iconst (v := 1) hx hb dL_law_746 (by decide) ?_
  refine lv_iadd hx hb dL_law_747 ?_
  refine th_topi (y := 1) (by decide) ?_
  refine lw_sld (j := 1) hx hb hX (by decide) (by decide) (by decide) dL_law_748 ?_
  refine th_Vi (A := fun q => B ≤ q) (As := [.int (xs 1)]) (rest := []) E hml hl.1 (c_X11_count l D cI cS (tq B 0 178) (rq B) hWX H hTX (B + 0) (xs 1) hτX g1) lk_L_109 yd_X11_count hTX hτX rfl (by decide) ⟨rfl, fun _ _ => rfl, hlo⟩ (fun q h => h.elim) ⟨Nat.le_of_ble_eq_true rfl, Nat.le_of_ble_eq_true rfl⟩ (Nat.le_of_ble_eq_true rfl) ⟨Nat.le_of_ble_eq_true rfl, Nat.le_of_ble_eq_true rfl⟩ rfl dL_law_749 (fun r_1 H_1 locs_1 p_1 hT_1 hk_1 hS_1 => ?_)
  refine th_topi (y := (-1)) (show ((-1) : Int32) = r_1 from p_1.2).symm ?_
  have kM : ∀ q, B + 178 ≤ q → H_1[q]? = H[q]? := fun q hq => hk_1 q (fun h => h.elim)
  have hTM := hTM.same (H1 := H_1) (fun q t h => kM q (by obtain ⟨j, rfl, z1, -, -⟩ := tq_some h; omega))
  have hFM := hFM.kept (H1 := H_1) kM
  have hX_1 : va_X b 4 xs s H_1 := hX.kept (hS_1.2.1 b (Nat.not_le.mpr hbB))
  refine lv_aload_n hx hb dL_law_752 rfl (lv_at hl 1 rfl) ?_
  refine lv_aload_n hx hb dL_law_753 rfl (lv_at hl 3 rfl) ?_
  refine lv_iload_n hx hb dL_law_754 rfl (lv_at hl 0 rfl) ?_
  refine lv_iconst (v := 1) hx hb dL_law_755 (by decide) ?_
  refine lv_iadd hx hb dL_law_756 ?_
  refine th_topi (y := 1) (by decide) ?_
  refine lw_sld (j := 1) hx hb hX_1 (by decide) (by decide) (by decide) dL_law_757 ?_
  refine th_Vi (A := fun q => B ≤ q) (As := [.int (xs 1)]) (rest := [.int (-1)]) E hml hl.1 (c_X12_count l D cI cS (tq B 178 186) (rq B) hWM H_1 hTM (B + 178) (xs 1) hτM g1) lk_L_112 yd_X12_count hTM hτM rfl (by decide) ⟨rfl, fun _ _ => rfl, hS_1.2.2⟩ (fun q h => h.elim) ⟨Nat.le_of_ble_eq_true rfl, Nat.le_of_ble_eq_true rfl⟩ (Nat.le_of_ble_eq_true rfl) ⟨Nat.le_of_ble_eq_true rfl, Nat.le_of_ble_eq_true rfl⟩ rfl dL_law_758 (fun r_2 H_2 locs_2 p_2 hT_2 hk_2 hS_2 => ?_)
  refine th_topi (y := (-1)) (show ((-1) : Int32) = r_2 from p_2.2).symm ?_
  have hX_2 : va_X b 4 xs s H_2 := hX_1.kept (hS_2.2.1 b (Nat.not_le.mpr hbB))
  refine lv_icmp_eq (tgt := 766) hx hb dL_law_761 (by decide) (fun c_ => ?_) (fun c_ => absurd (by decide) c_)
  exact kk H_2 locs_2 hS_2.2.2 hX_2
set_option maxHeartbeats 4000000 in
set_option maxRecDepth 100000 in
theorem w_count_1 (E : EE p s m args c cL_law RL D cI cS) (hml : c.maxLocals = 4) (hl : lv_has ls 4 [(3, .int 0), (2, .ref (B + 178)), (1, .ref (B + 0)), (0, .ref b)]) (hWX : WF (tq B 0 178) (rq B)) (hWM : WF (tq B 178 186) (rq B)) (hTX : TH D cI cS (tq B 0 178) (rq B) H) (hFX : FX D B H) (hTM : TH D cI cS (tq B 178 186) (rq B) H) (hFM : FM D B H) (hX : va_X b 4 xs s H) (hbB : b < B) (hlo : ∀ x ∈ locs, B ≤ x.base) (h1 : xs 1 = 0) (kk : KL p l e s m args below meth c ls Q B b xs) : WL p l e s m args below meth c H locs ls Q 743 := by
  have hx := E.1
  have hb := E.2.1
  have hτX := ttX B
  have hτM := ttM B
  refine lv_aload_n hx hb dL_law_743 rfl (lv_at hl 2 rfl) ?_
  refine lv_aload_n hx hb dL_law_744 rfl (lv_at hl 3 rfl) ?_
  refine lv_iload_n hx hb dL_law_745 rfl (lv_at hl 0 rfl) ?_
  refine lv_iconst (v := 1) hx hb dL_law_746 (by decide) ?_
  refine lv_iadd hx hb dL_law_747 ?_
  refine th_topi (y := 1) (by decide) ?_
  refine lw_sld (j := 1) hx hb hX (by decide) (by decide) (by decide) dL_law_748 ?_
  refine th_topi h1 ?_
  refine th_Vi (A := fun q => B ≤ q) (As := [.int 0]) (rest := []) E hml hl.1 (c_X11_count_v2 l D cI cS (tq B 0 178) (rq B) hWX H hTX (B + 0) hτX hFX.2.2.2.2.2.1) lk_L_109 yd_X11_count hTX hτX rfl (by decide) ⟨rfl, fun _ _ => rfl, hlo⟩ (fun q h => h.elim) ⟨Nat.le_of_ble_eq_true rfl, Nat.le_of_ble_eq_true rfl⟩ (Nat.le_of_ble_eq_true rfl) ⟨Nat.le_of_ble_eq_true rfl, Nat.le_of_ble_eq_true rfl⟩ rfl dL_law_749 (fun r_1 H_1 locs_1 p_1 hT_1 hk_1 hS_1 => ?_)
  refine th_topi (y := 4) (show (4 : Int32) = r_1 from p_1.2).symm ?_
  have kM : ∀ q, B + 178 ≤ q → H_1[q]? = H[q]? := fun q hq => hk_1 q (fun h => h.elim)
  have hTM := hTM.same (H1 := H_1) (fun q t h => kM q (by obtain ⟨j, rfl, z1, -, -⟩ := tq_some h; omega))
  have hFM := hFM.kept (H1 := H_1) kM
  have hX_1 : va_X b 4 xs s H_1 := hX.kept (hS_1.2.1 b (Nat.not_le.mpr hbB))
  refine lv_aload_n hx hb dL_law_752 rfl (lv_at hl 1 rfl) ?_
  refine lv_aload_n hx hb dL_law_753 rfl (lv_at hl 3 rfl) ?_
  refine lv_iload_n hx hb dL_law_754 rfl (lv_at hl 0 rfl) ?_
  refine lv_iconst (v := 1) hx hb dL_law_755 (by decide) ?_
  refine lv_iadd hx hb dL_law_756 ?_
  refine th_topi (y := 1) (by decide) ?_
  refine lw_sld (j := 1) hx hb hX_1 (by decide) (by decide) (by decide) dL_law_757 ?_
  refine th_topi h1 ?_
  refine th_Vi (A := fun q => B ≤ q) (As := [.int 0]) (rest := [.int 4]) E hml hl.1 (c_X12_count_v2 l D cI cS (tq B 178 186) (rq B) hWM H_1 hTM (B + 178) hτM hFM.2.1) lk_L_112 yd_X12_count hTM hτM rfl (by decide) ⟨rfl, fun _ _ => rfl, hS_1.2.2⟩ (fun q h => h.elim) ⟨Nat.le_of_ble_eq_true rfl, Nat.le_of_ble_eq_true rfl⟩ (Nat.le_of_ble_eq_true rfl) ⟨Nat.le_of_ble_eq_true rfl, Nat.le_of_ble_eq_true rfl⟩ rfl dL_law_758 (fun r_2 H_2 locs_2 p_2 hT_2 hk_2 hS_2 => ?_)
  refine th_topi (y := 4) (show (4 : Int32) = r_2 from p_2.2).symm ?_
  have hX_2 : va_X b 4 xs s H_2 := hX_1.kept (hS_2.2.1 b (Nat.not_le.mpr hbB))
  refine lv_icmp_eq (tgt := 766) hx hb dL_law_761 (by decide) (fun c_ => ?_) (fun c_ => absurd (by decide) c_)
  exact kk H_2 locs_2 hS_2.2.2 hX_2
set_option maxHeartbeats 4000000 in
set_option maxRecDepth 100000 in
theorem w_count_2 (E : EE p s m args c cL_law RL D cI cS) (hml : c.maxLocals = 4) (hl : lv_has ls 4 [(3, .int 0), (2, .ref (B + 178)), (1, .ref (B + 0)), (0, .ref b)]) (hWX : WF (tq B 0 178) (rq B)) (hWM : WF (tq B 178 186) (rq B)) (hTX : TH D cI cS (tq B 0 178) (rq B) H) (hFX : FX D B H) (hTM : TH D cI cS (tq B 178 186) (rq B) H) (hFM : FM D B H) (hX : va_X b 4 xs s H) (hbB : b < B) (hlo : ∀ x ∈ locs, B ≤ x.base) (h1 : xs 1 = 1) (kk : KL p l e s m args below meth c ls Q B b xs) : WL p l e s m args below meth c H locs ls Q 743 := by
  have hx := E.1
  have hb := E.2.1
  have hτX := ttX B
  have hτM := ttM B
  refine lv_aload_n hx hb dL_law_743 rfl (lv_at hl 2 rfl) ?_
  refine lv_aload_n hx hb dL_law_744 rfl (lv_at hl 3 rfl) ?_
  refine lv_iload_n hx hb dL_law_745 rfl (lv_at hl 0 rfl) ?_
  refine lv_iconst (v := 1) hx hb dL_law_746 (by decide) ?_
  refine lv_iadd hx hb dL_law_747 ?_
  refine th_topi (y := 1) (by decide) ?_
  refine lw_sld (j := 1) hx hb hX (by decide) (by decide) (by decide) dL_law_748 ?_
  refine th_topi h1 ?_
  refine th_Vi (A := fun q => B ≤ q) (As := [.int 1]) (rest := []) E hml hl.1 (c_X11_count_v3 l D cI cS (tq B 0 178) (rq B) hWX H hTX (B + 0) hτX hFX.2.2.2.2.1) lk_L_109 yd_X11_count hTX hτX rfl (by decide) ⟨rfl, fun _ _ => rfl, hlo⟩ (fun q h => h.elim) ⟨Nat.le_of_ble_eq_true rfl, Nat.le_of_ble_eq_true rfl⟩ (Nat.le_of_ble_eq_true rfl) ⟨Nat.le_of_ble_eq_true rfl, Nat.le_of_ble_eq_true rfl⟩ rfl dL_law_749 (fun r_1 H_1 locs_1 p_1 hT_1 hk_1 hS_1 => ?_)
  refine th_topi (y := 12) (show (12 : Int32) = r_1 from p_1.2).symm ?_
  have kM : ∀ q, B + 178 ≤ q → H_1[q]? = H[q]? := fun q hq => hk_1 q (fun h => h.elim)
  have hTM := hTM.same (H1 := H_1) (fun q t h => kM q (by obtain ⟨j, rfl, z1, -, -⟩ := tq_some h; omega))
  have hFM := hFM.kept (H1 := H_1) kM
  have hX_1 : va_X b 4 xs s H_1 := hX.kept (hS_1.2.1 b (Nat.not_le.mpr hbB))
  refine lv_aload_n hx hb dL_law_752 rfl (lv_at hl 1 rfl) ?_
  refine lv_aload_n hx hb dL_law_753 rfl (lv_at hl 3 rfl) ?_
  refine lv_iload_n hx hb dL_law_754 rfl (lv_at hl 0 rfl) ?_
  refine lv_iconst (v := 1) hx hb dL_law_755 (by decide) ?_
  refine lv_iadd hx hb dL_law_756 ?_
  refine th_topi (y := 1) (by decide) ?_
  refine lw_sld (j := 1) hx hb hX_1 (by decide) (by decide) (by decide) dL_law_757 ?_
  refine th_topi h1 ?_
  refine th_Vi (A := fun q => B ≤ q) (As := [.int 1]) (rest := [.int 12]) E hml hl.1 (c_X12_count_v3 l D cI cS (tq B 178 186) (rq B) hWM H_1 hTM (B + 178) hτM hFM.2.2.1) lk_L_112 yd_X12_count hTM hτM rfl (by decide) ⟨rfl, fun _ _ => rfl, hS_1.2.2⟩ (fun q h => h.elim) ⟨Nat.le_of_ble_eq_true rfl, Nat.le_of_ble_eq_true rfl⟩ (Nat.le_of_ble_eq_true rfl) ⟨Nat.le_of_ble_eq_true rfl, Nat.le_of_ble_eq_true rfl⟩ rfl dL_law_758 (fun r_2 H_2 locs_2 p_2 hT_2 hk_2 hS_2 => ?_)
  refine th_topi (y := 12) (show (12 : Int32) = r_2 from p_2.2).symm ?_
  have hX_2 : va_X b 4 xs s H_2 := hX_1.kept (hS_2.2.1 b (Nat.not_le.mpr hbB))
  refine lv_icmp_eq (tgt := 766) hx hb dL_law_761 (by decide) (fun c_ => ?_) (fun c_ => absurd (by decide) c_)
  exact kk H_2 locs_2 hS_2.2.2 hX_2
set_option maxHeartbeats 4000000 in
set_option maxRecDepth 100000 in
theorem w_count_3 (E : EE p s m args c cL_law RL D cI cS) (hml : c.maxLocals = 4) (hl : lv_has ls 4 [(3, .int 0), (2, .ref (B + 178)), (1, .ref (B + 0)), (0, .ref b)]) (hWX : WF (tq B 0 178) (rq B)) (hWM : WF (tq B 178 186) (rq B)) (hTX : TH D cI cS (tq B 0 178) (rq B) H) (hFX : FX D B H) (hTM : TH D cI cS (tq B 178 186) (rq B) H) (hFM : FM D B H) (hX : va_X b 4 xs s H) (hbB : b < B) (hlo : ∀ x ∈ locs, B ≤ x.base) (h1 : xs 1 = 2) (kk : KL p l e s m args below meth c ls Q B b xs) : WL p l e s m args below meth c H locs ls Q 743 := by
  have hx := E.1
  have hb := E.2.1
  have hτX := ttX B
  have hτM := ttM B
  refine lv_aload_n hx hb dL_law_743 rfl (lv_at hl 2 rfl) ?_
  refine lv_aload_n hx hb dL_law_744 rfl (lv_at hl 3 rfl) ?_
  refine lv_iload_n hx hb dL_law_745 rfl (lv_at hl 0 rfl) ?_
  refine lv_iconst (v := 1) hx hb dL_law_746 (by decide) ?_
  refine lv_iadd hx hb dL_law_747 ?_
  refine th_topi (y := 1) (by decide) ?_
  refine lw_sld (j := 1) hx hb hX (by decide) (by decide) (by decide) dL_law_748 ?_
  refine th_topi h1 ?_
  refine th_Vi (A := fun q => B ≤ q) (As := [.int 2]) (rest := []) E hml hl.1 (c_X11_count_v4 l D cI cS (tq B 0 178) (rq B) hWX H hTX (B + 0) hτX hFX.2.2.2.1) lk_L_109 yd_X11_count hTX hτX rfl (by decide) ⟨rfl, fun _ _ => rfl, hlo⟩ (fun q h => h.elim) ⟨Nat.le_of_ble_eq_true rfl, Nat.le_of_ble_eq_true rfl⟩ (Nat.le_of_ble_eq_true rfl) ⟨Nat.le_of_ble_eq_true rfl, Nat.le_of_ble_eq_true rfl⟩ rfl dL_law_749 (fun r_1 H_1 locs_1 p_1 hT_1 hk_1 hS_1 => ?_)
  refine th_topi (y := 250) (show (250 : Int32) = r_1 from p_1.2).symm ?_
  have kM : ∀ q, B + 178 ≤ q → H_1[q]? = H[q]? := fun q hq => hk_1 q (fun h => h.elim)
  have hTM := hTM.same (H1 := H_1) (fun q t h => kM q (by obtain ⟨j, rfl, z1, -, -⟩ := tq_some h; omega))
  have hFM := hFM.kept (H1 := H_1) kM
  have hX_1 : va_X b 4 xs s H_1 := hX.kept (hS_1.2.1 b (Nat.not_le.mpr hbB))
  refine lv_aload_n hx hb dL_law_752 rfl (lv_at hl 1 rfl) ?_
  refine lv_aload_n hx hb dL_law_753 rfl (lv_at hl 3 rfl) ?_
  refine lv_iload_n hx hb dL_law_754 rfl (lv_at hl 0 rfl) ?_
  refine lv_iconst (v := 1) hx hb dL_law_755 (by decide) ?_
  refine lv_iadd hx hb dL_law_756 ?_
  refine th_topi (y := 1) (by decide) ?_
  refine lw_sld (j := 1) hx hb hX_1 (by decide) (by decide) (by decide) dL_law_757 ?_
  refine th_topi h1 ?_
  refine th_Vi (A := fun q => B ≤ q) (As := [.int 2]) (rest := [.int 250]) E hml hl.1 (c_X12_count_v4 l D cI cS (tq B 178 186) (rq B) hWM H_1 hTM (B + 178) hτM hFM.2.2.2.2.2.1) lk_L_112 yd_X12_count hTM hτM rfl (by decide) ⟨rfl, fun _ _ => rfl, hS_1.2.2⟩ (fun q h => h.elim) ⟨Nat.le_of_ble_eq_true rfl, Nat.le_of_ble_eq_true rfl⟩ (Nat.le_of_ble_eq_true rfl) ⟨Nat.le_of_ble_eq_true rfl, Nat.le_of_ble_eq_true rfl⟩ rfl dL_law_758 (fun r_2 H_2 locs_2 p_2 hT_2 hk_2 hS_2 => ?_)
  refine th_topi (y := 250) (show (250 : Int32) = r_2 from p_2.2).symm ?_
  have hX_2 : va_X b 4 xs s H_2 := hX_1.kept (hS_2.2.1 b (Nat.not_le.mpr hbB))
  refine lv_icmp_eq (tgt := 766) hx hb dL_law_761 (by decide) (fun c_ => ?_) (fun c_ => absurd (by decide) c_)
  exact kk H_2 locs_2 hS_2.2.2 hX_2
set_option maxHeartbeats 4000000 in
set_option maxRecDepth 100000 in
theorem w_count_4 (E : EE p s m args c cL_law RL D cI cS) (hml : c.maxLocals = 4) (hl : lv_has ls 4 [(3, .int 0), (2, .ref (B + 178)), (1, .ref (B + 0)), (0, .ref b)]) (hWX : WF (tq B 0 178) (rq B)) (hWM : WF (tq B 178 186) (rq B)) (hTX : TH D cI cS (tq B 0 178) (rq B) H) (hFX : FX D B H) (hTM : TH D cI cS (tq B 178 186) (rq B) H) (hFM : FM D B H) (hX : va_X b 4 xs s H) (hbB : b < B) (hlo : ∀ x ∈ locs, B ≤ x.base) (h1 : xs 1 = 3) (kk : KL p l e s m args below meth c ls Q B b xs) : WL p l e s m args below meth c H locs ls Q 743 := by
  have hx := E.1
  have hb := E.2.1
  have hτX := ttX B
  have hτM := ttM B
  refine lv_aload_n hx hb dL_law_743 rfl (lv_at hl 2 rfl) ?_
  refine lv_aload_n hx hb dL_law_744 rfl (lv_at hl 3 rfl) ?_
  refine lv_iload_n hx hb dL_law_745 rfl (lv_at hl 0 rfl) ?_
  refine lv_iconst (v := 1) hx hb dL_law_746 (by decide) ?_
  refine lv_iadd hx hb dL_law_747 ?_
  refine th_topi (y := 1) (by decide) ?_
  refine lw_sld (j := 1) hx hb hX (by decide) (by decide) (by decide) dL_law_748 ?_
  refine th_topi h1 ?_
  refine th_Vi (A := fun q => B ≤ q) (As := [.int 3]) (rest := []) E hml hl.1 (c_X11_count_v5 l D cI cS (tq B 0 178) (rq B) hWX H hTX (B + 0) hτX hFX.2.2.1) lk_L_109 yd_X11_count hTX hτX rfl (by decide) ⟨rfl, fun _ _ => rfl, hlo⟩ (fun q h => h.elim) ⟨Nat.le_of_ble_eq_true rfl, Nat.le_of_ble_eq_true rfl⟩ (Nat.le_of_ble_eq_true rfl) ⟨Nat.le_of_ble_eq_true rfl, Nat.le_of_ble_eq_true rfl⟩ rfl dL_law_749 (fun r_1 H_1 locs_1 p_1 hT_1 hk_1 hS_1 => ?_)
  refine th_topi (y := 100) (show (100 : Int32) = r_1 from p_1.2).symm ?_
  have kM : ∀ q, B + 178 ≤ q → H_1[q]? = H[q]? := fun q hq => hk_1 q (fun h => h.elim)
  have hTM := hTM.same (H1 := H_1) (fun q t h => kM q (by obtain ⟨j, rfl, z1, -, -⟩ := tq_some h; omega))
  have hFM := hFM.kept (H1 := H_1) kM
  have hX_1 : va_X b 4 xs s H_1 := hX.kept (hS_1.2.1 b (Nat.not_le.mpr hbB))
  refine lv_aload_n hx hb dL_law_752 rfl (lv_at hl 1 rfl) ?_
  refine lv_aload_n hx hb dL_law_753 rfl (lv_at hl 3 rfl) ?_
  refine lv_iload_n hx hb dL_law_754 rfl (lv_at hl 0 rfl) ?_
  refine lv_iconst (v := 1) hx hb dL_law_755 (by decide) ?_
  refine lv_iadd hx hb dL_law_756 ?_
  refine th_topi (y := 1) (by decide) ?_
  refine lw_sld (j := 1) hx hb hX_1 (by decide) (by decide) (by decide) dL_law_757 ?_
  refine th_topi h1 ?_
  refine th_Vi (A := fun q => B ≤ q) (As := [.int 3]) (rest := [.int 100]) E hml hl.1 (c_X12_count_v5 l D cI cS (tq B 178 186) (rq B) hWM H_1 hTM (B + 178) hτM hFM.2.2.2.2.2.2) lk_L_112 yd_X12_count hTM hτM rfl (by decide) ⟨rfl, fun _ _ => rfl, hS_1.2.2⟩ (fun q h => h.elim) ⟨Nat.le_of_ble_eq_true rfl, Nat.le_of_ble_eq_true rfl⟩ (Nat.le_of_ble_eq_true rfl) ⟨Nat.le_of_ble_eq_true rfl, Nat.le_of_ble_eq_true rfl⟩ rfl dL_law_758 (fun r_2 H_2 locs_2 p_2 hT_2 hk_2 hS_2 => ?_)
  refine th_topi (y := 100) (show (100 : Int32) = r_2 from p_2.2).symm ?_
  have hX_2 : va_X b 4 xs s H_2 := hX_1.kept (hS_2.2.1 b (Nat.not_le.mpr hbB))
  refine lv_icmp_eq (tgt := 766) hx hb dL_law_761 (by decide) (fun c_ => ?_) (fun c_ => absurd (by decide) c_)
  exact kk H_2 locs_2 hS_2.2.2 hX_2
set_option maxHeartbeats 4000000 in
set_option maxRecDepth 100000 in
theorem w_count_5 (E : EE p s m args c cL_law RL D cI cS) (hml : c.maxLocals = 4) (hl : lv_has ls 4 [(3, .int 0), (2, .ref (B + 178)), (1, .ref (B + 0)), (0, .ref b)]) (hWX : WF (tq B 0 178) (rq B)) (hWM : WF (tq B 178 186) (rq B)) (hTX : TH D cI cS (tq B 0 178) (rq B) H) (hFX : FX D B H) (hTM : TH D cI cS (tq B 178 186) (rq B) H) (hFM : FM D B H) (hX : va_X b 4 xs s H) (hbB : b < B) (hlo : ∀ x ∈ locs, B ≤ x.base) (h1 : xs 1 = 4) (kk : KL p l e s m args below meth c ls Q B b xs) : WL p l e s m args below meth c H locs ls Q 743 := by
  have hx := E.1
  have hb := E.2.1
  have hτX := ttX B
  have hτM := ttM B
  refine lv_aload_n hx hb dL_law_743 rfl (lv_at hl 2 rfl) ?_
  refine lv_aload_n hx hb dL_law_744 rfl (lv_at hl 3 rfl) ?_
  refine lv_iload_n hx hb dL_law_745 rfl (lv_at hl 0 rfl) ?_
  refine lv_iconst (v := 1) hx hb dL_law_746 (by decide) ?_
  refine lv_iadd hx hb dL_law_747 ?_
  refine th_topi (y := 1) (by decide) ?_
  refine lw_sld (j := 1) hx hb hX (by decide) (by decide) (by decide) dL_law_748 ?_
  refine th_topi h1 ?_
  refine th_Vi (A := fun q => B ≤ q) (As := [.int 4]) (rest := []) E hml hl.1 (c_X11_count_v6 l D cI cS (tq B 0 178) (rq B) hWX H hTX (B + 0) hτX hFX.2.1) lk_L_109 yd_X11_count hTX hτX rfl (by decide) ⟨rfl, fun _ _ => rfl, hlo⟩ (fun q h => h.elim) ⟨Nat.le_of_ble_eq_true rfl, Nat.le_of_ble_eq_true rfl⟩ (Nat.le_of_ble_eq_true rfl) ⟨Nat.le_of_ble_eq_true rfl, Nat.le_of_ble_eq_true rfl⟩ rfl dL_law_749 (fun r_1 H_1 locs_1 p_1 hT_1 hk_1 hS_1 => ?_)
  refine th_topi (y := 5) (show (5 : Int32) = r_1 from p_1.2).symm ?_
  have kM : ∀ q, B + 178 ≤ q → H_1[q]? = H[q]? := fun q hq => hk_1 q (fun h => h.elim)
  have hTM := hTM.same (H1 := H_1) (fun q t h => kM q (by obtain ⟨j, rfl, z1, -, -⟩ := tq_some h; omega))
  have hFM := hFM.kept (H1 := H_1) kM
  have hX_1 : va_X b 4 xs s H_1 := hX.kept (hS_1.2.1 b (Nat.not_le.mpr hbB))
  refine lv_aload_n hx hb dL_law_752 rfl (lv_at hl 1 rfl) ?_
  refine lv_aload_n hx hb dL_law_753 rfl (lv_at hl 3 rfl) ?_
  refine lv_iload_n hx hb dL_law_754 rfl (lv_at hl 0 rfl) ?_
  refine lv_iconst (v := 1) hx hb dL_law_755 (by decide) ?_
  refine lv_iadd hx hb dL_law_756 ?_
  refine th_topi (y := 1) (by decide) ?_
  refine lw_sld (j := 1) hx hb hX_1 (by decide) (by decide) (by decide) dL_law_757 ?_
  refine th_topi h1 ?_
  refine th_Vi (A := fun q => B ≤ q) (As := [.int 4]) (rest := [.int 5]) E hml hl.1 (c_X12_count_v6 l D cI cS (tq B 178 186) (rq B) hWM H_1 hTM (B + 178) hτM hFM.2.2.2.1) lk_L_112 yd_X12_count hTM hτM rfl (by decide) ⟨rfl, fun _ _ => rfl, hS_1.2.2⟩ (fun q h => h.elim) ⟨Nat.le_of_ble_eq_true rfl, Nat.le_of_ble_eq_true rfl⟩ (Nat.le_of_ble_eq_true rfl) ⟨Nat.le_of_ble_eq_true rfl, Nat.le_of_ble_eq_true rfl⟩ rfl dL_law_758 (fun r_2 H_2 locs_2 p_2 hT_2 hk_2 hS_2 => ?_)
  refine th_topi (y := 5) (show (5 : Int32) = r_2 from p_2.2).symm ?_
  have hX_2 : va_X b 4 xs s H_2 := hX_1.kept (hS_2.2.1 b (Nat.not_le.mpr hbB))
  refine lv_icmp_eq (tgt := 766) hx hb dL_law_761 (by decide) (fun c_ => ?_) (fun c_ => absurd (by decide) c_)
  exact kk H_2 locs_2 hS_2.2.2 hX_2
set_option maxHeartbeats 4000000 in
set_option maxRecDepth 100000 in
theorem w_count_6 (E : EE p s m args c cL_law RL D cI cS) (hml : c.maxLocals = 4) (hl : lv_has ls 4 [(3, .int 0), (2, .ref (B + 178)), (1, .ref (B + 0)), (0, .ref b)]) (hWX : WF (tq B 0 178) (rq B)) (hWM : WF (tq B 178 186) (rq B)) (hTX : TH D cI cS (tq B 0 178) (rq B) H) (hFX : FX D B H) (hTM : TH D cI cS (tq B 178 186) (rq B) H) (hFM : FM D B H) (hX : va_X b 4 xs s H) (hbB : b < B) (hlo : ∀ x ∈ locs, B ≤ x.base) (h1 : xs 1 = 5) (kk : KL p l e s m args below meth c ls Q B b xs) : WL p l e s m args below meth c H locs ls Q 743 := by
  have hx := E.1
  have hb := E.2.1
  have hτX := ttX B
  have hτM := ttM B
  refine lv_aload_n hx hb dL_law_743 rfl (lv_at hl 2 rfl) ?_
  refine lv_aload_n hx hb dL_law_744 rfl (lv_at hl 3 rfl) ?_
  refine lv_iload_n hx hb dL_law_745 rfl (lv_at hl 0 rfl) ?_
  refine lv_iconst (v := 1) hx hb dL_law_746 (by decide) ?_
  refine lv_iadd hx hb dL_law_747 ?_
  refine th_topi (y := 1) (by decide) ?_
  refine lw_sld (j := 1) hx hb hX (by decide) (by decide) (by decide) dL_law_748 ?_
  refine th_topi h1 ?_
  refine th_Vi (A := fun q => B ≤ q) (As := [.int 5]) (rest := []) E hml hl.1 (c_X11_count_v7 l D cI cS (tq B 0 178) (rq B) hWX H hTX (B + 0) hτX hFX.2.2.2.2.2.2.2.2.2.1) lk_L_109 yd_X11_count hTX hτX rfl (by decide) ⟨rfl, fun _ _ => rfl, hlo⟩ (fun q h => h.elim) ⟨Nat.le_of_ble_eq_true rfl, Nat.le_of_ble_eq_true rfl⟩ (Nat.le_of_ble_eq_true rfl) ⟨Nat.le_of_ble_eq_true rfl, Nat.le_of_ble_eq_true rfl⟩ rfl dL_law_749 (fun r_1 H_1 locs_1 p_1 hT_1 hk_1 hS_1 => ?_)
  refine th_topi (y := 0) (show (0 : Int32) = r_1 from p_1.2).symm ?_
  have kM : ∀ q, B + 178 ≤ q → H_1[q]? = H[q]? := fun q hq => hk_1 q (fun h => h.elim)
  have hTM := hTM.same (H1 := H_1) (fun q t h => kM q (by obtain ⟨j, rfl, z1, -, -⟩ := tq_some h; omega))
  have hFM := hFM.kept (H1 := H_1) kM
  have hX_1 : va_X b 4 xs s H_1 := hX.kept (hS_1.2.1 b (Nat.not_le.mpr hbB))
  refine lv_aload_n hx hb dL_law_752 rfl (lv_at hl 1 rfl) ?_
  refine lv_aload_n hx hb dL_law_753 rfl (lv_at hl 3 rfl) ?_
  refine lv_iload_n hx hb dL_law_754 rfl (lv_at hl 0 rfl) ?_
  refine lv_iconst (v := 1) hx hb dL_law_755 (by decide) ?_
  refine lv_iadd hx hb dL_law_756 ?_
  refine th_topi (y := 1) (by decide) ?_
  refine lw_sld (j := 1) hx hb hX_1 (by decide) (by decide) (by decide) dL_law_757 ?_
  refine th_topi h1 ?_
  refine th_Vi (A := fun q => B ≤ q) (As := [.int 5]) (rest := [.int 0]) E hml hl.1 (c_X12_count_v7 l D cI cS (tq B 178 186) (rq B) hWM H_1 hTM (B + 178) hτM ((hFM.2.2.2.2.1 976 (by decide)).trans (by decide))) lk_L_112 yd_X12_count hTM hτM rfl (by decide) ⟨rfl, fun _ _ => rfl, hS_1.2.2⟩ (fun q h => h.elim) ⟨Nat.le_of_ble_eq_true rfl, Nat.le_of_ble_eq_true rfl⟩ (Nat.le_of_ble_eq_true rfl) ⟨Nat.le_of_ble_eq_true rfl, Nat.le_of_ble_eq_true rfl⟩ rfl dL_law_758 (fun r_2 H_2 locs_2 p_2 hT_2 hk_2 hS_2 => ?_)
  refine th_topi (y := 0) (show (0 : Int32) = r_2 from p_2.2).symm ?_
  have hX_2 : va_X b 4 xs s H_2 := hX_1.kept (hS_2.2.1 b (Nat.not_le.mpr hbB))
  refine lv_icmp_eq (tgt := 766) hx hb dL_law_761 (by decide) (fun c_ => ?_) (fun c_ => absurd (by decide) c_)
  exact kk H_2 locs_2 hS_2.2.2 hX_2
set_option maxHeartbeats 4000000 in
set_option maxRecDepth 100000 in
theorem w_count_7 (E : EE p s m args c cL_law RL D cI cS) (hml : c.maxLocals = 4) (hl : lv_has ls 4 [(3, .int 0), (2, .ref (B + 178)), (1, .ref (B + 0)), (0, .ref b)]) (hWX : WF (tq B 0 178) (rq B)) (hWM : WF (tq B 178 186) (rq B)) (hTX : TH D cI cS (tq B 0 178) (rq B) H) (hFX : FX D B H) (hTM : TH D cI cS (tq B 178 186) (rq B) H) (hFM : FM D B H) (hX : va_X b 4 xs s H) (hbB : b < B) (hlo : ∀ x ∈ locs, B ≤ x.base) (h1 : xs 1 = 6) (kk : KL p l e s m args below meth c ls Q B b xs) : WL p l e s m args below meth c H locs ls Q 743 := by
  have hx := E.1
  have hb := E.2.1
  have hτX := ttX B
  have hτM := ttM B
  refine lv_aload_n hx hb dL_law_743 rfl (lv_at hl 2 rfl) ?_
  refine lv_aload_n hx hb dL_law_744 rfl (lv_at hl 3 rfl) ?_
  refine lv_iload_n hx hb dL_law_745 rfl (lv_at hl 0 rfl) ?_
  refine lv_iconst (v := 1) hx hb dL_law_746 (by decide) ?_
  refine lv_iadd hx hb dL_law_747 ?_
  refine th_topi (y := 1) (by decide) ?_
  refine lw_sld (j := 1) hx hb hX (by decide) (by decide) (by decide) dL_law_748 ?_
  refine th_topi h1 ?_
  refine th_Vi (A := fun q => B ≤ q) (As := [.int 6]) (rest := []) E hml hl.1 (c_X11_count_v8 l D cI cS (tq B 0 178) (rq B) hWX H hTX (B + 0) hτX hFX.2.2.2.2.2.2.2.2.2.2.1) lk_L_109 yd_X11_count hTX hτX rfl (by decide) ⟨rfl, fun _ _ => rfl, hlo⟩ (fun q h => h.elim) ⟨Nat.le_of_ble_eq_true rfl, Nat.le_of_ble_eq_true rfl⟩ (Nat.le_of_ble_eq_true rfl) ⟨Nat.le_of_ble_eq_true rfl, Nat.le_of_ble_eq_true rfl⟩ rfl dL_law_749 (fun r_1 H_1 locs_1 p_1 hT_1 hk_1 hS_1 => ?_)
  refine th_topi (y := 0) (show (0 : Int32) = r_1 from p_1.2).symm ?_
  have kM : ∀ q, B + 178 ≤ q → H_1[q]? = H[q]? := fun q hq => hk_1 q (fun h => h.elim)
  have hTM := hTM.same (H1 := H_1) (fun q t h => kM q (by obtain ⟨j, rfl, z1, -, -⟩ := tq_some h; omega))
  have hFM := hFM.kept (H1 := H_1) kM
  have hX_1 : va_X b 4 xs s H_1 := hX.kept (hS_1.2.1 b (Nat.not_le.mpr hbB))
  refine lv_aload_n hx hb dL_law_752 rfl (lv_at hl 1 rfl) ?_
  refine lv_aload_n hx hb dL_law_753 rfl (lv_at hl 3 rfl) ?_
  refine lv_iload_n hx hb dL_law_754 rfl (lv_at hl 0 rfl) ?_
  refine lv_iconst (v := 1) hx hb dL_law_755 (by decide) ?_
  refine lv_iadd hx hb dL_law_756 ?_
  refine th_topi (y := 1) (by decide) ?_
  refine lw_sld (j := 1) hx hb hX_1 (by decide) (by decide) (by decide) dL_law_757 ?_
  refine th_topi h1 ?_
  refine th_Vi (A := fun q => B ≤ q) (As := [.int 6]) (rest := [.int 0]) E hml hl.1 (c_X12_count_v8 l D cI cS (tq B 178 186) (rq B) hWM H_1 hTM (B + 178) hτM ((hFM.2.2.2.2.1 977 (by decide)).trans (by decide))) lk_L_112 yd_X12_count hTM hτM rfl (by decide) ⟨rfl, fun _ _ => rfl, hS_1.2.2⟩ (fun q h => h.elim) ⟨Nat.le_of_ble_eq_true rfl, Nat.le_of_ble_eq_true rfl⟩ (Nat.le_of_ble_eq_true rfl) ⟨Nat.le_of_ble_eq_true rfl, Nat.le_of_ble_eq_true rfl⟩ rfl dL_law_758 (fun r_2 H_2 locs_2 p_2 hT_2 hk_2 hS_2 => ?_)
  refine th_topi (y := 0) (show (0 : Int32) = r_2 from p_2.2).symm ?_
  have hX_2 : va_X b 4 xs s H_2 := hX_1.kept (hS_2.2.1 b (Nat.not_le.mpr hbB))
  refine lv_icmp_eq (tgt := 766) hx hb dL_law_761 (by decide) (fun c_ => ?_) (fun c_ => absurd (by decide) c_)
  exact kk H_2 locs_2 hS_2.2.2 hX_2
set_option maxHeartbeats 4000000 in
set_option maxRecDepth 100000 in
theorem w_count_8 (E : EE p s m args c cL_law RL D cI cS) (hml : c.maxLocals = 4) (hl : lv_has ls 4 [(3, .int 0), (2, .ref (B + 178)), (1, .ref (B + 0)), (0, .ref b)]) (hWX : WF (tq B 0 178) (rq B)) (hWM : WF (tq B 178 186) (rq B)) (hTX : TH D cI cS (tq B 0 178) (rq B) H) (hFX : FX D B H) (hTM : TH D cI cS (tq B 178 186) (rq B) H) (hFM : FM D B H) (hX : va_X b 4 xs s H) (hbB : b < B) (hlo : ∀ x ∈ locs, B ≤ x.base) (h1 : xs 1 = 7) (kk : KL p l e s m args below meth c ls Q B b xs) : WL p l e s m args below meth c H locs ls Q 743 := by
  have hx := E.1
  have hb := E.2.1
  have hτX := ttX B
  have hτM := ttM B
  refine lv_aload_n hx hb dL_law_743 rfl (lv_at hl 2 rfl) ?_
  refine lv_aload_n hx hb dL_law_744 rfl (lv_at hl 3 rfl) ?_
  refine lv_iload_n hx hb dL_law_745 rfl (lv_at hl 0 rfl) ?_
  refine lv_iconst (v := 1) hx hb dL_law_746 (by decide) ?_
  refine lv_iadd hx hb dL_law_747 ?_
  refine th_topi (y := 1) (by decide) ?_
  refine lw_sld (j := 1) hx hb hX (by decide) (by decide) (by decide) dL_law_748 ?_
  refine th_topi h1 ?_
  refine th_Vi (A := fun q => B ≤ q) (As := [.int 7]) (rest := []) E hml hl.1 (c_X11_count_v9 l D cI cS (tq B 0 178) (rq B) hWX H hTX (B + 0) hτX hFX.2.2.2.2.2.2.2.2.1) lk_L_109 yd_X11_count hTX hτX rfl (by decide) ⟨rfl, fun _ _ => rfl, hlo⟩ (fun q h => h.elim) ⟨Nat.le_of_ble_eq_true rfl, Nat.le_of_ble_eq_true rfl⟩ (Nat.le_of_ble_eq_true rfl) ⟨Nat.le_of_ble_eq_true rfl, Nat.le_of_ble_eq_true rfl⟩ rfl dL_law_749 (fun r_1 H_1 locs_1 p_1 hT_1 hk_1 hS_1 => ?_)
  refine th_topi (y := 0) (show (0 : Int32) = r_1 from p_1.2).symm ?_
  have kM : ∀ q, B + 178 ≤ q → H_1[q]? = H[q]? := fun q hq => hk_1 q (fun h => h.elim)
  have hTM := hTM.same (H1 := H_1) (fun q t h => kM q (by obtain ⟨j, rfl, z1, -, -⟩ := tq_some h; omega))
  have hFM := hFM.kept (H1 := H_1) kM
  have hX_1 : va_X b 4 xs s H_1 := hX.kept (hS_1.2.1 b (Nat.not_le.mpr hbB))
  refine lv_aload_n hx hb dL_law_752 rfl (lv_at hl 1 rfl) ?_
  refine lv_aload_n hx hb dL_law_753 rfl (lv_at hl 3 rfl) ?_
  refine lv_iload_n hx hb dL_law_754 rfl (lv_at hl 0 rfl) ?_
  refine lv_iconst (v := 1) hx hb dL_law_755 (by decide) ?_
  refine lv_iadd hx hb dL_law_756 ?_
  refine th_topi (y := 1) (by decide) ?_
  refine lw_sld (j := 1) hx hb hX_1 (by decide) (by decide) (by decide) dL_law_757 ?_
  refine th_topi h1 ?_
  refine th_Vi (A := fun q => B ≤ q) (As := [.int 7]) (rest := [.int 0]) E hml hl.1 (c_X12_count_v9 l D cI cS (tq B 178 186) (rq B) hWM H_1 hTM (B + 178) hτM ((hFM.2.2.2.2.1 978 (by decide)).trans (by decide))) lk_L_112 yd_X12_count hTM hτM rfl (by decide) ⟨rfl, fun _ _ => rfl, hS_1.2.2⟩ (fun q h => h.elim) ⟨Nat.le_of_ble_eq_true rfl, Nat.le_of_ble_eq_true rfl⟩ (Nat.le_of_ble_eq_true rfl) ⟨Nat.le_of_ble_eq_true rfl, Nat.le_of_ble_eq_true rfl⟩ rfl dL_law_758 (fun r_2 H_2 locs_2 p_2 hT_2 hk_2 hS_2 => ?_)
  refine th_topi (y := 0) (show (0 : Int32) = r_2 from p_2.2).symm ?_
  have hX_2 : va_X b 4 xs s H_2 := hX_1.kept (hS_2.2.1 b (Nat.not_le.mpr hbB))
  refine lv_icmp_eq (tgt := 766) hx hb dL_law_761 (by decide) (fun c_ => ?_) (fun c_ => absurd (by decide) c_)
  exact kk H_2 locs_2 hS_2.2.2 hX_2
set_option maxHeartbeats 4000000 in
set_option maxRecDepth 100000 in
theorem w_count_9 (E : EE p s m args c cL_law RL D cI cS) (hml : c.maxLocals = 4) (hl : lv_has ls 4 [(3, .int 0), (2, .ref (B + 178)), (1, .ref (B + 0)), (0, .ref b)]) (hWX : WF (tq B 0 178) (rq B)) (hWM : WF (tq B 178 186) (rq B)) (hTX : TH D cI cS (tq B 0 178) (rq B) H) (hFX : FX D B H) (hTM : TH D cI cS (tq B 178 186) (rq B) H) (hFM : FM D B H) (hX : va_X b 4 xs s H) (hbB : b < B) (hlo : ∀ x ∈ locs, B ≤ x.base) (h1 : xs 1 = 8) (kk : KL p l e s m args below meth c ls Q B b xs) : WL p l e s m args below meth c H locs ls Q 743 := by
  have hx := E.1
  have hb := E.2.1
  have hτX := ttX B
  have hτM := ttM B
  refine lv_aload_n hx hb dL_law_743 rfl (lv_at hl 2 rfl) ?_
  refine lv_aload_n hx hb dL_law_744 rfl (lv_at hl 3 rfl) ?_
  refine lv_iload_n hx hb dL_law_745 rfl (lv_at hl 0 rfl) ?_
  refine lv_iconst (v := 1) hx hb dL_law_746 (by decide) ?_
  refine lv_iadd hx hb dL_law_747 ?_
  refine th_topi (y := 1) (by decide) ?_
  refine lw_sld (j := 1) hx hb hX (by decide) (by decide) (by decide) dL_law_748 ?_
  refine th_topi h1 ?_
  refine th_Vi (A := fun q => B ≤ q) (As := [.int 8]) (rest := []) E hml hl.1 (c_X11_count_v10 l D cI cS (tq B 0 178) (rq B) hWX H hTX (B + 0) hτX hFX.2.2.2.2.2.2.2.1) lk_L_109 yd_X11_count hTX hτX rfl (by decide) ⟨rfl, fun _ _ => rfl, hlo⟩ (fun q h => h.elim) ⟨Nat.le_of_ble_eq_true rfl, Nat.le_of_ble_eq_true rfl⟩ (Nat.le_of_ble_eq_true rfl) ⟨Nat.le_of_ble_eq_true rfl, Nat.le_of_ble_eq_true rfl⟩ rfl dL_law_749 (fun r_1 H_1 locs_1 p_1 hT_1 hk_1 hS_1 => ?_)
  refine th_topi (y := 0) (show (0 : Int32) = r_1 from p_1.2).symm ?_
  have kM : ∀ q, B + 178 ≤ q → H_1[q]? = H[q]? := fun q hq => hk_1 q (fun h => h.elim)
  have hTM := hTM.same (H1 := H_1) (fun q t h => kM q (by obtain ⟨j, rfl, z1, -, -⟩ := tq_some h; omega))
  have hFM := hFM.kept (H1 := H_1) kM
  have hX_1 : va_X b 4 xs s H_1 := hX.kept (hS_1.2.1 b (Nat.not_le.mpr hbB))
  refine lv_aload_n hx hb dL_law_752 rfl (lv_at hl 1 rfl) ?_
  refine lv_aload_n hx hb dL_law_753 rfl (lv_at hl 3 rfl) ?_
  refine lv_iload_n hx hb dL_law_754 rfl (lv_at hl 0 rfl) ?_
  refine lv_iconst (v := 1) hx hb dL_law_755 (by decide) ?_
  refine lv_iadd hx hb dL_law_756 ?_
  refine th_topi (y := 1) (by decide) ?_
  refine lw_sld (j := 1) hx hb hX_1 (by decide) (by decide) (by decide) dL_law_757 ?_
  refine th_topi h1 ?_
  refine th_Vi (A := fun q => B ≤ q) (As := [.int 8]) (rest := [.int 0]) E hml hl.1 (c_X12_count_v10 l D cI cS (tq B 178 186) (rq B) hWM H_1 hTM (B + 178) hτM ((hFM.2.2.2.2.1 979 (by decide)).trans (by decide))) lk_L_112 yd_X12_count hTM hτM rfl (by decide) ⟨rfl, fun _ _ => rfl, hS_1.2.2⟩ (fun q h => h.elim) ⟨Nat.le_of_ble_eq_true rfl, Nat.le_of_ble_eq_true rfl⟩ (Nat.le_of_ble_eq_true rfl) ⟨Nat.le_of_ble_eq_true rfl, Nat.le_of_ble_eq_true rfl⟩ rfl dL_law_758 (fun r_2 H_2 locs_2 p_2 hT_2 hk_2 hS_2 => ?_)
  refine th_topi (y := 0) (show (0 : Int32) = r_2 from p_2.2).symm ?_
  have hX_2 : va_X b 4 xs s H_2 := hX_1.kept (hS_2.2.1 b (Nat.not_le.mpr hbB))
  refine lv_icmp_eq (tgt := 766) hx hb dL_law_761 (by decide) (fun c_ => ?_) (fun c_ => absurd (by decide) c_)
  exact kk H_2 locs_2 hS_2.2.2 hX_2
set_option maxHeartbeats 4000000 in
set_option maxRecDepth 100000 in
theorem w_count_10 (E : EE p s m args c cL_law RL D cI cS) (hml : c.maxLocals = 4) (hl : lv_has ls 4 [(3, .int 0), (2, .ref (B + 178)), (1, .ref (B + 0)), (0, .ref b)]) (hWX : WF (tq B 0 178) (rq B)) (hWM : WF (tq B 178 186) (rq B)) (hTX : TH D cI cS (tq B 0 178) (rq B) H) (hFX : FX D B H) (hTM : TH D cI cS (tq B 178 186) (rq B) H) (hFM : FM D B H) (hX : va_X b 4 xs s H) (hbB : b < B) (hlo : ∀ x ∈ locs, B ≤ x.base) (h1 : xs 1 = 9) (kk : KL p l e s m args below meth c ls Q B b xs) : WL p l e s m args below meth c H locs ls Q 743 := by
  have hx := E.1
  have hb := E.2.1
  have hτX := ttX B
  have hτM := ttM B
  refine lv_aload_n hx hb dL_law_743 rfl (lv_at hl 2 rfl) ?_
  refine lv_aload_n hx hb dL_law_744 rfl (lv_at hl 3 rfl) ?_
  refine lv_iload_n hx hb dL_law_745 rfl (lv_at hl 0 rfl) ?_
  refine lv_iconst (v := 1) hx hb dL_law_746 (by decide) ?_
  refine lv_iadd hx hb dL_law_747 ?_
  refine th_topi (y := 1) (by decide) ?_
  refine lw_sld (j := 1) hx hb hX (by decide) (by decide) (by decide) dL_law_748 ?_
  refine th_topi h1 ?_
  refine th_Vi (A := fun q => B ≤ q) (As := [.int 9]) (rest := []) E hml hl.1 (c_X11_count_v11 l D cI cS (tq B 0 178) (rq B) hWX H hTX (B + 0) hτX hFX.2.2.2.2.2.2.1) lk_L_109 yd_X11_count hTX hτX rfl (by decide) ⟨rfl, fun _ _ => rfl, hlo⟩ (fun q h => h.elim) ⟨Nat.le_of_ble_eq_true rfl, Nat.le_of_ble_eq_true rfl⟩ (Nat.le_of_ble_eq_true rfl) ⟨Nat.le_of_ble_eq_true rfl, Nat.le_of_ble_eq_true rfl⟩ rfl dL_law_749 (fun r_1 H_1 locs_1 p_1 hT_1 hk_1 hS_1 => ?_)
  refine th_topi (y := 0) (show (0 : Int32) = r_1 from p_1.2).symm ?_
  have kM : ∀ q, B + 178 ≤ q → H_1[q]? = H[q]? := fun q hq => hk_1 q (fun h => h.elim)
  have hTM := hTM.same (H1 := H_1) (fun q t h => kM q (by obtain ⟨j, rfl, z1, -, -⟩ := tq_some h; omega))
  have hFM := hFM.kept (H1 := H_1) kM
  have hX_1 : va_X b 4 xs s H_1 := hX.kept (hS_1.2.1 b (Nat.not_le.mpr hbB))
  refine lv_aload_n hx hb dL_law_752 rfl (lv_at hl 1 rfl) ?_
  refine lv_aload_n hx hb dL_law_753 rfl (lv_at hl 3 rfl) ?_
  refine lv_iload_n hx hb dL_law_754 rfl (lv_at hl 0 rfl) ?_
  refine lv_iconst (v := 1) hx hb dL_law_755 (by decide) ?_
  refine lv_iadd hx hb dL_law_756 ?_
  refine th_topi (y := 1) (by decide) ?_
  refine lw_sld (j := 1) hx hb hX_1 (by decide) (by decide) (by decide) dL_law_757 ?_
  refine th_topi h1 ?_
  refine th_Vi (A := fun q => B ≤ q) (As := [.int 9]) (rest := [.int 0]) E hml hl.1 (c_X12_count_v11 l D cI cS (tq B 178 186) (rq B) hWM H_1 hTM (B + 178) hτM ((hFM.2.2.2.2.1 980 (by decide)).trans (by decide))) lk_L_112 yd_X12_count hTM hτM rfl (by decide) ⟨rfl, fun _ _ => rfl, hS_1.2.2⟩ (fun q h => h.elim) ⟨Nat.le_of_ble_eq_true rfl, Nat.le_of_ble_eq_true rfl⟩ (Nat.le_of_ble_eq_true rfl) ⟨Nat.le_of_ble_eq_true rfl, Nat.le_of_ble_eq_true rfl⟩ rfl dL_law_758 (fun r_2 H_2 locs_2 p_2 hT_2 hk_2 hS_2 => ?_)
  refine th_topi (y := 0) (show (0 : Int32) = r_2 from p_2.2).symm ?_
  have hX_2 : va_X b 4 xs s H_2 := hX_1.kept (hS_2.2.1 b (Nat.not_le.mpr hbB))
  refine lv_icmp_eq (tgt := 766) hx hb dL_law_761 (by decide) (fun c_ => ?_) (fun c_ => absurd (by decide) c_)
  exact kk H_2 locs_2 hS_2.2.2 hX_2
set_option maxHeartbeats 4000000 in
set_option maxRecDepth 100000 in
theorem w_count_11 (E : EE p s m args c cL_law RL D cI cS) (hml : c.maxLocals = 4) (hl : lv_has ls 4 [(3, .int 0), (2, .ref (B + 178)), (1, .ref (B + 0)), (0, .ref b)]) (hWX : WF (tq B 0 178) (rq B)) (hWM : WF (tq B 178 186) (rq B)) (hTX : TH D cI cS (tq B 0 178) (rq B) H) (hFX : FX D B H) (hTM : TH D cI cS (tq B 178 186) (rq B) H) (hFM : FM D B H) (hX : va_X b 4 xs s H) (hbB : b < B) (hlo : ∀ x ∈ locs, B ≤ x.base) (h1 : xs 1 = 10) (kk : KL p l e s m args below meth c ls Q B b xs) : WL p l e s m args below meth c H locs ls Q 743 := by
  have hx := E.1
  have hb := E.2.1
  have hτX := ttX B
  have hτM := ttM B
  refine lv_aload_n hx hb dL_law_743 rfl (lv_at hl 2 rfl) ?_
  refine lv_aload_n hx hb dL_law_744 rfl (lv_at hl 3 rfl) ?_
  refine lv_iload_n hx hb dL_law_745 rfl (lv_at hl 0 rfl) ?_
  refine lv_iconst (v := 1) hx hb dL_law_746 (by decide) ?_
  refine lv_iadd hx hb dL_law_747 ?_
  refine th_topi (y := 1) (by decide) ?_
  refine lw_sld (j := 1) hx hb hX (by decide) (by decide) (by decide) dL_law_748 ?_
  refine th_topi h1 ?_
  refine th_Vi (A := fun q => B ≤ q) (As := [.int 10]) (rest := []) E hml hl.1 (c_X11_count_v12 l D cI cS (tq B 0 178) (rq B) hWX H hTX (B + 0) hτX hFX.2.2.2.2.2.2.2.2.2.2.2.2.2.2.2.2.2.2.2.2.2.2.2.2.2.2.2.2.2.2.2.2.2.2.2.2.2.2.2.2.2.2.2.2.2.2.2.2.2.2.2.2.2.2.2.2.2) lk_L_109 yd_X11_count hTX hτX rfl (by decide) ⟨rfl, fun _ _ => rfl, hlo⟩ (fun q h => h.elim) ⟨Nat.le_of_ble_eq_true rfl, Nat.le_of_ble_eq_true rfl⟩ (Nat.le_of_ble_eq_true rfl) ⟨Nat.le_of_ble_eq_true rfl, Nat.le_of_ble_eq_true rfl⟩ rfl dL_law_749 (fun r_1 H_1 locs_1 p_1 hT_1 hk_1 hS_1 => ?_)
  refine th_topi (y := 0) (show (0 : Int32) = r_1 from p_1.2).symm ?_
  have kM : ∀ q, B + 178 ≤ q → H_1[q]? = H[q]? := fun q hq => hk_1 q (fun h => h.elim)
  have hTM := hTM.same (H1 := H_1) (fun q t h => kM q (by obtain ⟨j, rfl, z1, -, -⟩ := tq_some h; omega))
  have hFM := hFM.kept (H1 := H_1) kM
  have hX_1 : va_X b 4 xs s H_1 := hX.kept (hS_1.2.1 b (Nat.not_le.mpr hbB))
  refine lv_aload_n hx hb dL_law_752 rfl (lv_at hl 1 rfl) ?_
  refine lv_aload_n hx hb dL_law_753 rfl (lv_at hl 3 rfl) ?_
  refine lv_iload_n hx hb dL_law_754 rfl (lv_at hl 0 rfl) ?_
  refine lv_iconst (v := 1) hx hb dL_law_755 (by decide) ?_
  refine lv_iadd hx hb dL_law_756 ?_
  refine th_topi (y := 1) (by decide) ?_
  refine lw_sld (j := 1) hx hb hX_1 (by decide) (by decide) (by decide) dL_law_757 ?_
  refine th_topi h1 ?_
  refine th_Vi (A := fun q => B ≤ q) (As := [.int 10]) (rest := [.int 0]) E hml hl.1 (c_X12_count_v12 l D cI cS (tq B 178 186) (rq B) hWM H_1 hTM (B + 178) hτM ((hFM.2.2.2.2.1 981 (by decide)).trans (by decide))) lk_L_112 yd_X12_count hTM hτM rfl (by decide) ⟨rfl, fun _ _ => rfl, hS_1.2.2⟩ (fun q h => h.elim) ⟨Nat.le_of_ble_eq_true rfl, Nat.le_of_ble_eq_true rfl⟩ (Nat.le_of_ble_eq_true rfl) ⟨Nat.le_of_ble_eq_true rfl, Nat.le_of_ble_eq_true rfl⟩ rfl dL_law_758 (fun r_2 H_2 locs_2 p_2 hT_2 hk_2 hS_2 => ?_)
  refine th_topi (y := 0) (show (0 : Int32) = r_2 from p_2.2).symm ?_
  have hX_2 : va_X b 4 xs s H_2 := hX_1.kept (hS_2.2.1 b (Nat.not_le.mpr hbB))
  refine lv_icmp_eq (tgt := 766) hx hb dL_law_761 (by decide) (fun c_ => ?_) (fun c_ => absurd (by decide) c_)
  exact kk H_2 locs_2 hS_2.2.2 hX_2
set_option maxHeartbeats 4000000 in
set_option maxRecDepth 100000 in
theorem w_count_12 (E : EE p s m args c cL_law RL D cI cS) (hml : c.maxLocals = 4) (hl : lv_has ls 4 [(3, .int 0), (2, .ref (B + 178)), (1, .ref (B + 0)), (0, .ref b)]) (hWX : WF (tq B 0 178) (rq B)) (hWM : WF (tq B 178 186) (rq B)) (hTX : TH D cI cS (tq B 0 178) (rq B) H) (hFX : FX D B H) (hTM : TH D cI cS (tq B 178 186) (rq B) H) (hFM : FM D B H) (hX : va_X b 4 xs s H) (hbB : b < B) (hlo : ∀ x ∈ locs, B ≤ x.base) (h1 : xs 1 = 11) (kk : KL p l e s m args below meth c ls Q B b xs) : WL p l e s m args below meth c H locs ls Q 743 := by
  have hx := E.1
  have hb := E.2.1
  have hτX := ttX B
  have hτM := ttM B
  refine lv_aload_n hx hb dL_law_743 rfl (lv_at hl 2 rfl) ?_
  refine lv_aload_n hx hb dL_law_744 rfl (lv_at hl 3 rfl) ?_
  refine lv_iload_n hx hb dL_law_745 rfl (lv_at hl 0 rfl) ?_
  refine lv_iconst (v := 1) hx hb dL_law_746 (by decide) ?_
  refine lv_iadd hx hb dL_law_747 ?_
  refine th_topi (y := 1) (by decide) ?_
  refine lw_sld (j := 1) hx hb hX (by decide) (by decide) (by decide) dL_law_748 ?_
  refine th_topi h1 ?_
  refine th_Vi (A := fun q => B ≤ q) (As := [.int 11]) (rest := []) E hml hl.1 (c_X11_count_v13 l D cI cS (tq B 0 178) (rq B) hWX H hTX (B + 0) hτX hFX.1) lk_L_109 yd_X11_count hTX hτX rfl (by decide) ⟨rfl, fun _ _ => rfl, hlo⟩ (fun q h => h.elim) ⟨Nat.le_of_ble_eq_true rfl, Nat.le_of_ble_eq_true rfl⟩ (Nat.le_of_ble_eq_true rfl) ⟨Nat.le_of_ble_eq_true rfl, Nat.le_of_ble_eq_true rfl⟩ rfl dL_law_749 (fun r_1 H_1 locs_1 p_1 hT_1 hk_1 hS_1 => ?_)
  refine th_topi (y := 0) (show (0 : Int32) = r_1 from p_1.2).symm ?_
  have kM : ∀ q, B + 178 ≤ q → H_1[q]? = H[q]? := fun q hq => hk_1 q (fun h => h.elim)
  have hTM := hTM.same (H1 := H_1) (fun q t h => kM q (by obtain ⟨j, rfl, z1, -, -⟩ := tq_some h; omega))
  have hFM := hFM.kept (H1 := H_1) kM
  have hX_1 : va_X b 4 xs s H_1 := hX.kept (hS_1.2.1 b (Nat.not_le.mpr hbB))
  refine lv_aload_n hx hb dL_law_752 rfl (lv_at hl 1 rfl) ?_
  refine lv_aload_n hx hb dL_law_753 rfl (lv_at hl 3 rfl) ?_
  refine lv_iload_n hx hb dL_law_754 rfl (lv_at hl 0 rfl) ?_
  refine lv_iconst (v := 1) hx hb dL_law_755 (by decide) ?_
  refine lv_iadd hx hb dL_law_756 ?_
  refine th_topi (y := 1) (by decide) ?_
  refine lw_sld (j := 1) hx hb hX_1 (by decide) (by decide) (by decide) dL_law_757 ?_
  refine th_topi h1 ?_
  refine th_Vi (A := fun q => B ≤ q) (As := [.int 11]) (rest := [.int 0]) E hml hl.1 (c_X12_count_v13 l D cI cS (tq B 178 186) (rq B) hWM H_1 hTM (B + 178) hτM hFM.1) lk_L_112 yd_X12_count hTM hτM rfl (by decide) ⟨rfl, fun _ _ => rfl, hS_1.2.2⟩ (fun q h => h.elim) ⟨Nat.le_of_ble_eq_true rfl, Nat.le_of_ble_eq_true rfl⟩ (Nat.le_of_ble_eq_true rfl) ⟨Nat.le_of_ble_eq_true rfl, Nat.le_of_ble_eq_true rfl⟩ rfl dL_law_758 (fun r_2 H_2 locs_2 p_2 hT_2 hk_2 hS_2 => ?_)
  refine th_topi (y := 0) (show (0 : Int32) = r_2 from p_2.2).symm ?_
  have hX_2 : va_X b 4 xs s H_2 := hX_1.kept (hS_2.2.1 b (Nat.not_le.mpr hbB))
  refine lv_icmp_eq (tgt := 766) hx hb dL_law_761 (by decide) (fun c_ => ?_) (fun c_ => absurd (by decide) c_)
  exact kk H_2 locs_2 hS_2.2.2 hX_2
set_option maxHeartbeats 4000000 in
set_option maxRecDepth 100000 in
theorem w_count_13 (E : EE p s m args c cL_law RL D cI cS) (hml : c.maxLocals = 4) (hl : lv_has ls 4 [(3, .int 0), (2, .ref (B + 178)), (1, .ref (B + 0)), (0, .ref b)]) (hWX : WF (tq B 0 178) (rq B)) (hWM : WF (tq B 178 186) (rq B)) (hTX : TH D cI cS (tq B 0 178) (rq B) H) (hFX : FX D B H) (hTM : TH D cI cS (tq B 178 186) (rq B) H) (hFM : FM D B H) (hX : va_X b 4 xs s H) (hbB : b < B) (hlo : ∀ x ∈ locs, B ≤ x.base) (l1 : 12 ≤ (xs 1).toInt) (kk : KL p l e s m args below meth c ls Q B b xs) : WL p l e s m args below meth c H locs ls Q 743 := by
  have hx := E.1
  have hb := E.2.1
  have hτX := ttX B
  have hτM := ttM B
  refine lv_aload_n hx hb dL_law_743 rfl (lv_at hl 2 rfl) ?_
  refine lv_aload_n hx hb dL_law_744 rfl (lv_at hl 3 rfl) ?_
  refine lv_iload_n hx hb dL_law_745 rfl (lv_at hl 0 rfl) ?_
  refine lv_iconst (v := 1) hx hb dL_law_746 (by decide) ?_
  refine lv_iadd hx hb dL_law_747 ?_
  refine th_topi (y := 1) (by decide) ?_
  refine lw_sld (j := 1) hx hb hX (by decide) (by decide) (by decide) dL_law_748 ?_
  refine th_Vi (A := fun q => B ≤ q) (As := [.int (xs 1)]) (rest := []) E hml hl.1 (c_X11_count_v14 l D cI cS (tq B 0 178) (rq B) hWX H hTX (B + 0) (xs 1) hτX l1) lk_L_109 yd_X11_count hTX hτX rfl (by decide) ⟨rfl, fun _ _ => rfl, hlo⟩ (fun q h => h.elim) ⟨Nat.le_of_ble_eq_true rfl, Nat.le_of_ble_eq_true rfl⟩ (Nat.le_of_ble_eq_true rfl) ⟨Nat.le_of_ble_eq_true rfl, Nat.le_of_ble_eq_true rfl⟩ rfl dL_law_749 (fun r_1 H_1 locs_1 p_1 hT_1 hk_1 hS_1 => ?_)
  refine th_topi (y := (-1)) (show ((-1) : Int32) = r_1 from p_1.2).symm ?_
  have kM : ∀ q, B + 178 ≤ q → H_1[q]? = H[q]? := fun q hq => hk_1 q (fun h => h.elim)
  have hTM := hTM.same (H1 := H_1) (fun q t h => kM q (by obtain ⟨j, rfl, z1, -, -⟩ := tq_some h; omega))
  have hFM := hFM.kept (H1 := H_1) kM
  have hX_1 : va_X b 4 xs s H_1 := hX.kept (hS_1.2.1 b (Nat.not_le.mpr hbB))
  refine lv_aload_n hx hb dL_law_752 rfl (lv_at hl 1 rfl) ?_
  refine lv_aload_n hx hb dL_law_753 rfl (lv_at hl 3 rfl) ?_
  refine lv_iload_n hx hb dL_law_754 rfl (lv_at hl 0 rfl) ?_
  refine lv_iconst (v := 1) hx hb dL_law_755 (by decide) ?_
  refine lv_iadd hx hb dL_law_756 ?_
  refine th_topi (y := 1) (by decide) ?_
  refine lw_sld (j := 1) hx hb hX_1 (by decide) (by decide) (by decide) dL_law_757 ?_
  refine th_Vi (A := fun q => B ≤ q) (As := [.int (xs 1)]) (rest := [.int (-1)]) E hml hl.1 (c_X12_count_v14 l D cI cS (tq B 178 186) (rq B) hWM H_1 hTM (B + 178) (xs 1) hτM l1) lk_L_112 yd_X12_count hTM hτM rfl (by decide) ⟨rfl, fun _ _ => rfl, hS_1.2.2⟩ (fun q h => h.elim) ⟨Nat.le_of_ble_eq_true rfl, Nat.le_of_ble_eq_true rfl⟩ (Nat.le_of_ble_eq_true rfl) ⟨Nat.le_of_ble_eq_true rfl, Nat.le_of_ble_eq_true rfl⟩ rfl dL_law_758 (fun r_2 H_2 locs_2 p_2 hT_2 hk_2 hS_2 => ?_)
  refine th_topi (y := (-1)) (show ((-1) : Int32) = r_2 from p_2.2).symm ?_
  have hX_2 : va_X b 4 xs s H_2 := hX_1.kept (hS_2.2.1 b (Nat.not_le.mpr hbB))
  refine lv_icmp_eq (tgt := 766) hx hb dL_law_761 (by decide) (fun c_ => ?_) (fun c_ => absurd (by decide) c_)
  exact kk H_2 locs_2 hS_2.2.2 hX_2
theorem w_count (E : EE p s m args c cL_law RL D cI cS) (hml : c.maxLocals = 4) (hl : lv_has ls 4 [(3, .int 0), (2, .ref (B + 178)), (1, .ref (B + 0)), (0, .ref b)]) (hWX : WF (tq B 0 178) (rq B)) (hWM : WF (tq B 178 186) (rq B)) (hTX : TH D cI cS (tq B 0 178) (rq B) H) (hFX : FX D B H) (hTM : TH D cI cS (tq B 178 186) (rq B) H) (hFM : FM D B H) (hX : va_X b 4 xs s H) (hbB : b < B) (hlo : ∀ x ∈ locs, B ≤ x.base) (kk : KL p l e s m args below meth c ls Q B b xs) : WL p l e s m args below meth c H locs ls Q 743 := by
  rcases (show (xs 1).toInt ≤ -1 ∨ (xs 1).toInt = 0 ∨ (xs 1).toInt = 1 ∨ (xs 1).toInt = 2 ∨ (xs 1).toInt = 3 ∨ (xs 1).toInt = 4 ∨ (xs 1).toInt = 5 ∨ (xs 1).toInt = 6 ∨ (xs 1).toInt = 7 ∨ (xs 1).toInt = 8 ∨ (xs 1).toInt = 9 ∨ (xs 1).toInt = 10 ∨ (xs 1).toInt = 11 ∨ 12 ≤ (xs 1).toInt by omega) with g1 | t1 | t1 | t1 | t1 | t1 | t1 | t1 | t1 | t1 | t1 | t1 | t1 | l1
  · exact w_count_0 E hml hl hWX hWM hTX hFX hTM hFM hX hbB hlo g1 kk
  · have h1 : xs 1 = 0 := i_eq t1 (by decide)
    exact w_count_1 E hml hl hWX hWM hTX hFX hTM hFM hX hbB hlo h1 kk
  · have h1 : xs 1 = 1 := i_eq t1 (by decide)
    exact w_count_2 E hml hl hWX hWM hTX hFX hTM hFM hX hbB hlo h1 kk
  · have h1 : xs 1 = 2 := i_eq t1 (by decide)
    exact w_count_3 E hml hl hWX hWM hTX hFX hTM hFM hX hbB hlo h1 kk
  · have h1 : xs 1 = 3 := i_eq t1 (by decide)
    exact w_count_4 E hml hl hWX hWM hTX hFX hTM hFM hX hbB hlo h1 kk
  · have h1 : xs 1 = 4 := i_eq t1 (by decide)
    exact w_count_5 E hml hl hWX hWM hTX hFX hTM hFM hX hbB hlo h1 kk
  · have h1 : xs 1 = 5 := i_eq t1 (by decide)
    exact w_count_6 E hml hl hWX hWM hTX hFX hTM hFM hX hbB hlo h1 kk
  · have h1 : xs 1 = 6 := i_eq t1 (by decide)
    exact w_count_7 E hml hl hWX hWM hTX hFX hTM hFM hX hbB hlo h1 kk
  · have h1 : xs 1 = 7 := i_eq t1 (by decide)
    exact w_count_8 E hml hl hWX hWM hTX hFX hTM hFM hX hbB hlo h1 kk
  · have h1 : xs 1 = 8 := i_eq t1 (by decide)
    exact w_count_9 E hml hl hWX hWM hTX hFX hTM hFM hX hbB hlo h1 kk
  · have h1 : xs 1 = 9 := i_eq t1 (by decide)
    exact w_count_10 E hml hl hWX hWM hTX hFX hTM hFM hX hbB hlo h1 kk
  · have h1 : xs 1 = 10 := i_eq t1 (by decide)
    exact w_count_11 E hml hl hWX hWM hTX hFX hTM hFM hX hbB hlo h1 kk
  · have h1 : xs 1 = 11 := i_eq t1 (by decide)
    exact w_count_12 E hml hl hWX hWM hTX hFX hTM hFM hX hbB hlo h1 kk
  · exact w_count_13 E hml hl hWX hWM hTX hFX hTM hFM hX hbB hlo l1 kk
end LWC
