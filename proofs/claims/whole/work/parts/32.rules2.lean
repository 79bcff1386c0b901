/-! RULES over zRp; loops -/
theorem zloop {n : Nat} {X : Nat → Prop} (hs : ∀ j, j < n → X (j + 1) → X j) (h0 : X n) : ∀ j, j ≤ n → X j := by
  have : ∀ k j, j + k = n → X j := by
    intro k
    induction k with
    | zero =>
      intro j hj
      have : j = n := by omega
      exact this ▸ h0
    | succ k ih =>
      intro j hj
      exact hs j (by omega) (ih (j + 1) (by omega))
  intro j hj
  exact this (n - j) j (by omega)
/-- f 0, f 1 .. f (n-1) one behind the other -/
def zit {α : Type} (f : Nat → α → α) : Nat → α → α
  | 0, a => a
  | n + 1, a => f n (zit f n a)
def zany (p : Nat → Bool) : Nat → Bool
  | 0 => false
  | n + 1 => zany p n || p n
theorem zany_hit {p : Nat → Bool} {i : Nat} (hp : p i = true) : ∀ {n : Nat}, i < n → zany p n = true
  | n + 1, h => by
    unfold zany
    by_cases e : i = n
    · rw [← e, hp, Bool.or_true]
    · rw [zany_hit hp (by omega), Bool.true_or]
theorem zany_no {p : Nat → Bool} {n : Nat} (h : zany p n = false) (hp : p n = false) : zany p (n + 1) = false := by
  unfold zany
  rw [h, hp]
  rfl
theorem zany_iff {p : Nat → Bool} : ∀ {n : Nat}, zany p n = true ↔ ∃ i, i < n ∧ p i = true
  | 0 => by simp [zany]
  | n + 1 => by
    unfold zany
    rw [Bool.or_eq_true, zany_iff]
    constructor
    · rintro (⟨i, h1, h2⟩ | h)
      · exact ⟨i, by omega, h2⟩
      · exact ⟨n, by omega, h⟩
    · rintro ⟨i, h1, h2⟩
      by_cases e : i = n
      · exact Or.inr (e ▸ h2)
      · exact Or.inl ⟨i, by omega, h2⟩
section ZR2
variable {Z : zPar} {l : Launch} {d d' : Nat} {mm mm' : zMeth} {pc n nc ns ix nargs mc ms nc1 ns1 : Nat} {L : List (Nat × Value)} {st st0 As : List Value} {M : zMem} {Q : zO → zMem → Prop} {v : Option Value} {Λ : Nat → Nat} {S : zSt}
theorem zs_getv {a kind key : Nat} {x : Int32} (hd : decode (zMC mm) pc = .ok (.getfield ix, 3)) (hf : zGF (zMY mm).cls ix kind key false) (hK : mK M a = kind) (hv : vI M a key = x) (hn : pc + 3 = n) (kk : zX Z l d mm n L (.int x :: st) M nc ns Q) : zX Z l d mm pc L (.ref a :: st) M nc ns Q := zs_geti hd hf hK hn (by rw [hv]; exact kk)
theorem zs_ialdv {a : Nat} {i x : Int32} (hd : decode (zMC mm) pc = .ok (.iaload, 1)) (hK : mK M a = 1) (hi : vp_in i (mN M a)) (hv : aI M a i.toNatClampNeg = x) (hn : pc + 1 = n) (k : zX Z l d mm n L (.int x :: st) M nc ns Q) : zX Z l d mm pc L (.int i :: .ref a :: st) M nc ns Q := zs_iald hd hK hi hn (by rw [hv]; exact k)
theorem zs_zaldv {a : Nat} {i x : Int32} (hd : decode (zMC mm) pc = .ok (.baload, 1)) (hK : mK M a = 2) (hi : vp_in i (mN M a)) (hv : aI M a i.toNatClampNeg = x) (hn : pc + 1 = n) (k : zX Z l d mm n L (.int x :: st) M nc ns Q) : zX Z l d mm pc L (.int i :: .ref a :: st) M nc ns Q := zs_zald hd hK hi hn (by rw [hv]; exact k)
theorem zw_i {r kind key : Nat} {fty : FieldType} {x : Int32} (hd : decode (zMC mm) pc = .ok (.putfield ix, 3)) (hf : zPF mm ix kind key fty false) (hR : zRp Z Λ S M) (hl : zlv (sc S) r) (hK : mK M (Λ r) = kind) (hfit : narrow fty (.int x) = .int x ∧ fits fty (.int x) = true) (hk : key ≠ 128 ∧ key ≠ 130 ∧ key ≠ 32) (hn : pc + 3 = n)
    (kk : ∀ M', zRp Z Λ (sc S, u2 (sV S) r key x, sW S, sT S, sP S) M' → vR M' = vR M → zX Z l d mm n L st M' nc ns Q) : zX Z l d mm pc L (.int x :: .ref (Λ r) :: st) M nc ns Q :=
  zs_puti hd hf hK hfit hn (kk _ (hR.sI hl hk.1 hk.2.1 hk.2.2) rfl)
theorem zw_ai {r : Nat} {i x : Int32} (hd : decode (zMC mm) pc = .ok (.iastore, 1)) (hR : zRp Z Λ S M) (hl : zlv (sc S) r) (hK : mK M (Λ r) = 1) (hi : vp_in i (mN M (Λ r))) (hn : pc + 1 = n)
    (kk : ∀ M', zRp Z Λ (sc S, sV S, u2 (sW S) r i.toNatClampNeg x, sT S, sP S) M' → vR M' = vR M → zX Z l d mm n L st M' nc ns Q) : zX Z l d mm pc L (.int x :: .int i :: .ref (Λ r) :: st) M nc ns Q :=
  zs_iast hd hK hi hn (kk _ (hR.sAI hl) rfl)
theorem zc_getb {p e c b i : Nat} {f : Nat → Nat} (hd : decode (zMC mm) pc = .ok (.invokevirtual ix, 3)) (hw : zwd (.methodLink (zMY mm).cls ix yJx4a65c_get_915e3)) (hL : zL Z M p e c f) (hi : i < c) (hb : f i = b) (hst : st.length ≤ 4) (hdd : 2 < d) (hn : pc + 3 = n) (kk : zX Z l d mm n L (.ref b :: st) M nc ns Q) : zX Z l d mm pc L (.int (nI i) :: .ref p :: st) M nc ns Q := zc_get hd hw hL hi hst hdd hn (by rw [hb]; exact kk)
/-- a method that, begun with As over M, ends with v over a memory that R' holds of -/
def zG (Z : zPar) (l : Launch) (d : Nat) (mm : zMeth) (As : List Value) (M : zMem) (mc ms : Nat) (v : Option Value) (R' : zMem → Prop) : Prop := ∀ Q : zO → zMem → Prop, (∀ M', R' M' → Q (.inl v) M') → zX Z l d mm 0 (lv_args 0 As) [] M mc ms Q
theorem zg_S {R' : zMem → Prop} (hd : decode (zMC mm) pc = .ok (.invokestatic ix, 3)) (hm : zMok mm' nargs) (hw : zwd (.methodLink (zMY mm).cls ix (zMY mm')) ∧ zwd (.static (zMY mm'))) (hAs : As.length = nargs) (hfit : (lg_sl As).length ≤ zML mm') (hst : st.length ≤ 4) (hdd : d' < d) (hc1 : nc1 + mc ≤ nc) (hs1 : ns1 + ms ≤ ns) (hstk : st0 = As.reverse ++ st) (hn : pc + 3 = n)
    (h : zG Z l d' mm' (As) M mc ms v R') (kk : ∀ M', R' M' → zX Z l d mm n L (v.toList ++ st) M' nc1 ns1 Q) : zX Z l d mm pc L st0 M nc ns Q :=
  zs_invS (d' := d - 1) (Post := fun o M1 => o = .inl v ∧ R' M1) hd hm hw hAs hfit hst (by omega) hc1 hs1 hstk hn ((h _ (fun M' hM' => ⟨rfl, hM'⟩)).deep (by omega)) (fun k M1 h => nomatch h.1) (fun v1 M1 h => by obtain ⟨h1, h2⟩ := h; cases h1; exact kk M1 h2)
theorem zg_SN {host : String} {R' : zMem → Prop} (hd : decode (zMC mm) pc = .ok (.invokestatic ix, 3)) (hm : zMok mm' nargs) (hw : zwd (.methodLinkNest (zMY mm).cls ix (zMY mm') host) ∧ zwd (.static (zMY mm'))) (hAs : As.length = nargs) (hfit : (lg_sl As).length ≤ zML mm') (hst : st.length ≤ 4) (hdd : d' < d) (hc1 : nc1 + mc ≤ nc) (hs1 : ns1 + ms ≤ ns) (hstk : st0 = As.reverse ++ st) (hn : pc + 3 = n)
    (h : zG Z l d' mm' (As) M mc ms v R') (kk : ∀ M', R' M' → zX Z l d mm n L (v.toList ++ st) M' nc1 ns1 Q) : zX Z l d mm pc L st0 M nc ns Q :=
  zs_invSN (d' := d - 1) (Post := fun o M1 => o = .inl v ∧ R' M1) hd hm hw hAs hfit hst (by omega) hc1 hs1 hstk hn ((h _ (fun M' hM' => ⟨rfl, hM'⟩)).deep (by omega)) (fun k M1 h => nomatch h.1) (fun v1 M1 h => by obtain ⟨h1, h2⟩ := h; cases h1; exact kk M1 h2)
theorem zg_V {b ci : Nat} {r : vw_C} {R' : zMem → Prop} (hd : decode (zMC mm) pc = .ok (.invokevirtual ix, 3)) (hm : zMok mm' nargs) (hw : zwd (.methodLink (zMY mm).cls ix (zMY mm')) ∧ zwd (.instanceMethod (zMY mm')) ∧ zwd (.selects r.1 (zMY mm') (zMY mm'))) (hr : vwCl[ci]? = some r) (hK : mK M b = 10 + ci) (hAs : As.length = nargs) (hfit : (lg_sl (.ref b :: As)).length ≤ zML mm') (hst : st.length ≤ 4) (hdd : d' < d) (hc1 : nc1 + mc ≤ nc) (hs1 : ns1 + ms ≤ ns) (hstk : st0 = As.reverse ++ .ref b :: st) (hn : pc + 3 = n)
    (h : zG Z l d' mm' (.ref b :: As) M mc ms v R') (kk : ∀ M', R' M' → zX Z l d mm n L (v.toList ++ st) M' nc1 ns1 Q) : zX Z l d mm pc L st0 M nc ns Q :=
  zs_invV (d' := d - 1) (Post := fun o M1 => o = .inl v ∧ R' M1) hd hm hw hr hK hAs hfit hst (by omega) hc1 hs1 hstk hn ((h _ (fun M' hM' => ⟨rfl, hM'⟩)).deep (by omega)) (fun k M1 h => nomatch h.1) (fun v1 M1 h => by obtain ⟨h1, h2⟩ := h; cases h1; exact kk M1 h2)
theorem zg_I {b : Nat} {R' : zMem → Prop} (hd : decode (zMC mm) pc = .ok (.invokespecial ix, 3)) (hm : zMok mm' nargs) (hw : zwd (.methodLink (zMY mm).cls ix (zMY mm')) ∧ zwd (.instanceMethod (zMY mm')) ∧ (zMY mm').name = "<init>" ∧ zMR mm' = none) (hAs : As.length = nargs) (hfit : (lg_sl (.ref b :: As)).length ≤ zML mm') (hst : st.length ≤ 4) (hdd : d' < d) (hc1 : nc1 + mc ≤ nc) (hs1 : ns1 + ms ≤ ns) (hstk : st0 = As.reverse ++ .ref b :: st) (hn : pc + 3 = n)
    (h : zG Z l d' mm' (.ref b :: As) M mc ms v R') (kk : ∀ M', R' M' → zX Z l d mm n L (v.toList ++ st) M' nc1 ns1 Q) : zX Z l d mm pc L st0 M nc ns Q :=
  zs_invI (d' := d - 1) (Post := fun o M1 => o = .inl v ∧ R' M1) hd hm hw hAs hfit hst (by omega) hc1 hs1 hstk hn ((h _ (fun M' hM' => ⟨rfl, hM'⟩)).deep (by omega)) (fun k M1 h => nomatch h.1) (fun v1 M1 h => by obtain ⟨h1, h2⟩ := h; cases h1; exact kk M1 h2)
end ZR2
