/-! A PICTURE of things just made, by roles, over what was there before (M0) -/
section ZPIC
variable {Z : zPar} {l : Launch} {d : Nat} {mm : zMeth} {pc n nc ns ix nc1 ns1 : Nat} {L : List (Nat × Value)} {st : List Value} {M0 M : zMem} {Q : zO → zMem → Prop} {Λ : Nat → Nat}
-- live, kind, length, int fields, reference fields, int row, reference row
abbrev zPc : Type := (Nat → Bool) × (Nat → Nat) × (Nat → Nat) × (Nat → Nat → Int32) × (Nat → Nat → Option Nat) × (Nat → Nat → Int32) × (Nat → Nat → Option Nat)
def zPic (M0 : zMem) (Λ : Nat → Nat) (p : zPc) (M : zMem) : Prop := (∀ a, mK M0 a ≠ 0 → zAg M0 M a) ∧ ∀ r, p.1 r = true → (mK M0 (Λ r) = 0 ∧ p.2.1 r ≠ 0 ∧ mK M (Λ r) = p.2.1 r ∧ mN M (Λ r) = p.2.2.1 r ∧ mG M (Λ r) = r) ∧ vI M (Λ r) = p.2.2.2.1 r ∧ vR M (Λ r) = p.2.2.2.2.1 r ∧ aI M (Λ r) = p.2.2.2.2.2.1 r ∧ aR M (Λ r) = p.2.2.2.2.2.2 r
abbrev pNew (p : zPc) (r kind len : Nat) : zPc := (u1 p.1 r true, u1 p.2.1 r kind, u1 p.2.2.1 r len, u1 p.2.2.2.1 r (fun _ => 0), u1 p.2.2.2.2.1 r (fun _ => none), u1 p.2.2.2.2.2.1 r (fun _ => 0), u1 p.2.2.2.2.2.2 r (fun _ => none))
abbrev pSI (p : zPc) (r k : Nat) (v : Int32) : zPc := (p.1, p.2.1, p.2.2.1, u2 p.2.2.2.1 r k v, p.2.2.2.2.1, p.2.2.2.2.2.1, p.2.2.2.2.2.2)
abbrev pSR (p : zPc) (r k : Nat) (v : Option Nat) : zPc := (p.1, p.2.1, p.2.2.1, p.2.2.2.1, u2 p.2.2.2.2.1 r k v, p.2.2.2.2.2.1, p.2.2.2.2.2.2)
abbrev p0 : zPc := (fun _ => false, fun _ => 0, fun _ => 0, fun _ _ => 0, fun _ _ => none, fun _ _ => 0, fun _ _ => none)
theorem zPic.nil : zPic M Λ p0 M := ⟨fun _ _ => ⟨rfl, rfl, rfl, rfl, rfl, rfl, rfl, rfl, rfl⟩, fun r h => by cases h⟩
theorem zPic.new {p : zPc} {r q kind len : Nat} (h : zPic M0 Λ p M) (hq : mK M q = 0) (hr : p.1 r = false) (hk : kind ≠ 0) : zPic M0 (u1 Λ r q) (pNew p r kind len) (zNew M q kind len r) := by
  refine ⟨fun a ha => ?_, fun s hs => ?_⟩
  · obtain ⟨h1, h2, h3, h4, h5, h6, h7, h8, h9⟩ := h.1 a ha
    have hqa : a ≠ q := fun e => by rw [e] at h1 ha; rw [hq] at h1; exact ha h1.symm
    exact ⟨(u1_ne hqa).trans h1, (u1_ne hqa).trans h2, (u1_ne hqa).trans h3, (u1_ne hqa).trans h4, (u1_ne hqa).trans h5, (u1_ne hqa).trans h6, (u1_ne hqa).trans h7, (u1_ne hqa).trans h8, (u1_ne hqa).trans h9⟩
  · by_cases e : s = r
    · subst e
      have h0 : mK M0 q = 0 := by
        by_cases g : mK M0 q = 0
        · exact g
        · rw [(h.1 q g).1] at hq
          exact absurd hq g
      rw [show u1 Λ s q s = q from u1_at]
      exact ⟨⟨h0, by rw [show (pNew p s kind len).2.1 s = kind from u1_at]; exact hk, u1_at.trans u1_at.symm, u1_at.trans u1_at.symm, u1_at⟩, u1_at.trans u1_at.symm, u1_at.trans u1_at.symm, u1_at.trans u1_at.symm, u1_at.trans u1_at.symm⟩
    · have hs : p.1 s = true := (u1_ne e).symm.trans hs
      obtain ⟨⟨h1, h2, h3, h4, h5⟩, h6, h7, h8, h9⟩ := h.2 s hs
      have hqa : Λ s ≠ q := fun g => by rw [g, hq] at h3; exact h2 h3.symm
      rw [show u1 Λ r q s = Λ s from u1_ne e]
      exact ⟨⟨h1, by rw [show (pNew p r kind len).2.1 s = p.2.1 s from u1_ne e]; exact h2, (u1_ne hqa).trans (h3.trans (u1_ne e).symm), (u1_ne hqa).trans (h4.trans (u1_ne e).symm), (u1_ne hqa).trans h5⟩, (u1_ne hqa).trans (h6.trans (u1_ne e).symm), (u1_ne hqa).trans (h7.trans (u1_ne e).symm), (u1_ne hqa).trans (h8.trans (u1_ne e).symm), (u1_ne hqa).trans (h9.trans (u1_ne e).symm)⟩
theorem zPic.ne {p : zPc} {r s : Nat} (h : zPic M0 Λ p M) (hr : p.1 r = true) (hs : p.1 s = true) (hne : s ≠ r) : Λ s ≠ Λ r := fun e => hne (((h.2 s hs).1.2.2.2.2.symm.trans (congrArg (mG M) e)).trans (h.2 r hr).1.2.2.2.2)
theorem zPic.old {p : zPc} {r a : Nat} (h : zPic M0 Λ p M) (hr : p.1 r = true) (ha : mK M0 a ≠ 0) : a ≠ Λ r := fun e => ha (by rw [e]; exact (h.2 r hr).1.1)
theorem u2_r {α : Type} {f g : Nat → Nat → α} {a b r s k : Nat} {v : α} (h : f a = g r) (e : a = b) (es : r = s) : u2 f b k v a = u2 g s k v r := by
  funext j
  unfold u2
  simp only [e, es, and_true]
  split
  · rfl
  · rw [← e, ← es, h]
theorem zPic.sI {p : zPc} {r k : Nat} {v : Int32} (h : zPic M0 Λ p M) (hr : p.1 r = true) : zPic M0 Λ (pSI p r k v) (sI M (Λ r) k v) := by
  refine ⟨fun a ha => ?_, fun s hs => ?_⟩
  · obtain ⟨h1, h2, h3, h4, h5, h6, h7, h8, h9⟩ := h.1 a ha
    exact ⟨h1, h2, h3, (u2_ne (h.old hr ha)).trans h4, h5, h6, h7, h8, h9⟩
  · obtain ⟨h1, h6, h7, h8, h9⟩ := h.2 s hs
    refine ⟨h1, ?_, h7, h8, h9⟩
    by_cases e : s = r
    · exact u2_r h6 (congrArg Λ e) e
    · exact (u2_ne (h.ne hr hs e)).trans (h6.trans (u2_ne e).symm)
theorem zPic.sR {p : zPc} {r k : Nat} {v : Option Nat} (h : zPic M0 Λ p M) (hr : p.1 r = true) : zPic M0 Λ (pSR p r k v) (sR M (Λ r) k v) := by
  refine ⟨fun a ha => ?_, fun s hs => ?_⟩
  · obtain ⟨h1, h2, h3, h4, h5, h6, h7, h8, h9⟩ := h.1 a ha
    exact ⟨h1, h2, h3, h4, (u2_ne (h.old hr ha)).trans h5, h6, h7, h8, h9⟩
  · obtain ⟨h1, h6, h7, h8, h9⟩ := h.2 s hs
    refine ⟨h1, h6, ?_, h8, h9⟩
    by_cases e : s = r
    · exact u2_r h7 (congrArg Λ e) e
    · exact (u2_ne (h.ne hr hs e)).trans (h7.trans (u2_ne e).symm)
theorem zPic.k {p : zPc} {r : Nat} (h : zPic M0 Λ p M) (hr : p.1 r = true) : mK M (Λ r) = p.2.1 r := (h.2 r hr).1.2.2.1
/-- rules -/
theorem zh_new {p : zPc} {kind N : Nat} (r : Nat) (hd : decode (zMC mm) pc = .ok (.new ix, 3)) (hf : zNC (zMY mm).cls ix kind N) (hP : zPic M0 Λ p M) (hr : p.1 r = false) (hk : kind ≠ 0) (hn : pc + 3 = n) (hc1 : nc1 + 1 ≤ nc) (hs1 : ns1 + N ≤ ns) (kk : ∀ q M', zPic M0 (u1 Λ r q) (pNew p r kind 0) M' → zX Z l d mm n L (.ref q :: st) M' nc1 ns1 Q) : zX Z l d mm pc L st M nc ns Q :=
  zs_new r hd hf hn hc1 hs1 (fun q hq => kk q _ (hP.new hq hr hk))
theorem zh_newI {p : zPc} {N : Nat} {i : Int32} (r : Nat) (hd : decode (zMC mm) pc = .ok (.newarray .int, 2)) (hw : zwd (.arrayClass .int)) (hP : zPic M0 Λ p M) (hr : p.1 r = false) (hi : ¬ i < 0) (hN : i.toNatClampNeg = N) (hb : N ≤ 100000) (hn : pc + 2 = n) (hc1 : nc1 + 1 ≤ nc) (hs1 : ns1 + N ≤ ns) (kk : ∀ q M', zPic M0 (u1 Λ r q) (pNew p r 1 N) M' → zX Z l d mm n L (.ref q :: st) M' nc1 ns1 Q) : zX Z l d mm pc L (.int i :: st) M nc ns Q :=
  zs_newI r hd hw hi hN hb hn hc1 hs1 (fun q hq => kk q _ (hP.new hq hr (by decide)))
theorem zh_puti {p : zPc} {r a kind key : Nat} {fty : FieldType} {x : Int32} (ha : Λ r = a) (hd : decode (zMC mm) pc = .ok (.putfield ix, 3)) (hf : zPF mm ix kind key fty false) (hP : zPic M0 Λ p M) (hr : p.1 r = true) (hK : p.2.1 r = kind) (hfit : narrow fty (.int x) = .int x ∧ fits fty (.int x) = true) (hn : pc + 3 = n) (kk : ∀ M', zPic M0 Λ (pSI p r key x) M' → zX Z l d mm n L st M' nc ns Q) : zX Z l d mm pc L (.int x :: .ref a :: st) M nc ns Q := by
  subst ha
  exact zs_puti hd hf ((hP.k hr).trans hK) hfit hn (kk _ (hP.sI hr))
theorem zh_putr {p : zPc} {r a b kind key : Nat} {fty : FieldType} (ha : Λ r = a) (hd : decode (zMC mm) pc = .ok (.putfield ix, 3)) (hf : zPF mm ix kind key fty true) (hP : zPic M0 Λ p M) (hr : p.1 r = true) (hK : p.2.1 r = kind) (hfit : narrow fty (.ref b) = .ref b ∧ fits fty (.ref b) = true) (hn : pc + 3 = n) (kk : ∀ M', zPic M0 Λ (pSR p r key (some b)) M' → zX Z l d mm n L st M' nc ns Q) : zX Z l d mm pc L (.ref b :: .ref a :: st) M nc ns Q := by
  subst ha
  exact zs_putr hd hf ((hP.k hr).trans hK) hfit hn (kk _ (hP.sR hr))
theorem zh_getr {p : zPc} {r a b kind key : Nat} (ha : Λ r = a) (hd : decode (zMC mm) pc = .ok (.getfield ix, 3)) (hf : zGF (zMY mm).cls ix kind key true) (hP : zPic M0 Λ p M) (hr : p.1 r = true) (hK : p.2.1 r = kind) (hv : p.2.2.2.2.1 r key = some b) (hn : pc + 3 = n) (kk : zX Z l d mm n L (.ref b :: st) M nc ns Q) : zX Z l d mm pc L (.ref a :: st) M nc ns Q := by
  subst ha
  exact zs_getr hd hf ((hP.k hr).trans hK) (by rw [(hP.2 r hr).2.2.1]; exact hv) hn kk
theorem zh_linit {p : zPc} {r a : Nat} (ha : Λ r = a) (hd : decode (zMC mm) pc = .ok (.invokespecial ix, 3)) (hw : zwd (.methodLink (zMY mm).cls ix yJx4a65c_init_da8c8)) (hP : zPic M0 Λ p M) (hr : p.1 r = true) (hK : p.2.1 r = 14) (hst : st.length ≤ 4) (hdd : 2 < d) (hn : pc + 3 = n) (kk : ∀ M', zPic M0 Λ (pSR (pSI p r 128 0) r 129 (some (zPe Z))) M' → zX Z l d mm n L st M' nc ns Q) : zX Z l d mm pc L (.ref a :: st) M nc ns Q := by
  subst ha
  exact zc_linit hd hw ((hP.k hr).trans hK) hst hdd hn (kk _ ((hP.sI hr).sR hr))
-- what lives and of which kind, step by step
theorem qNa {p : zPc} {r k len : Nat} : (pNew p r k len).1 r = true := u1_at
theorem qNn {p : zPc} {r s k len : Nat} (hne : s ≠ r) {b : Bool} (h : p.1 s = b) : (pNew p r k len).1 s = b := (u1_ne hne).trans h
theorem qIn {p : zPc} {r s k : Nat} {v : Int32} {b : Bool} (h : p.1 s = b) : (pSI p r k v).1 s = b := h
theorem qRn {p : zPc} {r s k : Nat} {v : Option Nat} {b : Bool} (h : p.1 s = b) : (pSR p r k v).1 s = b := h
theorem kNa {p : zPc} {r k len : Nat} : (pNew p r k len).2.1 r = k := u1_at
theorem kNn {p : zPc} {r s k len : Nat} (hne : s ≠ r) {b : Nat} (h : p.2.1 s = b) : (pNew p r k len).2.1 s = b := (u1_ne hne).trans h
theorem kIn {p : zPc} {r s k : Nat} {v : Int32} {b : Nat} (h : p.2.1 s = b) : (pSI p r k v).2.1 s = b := h
theorem kRn {p : zPc} {r s k : Nat} {v : Option Nat} {b : Nat} (h : p.2.1 s = b) : (pSR p r k v).2.1 s = b := h
theorem rNn {p : zPc} {r s k len j : Nat} (hne : s ≠ r) {b : Option Nat} (h : p.2.2.2.2.1 s j = b) : (pNew p r k len).2.2.2.2.1 s j = b := (congrFun (u1_ne hne) j).trans h
theorem rIn {p : zPc} {r s k j : Nat} {v : Int32} {b : Option Nat} (h : p.2.2.2.2.1 s j = b) : (pSI p r k v).2.2.2.2.1 s j = b := h
theorem rRa {p : zPc} {r k : Nat} {v : Option Nat} : (pSR p r k v).2.2.2.2.1 r k = v := u2_at
theorem rRk {p : zPc} {r s k j : Nat} {v b : Option Nat} (hne : j ≠ k) (h : p.2.2.2.2.1 s j = b) : (pSR p r k v).2.2.2.2.1 s j = b := (u2_nk hne).trans h
theorem rRn {p : zPc} {r s k j : Nat} {v b : Option Nat} (hne : s ≠ r) (h : p.2.2.2.2.1 s j = b) : (pSR p r k v).2.2.2.2.1 s j = b := (congrFun (u2_ne hne) j).trans h
theorem lNa {r q : Nat} : u1 Λ r q r = q := u1_at
theorem lNn {r s q a : Nat} (hne : s ≠ r) (h : Λ s = a) : u1 Λ r q s = a := (u1_ne hne).trans h
end ZPIC
