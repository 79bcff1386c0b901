/-! THE REFERENCE'S CONSTRUCTOR 1: new boolean[8][8] -/
def zRows (M : zMem) (r gr : Nat → Nat) (j : Nat) : zMem := zit (fun i M => zNew M (r i) 2 8 (gr i)) j M
section ZMNA
variable {Z : zPar} {l : Launch} {d : Nat} {mm : zMeth} {pc n nc ns ix nc1 ns1 q : Nat} {L : List (Nat × Value)} {st : List Value} {M0 M : zMem} {Q : zO → zMem → Prop} {Λ r gr : Nat → Nat} {ws tl : va_W}
theorem zRows_at (hinj : ∀ i j, i < 8 → j < 8 → r i = r j → i = j) {i : Nat} : ∀ j, j ≤ 8 → i < j → mK (zRows M r gr j) (r i) = 2 ∧ mN (zRows M r gr j) (r i) = 8 ∧ mG (zRows M r gr j) (r i) = gr i ∧ vI (zRows M r gr j) (r i) = (fun _ => 0) ∧ vR (zRows M r gr j) (r i) = (fun _ => none) ∧ aI (zRows M r gr j) (r i) = (fun _ => 0) ∧ aR (zRows M r gr j) (r i) = (fun _ => none)
  | j + 1, h8, hi => by
    have e : zRows M r gr (j + 1) = zNew (zRows M r gr j) (r j) 2 8 (gr j) := rfl
    rw [e]
    by_cases g : i = j
    · subst g
      exact ⟨u1_at, u1_at, u1_at, u1_at, u1_at, u1_at, u1_at⟩
    · have hne : r i ≠ r j := fun q => g (hinj i j (by omega) (by omega) q)
      obtain ⟨h1, h2, h3, h4, h5, h6, h7⟩ := zRows_at hinj (i := i) j (by omega) (by omega)
      exact ⟨(u1_ne hne).trans h1, (u1_ne hne).trans h2, (u1_ne hne).trans h3, (u1_ne hne).trans h4, (u1_ne hne).trans h5, (u1_ne hne).trans h6, (u1_ne hne).trans h7⟩
theorem zRows_ne {b : Nat} : ∀ j, (∀ i, i < j → b ≠ r i) → zAg M (zRows M r gr j) b
  | 0, _ => ⟨rfl, rfl, rfl, rfl, rfl, rfl, rfl, rfl, rfl⟩
  | j + 1, h => by
    have e : zRows M r gr (j + 1) = zNew (zRows M r gr j) (r j) 2 8 (gr j) := rfl
    rw [e]
    have hne := h j (by omega)
    obtain ⟨h1, h2, h3, h4, h5, h6, h7, h8, h9⟩ := zRows_ne (b := b) j (fun i hi => h i (by omega))
    exact ⟨(u1_ne hne).trans h1, (u1_ne hne).trans h2, (u1_ne hne).trans h3, (u1_ne hne).trans h4, (u1_ne hne).trans h5, (u1_ne hne).trans h6, (u1_ne hne).trans h7, (u1_ne hne).trans h8, (u1_ne hne).trans h9⟩
theorem zRows_co (hC : zCo Z M) : ∀ j, zCo Z (zRows M r gr j)
  | 0 => hC
  | j + 1 => zNew_co (by decide) (by decide) (zRows_co hC j)
theorem zFreshA (hI : zIn Z M ws) (hC : zCo Z M) (hD : va_D (zA Z) (ws ++ tl)) {k : Nat} {x : Nat × va_E} (hx : tl[k]? = some x) : mK M x.1 = 0 := by
  have hlast : (ws ++ tl)[ws.length + k]? = some x := by rw [List.getElem?_append_right (by omega), Nat.add_sub_cancel_left]; exact hx
  have hb : zPb Z ≤ x.1 := hD.2 _ _ hlast
  by_cases h7 : mK M x.1 = 7
  · have := (hC.1 x.1 h7).2.1
    omega
  · by_cases h8 : mK M x.1 = 8
    · obtain ⟨j, -, -, -, h⟩ := hC.2 x.1 h8
      omega
    · by_cases h0 : mK M x.1 = 0
      · exact h0
      · obtain ⟨k', hk⟩ := hI x.1 ⟨h0, h7, h8⟩
        have hlt := (List.getElem?_eq_some_iff.mp hk).1
        have h1 : (ws ++ tl)[k']? = some (x.1, zEnt Z M x.1) := by rw [List.getElem?_append_left hlt]; exact hk
        have := hD.1 _ _ _ _ h1 hlast rfl
        omega
theorem zs_mna (hd : decode (zMC mm) pc = .ok (.multianewarray ix 2, 4)) (hw1 : zwd (.classLink (zMY mm).cls ix "[[Z")) (hw2 : zwd (.arrayOver (.array .boolean))) (hw3 : zwd (.arrayClass .boolean)) (hn : pc + 4 = n) (hc1 : nc1 + 9 ≤ nc) (hs1 : ns1 + 72 ≤ ns) (g : Nat)
    (k : ∀ q r, mK M q = 0 → (∀ i, i < 8 → mK M (r i) = 0 ∧ r i ≠ q) → (∀ i j, i < 8 → j < 8 → r i = r j → i = j) → zX Z l d mm n L (.ref q :: st) (zRows (sARr (zNew M q 4 8 g) q (fun i => if i < 8 then some (r i) else none)) r gr 8) nc1 ns1 Q) : zX Z l d mm pc L (.int 8 :: .int 8 :: st) M nc ns Q := by
  subst hn
  intro p e R s m args below meth c H locs cells slots QF ls C hl hM hS hc hs hE
  obtain ⟨ws, hP, hD, hI, hC⟩ := hM
  have hW := C.2.2.2.2.2.2.2.2.2.1
  have hKs := C.2.2.2.2.2.2.2.2.2.2.1
  have hcy : s.vm.findClass (FieldType.array .boolean).toString = some (zPt Z 1) := (hKs.2 1 _ rfl).2
  have hP0 : va_P (zPD Z) vwCl (ws ++ va_pl [] (fun _ => .inr (0, []))) H := by
    rw [show va_pl [] (fun _ => (.inr (0, []) : va_E)) = [] from rfl, List.append_nil]
    exact hP
  have hD0 : va_D (zA Z) (ws ++ va_pl [] (fun _ => .inr (0, []))) := by
    rw [show va_pl [] (fun _ => (.inr (0, []) : va_E)) = [] from rfl, List.append_nil]
    exact hD
  refine va_mna (N' := 8) (K' := 8) (z := (8, .inl (fun _ => 0))) C.1 C.2.1 C.2.2.2.1 (hW.use hw1.1 hw1.2) (hW _ hw2.1 hw2.2) (hW.use hw3.1 hw3.2) hcy hKs hP0 hD0 hS (fun q hq => Nat.le_trans C.2.2.2.2.2.2.2.2.2.2.2.2.1 hq) (by decide) (by decide) (by decide) (by decide) (by decide) (by decide) (by decide) (by decide) (by decide) (by omega) (by omega) (fun c => ?_) hd (fun q r cA H1 hinj hnl hK1 hP1 hD1 hS1 => ?_)
  · rfl
  · have h6 : (zTy Z ++ [(cA, FieldType.array .boolean)])[6]? = some (cA, .array .boolean) := rfl
    have hcA : cA = zPt Z 3 := zra_str (ty := .array .boolean) (fun _ _ => rfl) s _ _ (hK1.2 6 _ h6).2 (hKs.2 3 _ rfl).2
    subst hcA
    have ews : (ws ++ [(q, (.inl (zPt Z 3, 8, .inr (.inr (.inr (.inr (fun i => if i < 8 then some (r i) else none))))) : va_E))]) ++ va_pl ([] ++ (List.range 8).map r) (vr_up (fun _ => (.inr (0, []) : va_E)) ((List.range 8).map r) (.inl (zPt Z 1, (8, .inl (fun _ => 0))))) = ws ++ ((q, (.inl (zPt Z 3, 8, .inr (.inr (.inr (.inr (fun i => if i < 8 then some (r i) else none))))) : va_E)) :: va_pl ((List.range 8).map r) (vr_up (fun _ => (.inr (0, []) : va_E)) ((List.range 8).map r) (.inl (zPt Z 1, (8, .inl (fun _ => 0)))))) := by
      rw [List.append_assoc]
      rfl
    have hD2 := hD1
    rw [ews] at hD2
    have ht0 : ∀ (i : Nat), i < 8 → (((q, (.inl (zPt Z 3, 8, .inr (.inr (.inr (.inr (fun i => if i < 8 then some (r i) else none))))) : va_E)) :: va_pl ((List.range 8).map r) (vr_up (fun _ => (.inr (0, []) : va_E)) ((List.range 8).map r) (.inl (zPt Z 1, (8, .inl (fun _ => 0)))))) : va_W)[i + 1]? = some (r i, .inl (zPt Z 1, (8, .inl (fun _ => 0)))) := by
      intro i hi
      rw [List.getElem?_cons_succ]
      unfold va_pl
      rw [List.getElem?_map, List.getElem?_map, List.getElem?_range hi]
      show some (r i, vr_up (fun _ => (.inr (0, []) : va_E)) ((List.range 8).map r) (.inl (zPt Z 1, (8, .inl (fun _ => 0)))) (r i)) = _
      rw [vr_up_in (List.mem_map.mpr ⟨i, List.mem_range.mpr hi, rfl⟩)]
    have hq0 : mK M q = 0 := zFreshA (k := 0) hI hC hD2 rfl
    have hr0 : ∀ i, i < 8 → mK M (r i) = 0 ∧ r i ≠ q := fun i hi => by
      refine ⟨zFreshA hI hC hD2 (ht0 i hi), fun e => ?_⟩
      have q1 : (ws ++ ((q, (.inl (zPt Z 3, 8, .inr (.inr (.inr (.inr (fun i => if i < 8 then some (r i) else none))))) : va_E)) :: va_pl ((List.range 8).map r) (vr_up (fun _ => (.inr (0, []) : va_E)) ((List.range 8).map r) (.inl (zPt Z 1, (8, .inl (fun _ => 0)))))))[ws.length + (i + 1)]? = some (r i, .inl (zPt Z 1, (8, .inl (fun _ => 0)))) := by
        rw [List.getElem?_append_right (by omega), Nat.add_sub_cancel_left]
        exact ht0 i hi
      have q2 : (ws ++ ((q, (.inl (zPt Z 3, 8, .inr (.inr (.inr (.inr (fun i => if i < 8 then some (r i) else none))))) : va_E)) :: va_pl ((List.range 8).map r) (vr_up (fun _ => (.inr (0, []) : va_E)) ((List.range 8).map r) (.inl (zPt Z 1, (8, .inl (fun _ => 0)))))))[ws.length]? = some (q, (.inl (zPt Z 3, 8, .inr (.inr (.inr (.inr (fun i => if i < 8 then some (r i) else none))))) : va_E)) := by
        rw [List.getElem?_append_right (Nat.le_refl _), Nat.sub_self]
        rfl
      have := hD2.1 _ _ _ _ q1 q2 e
      omega
    refine k q r hq0 hr0 hinj p e R s m args below meth c H1 locs (cells + 1 + 8) (slots + 8 + 8 * 8) QF ls C hl ⟨_, hP1, hD1, ?_, zRows_co (M := sARr (zNew M q 4 8 g) q (fun i => if i < 8 then some (r i) else none)) (zNew_co (kind := 4) (g := g) (by decide) (by decide) hC) 8⟩ hS1 (by omega) (by omega) hE
    rw [ews]
    intro b hb
    by_cases hbr : ∃ i, i < 8 ∧ b = r i
    · obtain ⟨i, hi, rfl⟩ := hbr
      obtain ⟨h1, h2, -, -, -, h5, -⟩ := zRows_at (M := sARr (zNew M q 4 8 g) q (fun i => if i < 8 then some (r i) else none)) (gr := gr) hinj (i := i) 8 (Nat.le_refl _) hi
      refine ⟨ws.length + (i + 1), ?_⟩
      rw [List.getElem?_append_right (by omega), Nat.add_sub_cancel_left, ht0 i hi, zE2 h1, h2, h5]
    · obtain ⟨h1, h2, h3, h4, h5, h6, h7, h8, h9⟩ := zRows_ne (M := sARr (zNew M q 4 8 g) q (fun i => if i < 8 then some (r i) else none)) (r := r) (gr := gr) (b := b) 8 (fun i hi e => hbr ⟨i, hi, e⟩)
      rw [zEnt_ne h1 h2 h4 h5 h6 h7 h8 h9]
      by_cases hbq : b = q
      · subst hbq
        refine ⟨ws.length, ?_⟩
        rw [List.getElem?_append_right (Nat.le_refl _), Nat.sub_self, zE4 (u1_at : mK (zNew M b 4 8 g) b = 4)]
        show some (b, _) = some (b, (.inl (zPt Z 3, u1 (mN M) b 8 b, .inr (.inr (.inr (.inr (u1 (u1 (aR M) b (fun _ => none)) b (fun i => if i < 8 then some (r i) else none) b))))) : va_E))
        rw [u1_at, u1_at]
      · have hb' : zLive M b := by
          obtain ⟨l1, l2, l3⟩ := hb
          have e : mK (zNew M q 4 8 g) b = mK M b := u1_ne hbq
          rw [h1] at l1 l2 l3
          exact ⟨by rw [← e]; exact l1, by rw [← e]; exact l2, by rw [← e]; exact l3⟩
        obtain ⟨k, hk⟩ := hI b hb'
        have e2 : zEnt Z (sARr (zNew M q 4 8 g) q (fun i => if i < 8 then some (r i) else none)) b = zEnt Z (zNew M q 4 8 g) b := zEnt_ne (M := zNew M q 4 8 g) (M' := sARr (zNew M q 4 8 g) q (fun i => if i < 8 then some (r i) else none)) rfl rfl rfl rfl rfl (u1_ne hbq) rfl rfl
        refine ⟨k, ?_⟩
        rw [List.getElem?_append_left (List.getElem?_eq_some_iff.mp hk).1, hk, e2, zNew_ne hbq]
end ZMNA
