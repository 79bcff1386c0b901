/-! OPERATIONS 13: turns by lots on both sides -/
section ZOP13A
variable {S S' : zSt} {P n : Nat} {A : Nat → Nat}
/-- all turns are taken away -/
theorem rel_clear (h : rRel S) (h0 : sV S 7 228 = 0) (hc : ∀ q, sc S' q = if (10 ≤ q ∧ q < 10 + sc S 0) ∨ (1010 ≤ q ∧ q < 1010 + sc S 0) then 0 else sc S q) (hV : sV S' = sV S) (hW : sW S' = sW S) (hT : sT S' = sT S) (hP : sP S' = sP S) : rRel S' := by
  have b0 := h.b0
  have hn : ∀ q, ¬ (10 ≤ q ∧ q < 10 + sc S 0) → ¬ (1010 ≤ q ∧ q < 1010 + sc S 0) → sc S' q = sc S q := fun q h1 h2 => by rw [hc q, if_neg (by omega)]
  have n0 := hn 0 (by omega) (by omega)
  have n1 := hn 1 (by omega) (by omega)
  have n2 := hn 2 (by omega) (by omega)
  have z1 : ∀ i, i < 6 → sc S' (10 + i) = 0 := fun i hi => by
    rw [hc]
    split
    · rfl
    · exact h.ct.2.2.1 i hi (by omega)
  have z2 : ∀ i, i < 6 → sc S' (1010 + i) = 0 := fun i hi => by
    rw [hc]
    split
    · rfl
    · rw [h.ct.2.1 i hi]
      exact h.ct.2.2.1 i hi (by omega)
  have ev : ∀ r, eqV S S' r := fun r k _ => by rw [hV]
  have ew : ∀ r, eqW S S' r := fun r k => by rw [hW]
  obtain ⟨⟨t1, t2, t3⟩, t4, t5, ⟨t6, t7, t8⟩, t9, t10, t11, t12⟩ := h.ct
  refine ⟨⟨⟨⟨?_, ?_, ?_⟩, fun i hi => by rw [z1 i hi, z2 i hi], fun i hi _ => z1 i hi, ⟨?_, ?_, ?_⟩, by rw [n0]; exact t9, by rw [n1]; exact t10, by rw [n2]; exact t11, fun i hi => by rw [z1 i hi]; omega⟩, h.pi.ex n0 (fun i _ => ⟨ev _, ev _, ew _, ew _⟩), h.ac.ex n1 (fun a _ => ⟨ev _, ev _⟩), h.gr.ex n1 (fun a _ => ⟨ev _, ev _⟩), by rw [n1, hW]; exact h.cu⟩, ⟨fun i k hi hk => ?_, fun i j k m hi hj hk hm => ?_, h.vi.ex n2 (Nat.le_of_eq n0.symm) (fun j _ => by rw [hP]) (fun j _ => ⟨ev _, ev _⟩), h.lo.ex (hn _ (by omega) (by omega)) (Nat.le_of_eq n1.symm) (ev _) (ev _) (fun j _ => by rw [hV]) (fun r _ => ew r)⟩, h.we.ex (ev _) (ev _) (ev _), h.da.ex (hn _ (by omega) (by omega)) (ev _) (ev _) (ev _) (fun a _ _ => by rw [hV]) (ew _), fun _ => ⟨fun i k hi hk => ?_, fun j hj => ?_⟩, ⟨?_, fun i hi k hk => ?_⟩, by rw [hP]; exact h.p10⟩
  · rw [hn _ (by omega) (by omega), n0]; exact t1
  · rw [hn _ (by omega) (by omega), n1]; exact t2
  · rw [hn _ (by omega) (by omega), n2]; exact t3
  · rw [hn _ (by omega) (by omega)]; exact t6
  · rw [hn _ (by omega) (by omega)]; exact t7
  · rw [hn _ (by omega) (by omega)]; exact t8
  · rw [n0] at hi
    rw [z1 i (by omega)] at hk
    exact absurd hk (by omega)
  · rw [n0] at hi
    rw [z1 i (by omega)] at hk
    exact absurd hk (by omega)
  · rw [n0] at hi
    rw [z1 i (by omega)] at hk
    exact absurd hk (by omega)
  · rw [n2] at hj
    rw [hV]
    exact (h.fr h0).2 j hj
  · rw [n1, hV, fMoney_ex (S := S) (S' := S') _ (fun a _ => ev _)]
    exact h.so.1
  · rw [n0] at hi
    rw [z1 i (by omega)] at hk
    exact absurd hk (by omega)
/-- both sides step by step -/
def tU (S : zSt) (P : Nat) (A : Nat → Nat) (j : Nat) : zSt := zit (fun k T => fTurnM (fAddTurn T (k % P) (A k)) (k % P) (A k)) j (wC S (fun q => if (10 ≤ q ∧ q < 10 + P) ∨ (1010 ≤ q ∧ q < 1010 + P) then 0 else sc S q))
theorem tU_s {j : Nat} : tU S P A (j + 1) = fTurnM (fAddTurn (tU S P A j) (j % P) (A j)) (j % P) (A j) := rfl
theorem tU_rel (h : rRel S) (h0 : sV S 7 228 = 0) (hP : sc S 0 = P) (hP0 : 0 < P) (hn : n ≤ 8) (hA : ∀ j, j < n → A j < sc S 1) (hinj : ∀ i j, i < j → j < n → A i ≠ A j) : ∀ j, j ≤ n → rRel (tU S P A j) ∧ (sc (tU S P A j) 0 = P ∧ sc (tU S P A j) 1 = sc S 1) ∧ ∀ i, i < P → sc (tU S P A j) (10 + i) ≤ j ∧ ∀ k, k < sc (tU S P A j) (10 + i) → ∃ t, t < j ∧ sT (tU S P A j) i k = A t := by
  have b0 := h.b0
  intro j
  induction j with
  | zero =>
    intro _
    refine ⟨rel_clear h h0 (fun q => by rw [hP]; rfl) rfl rfl rfl rfl, ⟨?_, ?_⟩, fun i hi => ?_⟩
    · show (if (10 ≤ 0 ∧ 0 < 10 + P) ∨ (1010 ≤ 0 ∧ 0 < 1010 + P) then 0 else sc S 0) = P
      rw [if_neg (by omega), hP]
    · show (if (10 ≤ 1 ∧ 1 < 10 + P) ∨ (1010 ≤ 1 ∧ 1 < 1010 + P) then 0 else sc S 1) = sc S 1
      rw [if_neg (by omega)]
    · have e : sc (tU S P A 0) (10 + i) = 0 := by
        show (if (10 ≤ 10 + i ∧ 10 + i < 10 + P) ∨ (1010 ≤ 10 + i ∧ 10 + i < 1010 + P) then 0 else sc S (10 + i)) = 0
        rw [if_pos (by omega)]
      rw [e]
      exact ⟨Nat.le_refl _, fun k hk => absurd hk (Nat.not_lt_zero _)⟩
  | succ j ih =>
    intro hj
    obtain ⟨hR, ⟨e0, e1⟩, hI⟩ := ih (by omega)
    have hm := Nat.mod_lt j hP0
    have hck := hR.ck (i := j % P) (by rw [e0]; exact hm)
    obtain ⟨hle, -⟩ := hI (j % P) hm
    rw [tU_s]
    generalize hT : tU S P A j = T at *
    generalize hi : j % P = i at *
    have q1 : sc (fAddTurn T i (A j)) (1010 + i) = sc T (10 + i) := (cset_ne (by omega)).trans hck
    have q2 : sc (fTurnM (fAddTurn T i (A j)) i (A j)) = cset (cset (sc T) (10 + i) (sc T (10 + i) + 1)) (1010 + i) (sc T (10 + i) + 1) := by
      show cset (cset (sc T) (10 + i) (sc T (10 + i) + 1)) (1010 + i) (sc (fAddTurn T i (A j)) (1010 + i) + 1) = _
      rw [q1]
    have q3 : sV (fTurnM (fAddTurn T i (A j)) i (A j)) = u1 (u1 (sV T) (160 + 8 * i + sc T (10 + i)) (fun _ => 0)) (1160 + 8 * i + sc T (10 + i)) (fun k => if k = 608 then nI (A j) else if k = 609 then -1 else 0) := by
      show u1 (u1 (sV T) (160 + 8 * i + sc T (10 + i)) (fun _ => 0)) (1160 + 8 * i + sc (fAddTurn T i (A j)) (1010 + i)) (fun k => if k = 608 then nI (A j) else if k = 609 then -1 else 0) = _
      rw [q1]
    have q4 : sW (fTurnM (fAddTurn T i (A j)) i (A j)) = u1 (u1 (sW T) (160 + 8 * i + sc T (10 + i)) (fun _ => 0)) (1160 + 8 * i + sc T (10 + i)) (fun _ => 0) := by
      show u1 (u1 (sW T) (160 + 8 * i + sc T (10 + i)) (fun _ => 0)) (1160 + 8 * i + sc (fAddTurn T i (A j)) (1010 + i)) (fun _ => 0) = _
      rw [q1]
    have q5 : sT (fTurnM (fAddTurn T i (A j)) i (A j)) = u2 (sT T) i (sc T (10 + i)) (A j) := rfl
    refine ⟨rel_addTurn (i := i) (a := A j) (n := sc T (10 + i)) hR (by rw [e0]; exact hm) (by rw [e1]; exact hA j (by omega)) rfl (by omega) (fun i' k hi' hne hk => ?_) ?_ ?_ (fun k k1 k2 => ?_) (fun i' k hne => ?_) ?_ (fun _ _ => rfl) (fun r k _ h1 h2 => ?_) (fun r k h1 h2 => ?_) (fun k _ => ?_) (fun k _ => ?_), ⟨?_, ?_⟩, fun i' hi' => ⟨?_, fun k hk => ?_⟩⟩
    · rw [e0] at hi'
      obtain ⟨t, t1, t2⟩ := (hI i' hi').2 k hk
      rw [t2]
      exact hinj t j t1 (by omega)
    · rw [q2, cset_ne (by omega), cset_at]
    · rw [q2, cset_at]
    · rw [q2, cset_ne k2, cset_ne k1]
    · rw [q5, u2_if, if_neg (fun g => hne ⟨g.2, g.1⟩)]
    · rw [q5, u2_at]
    · rw [q3, u1_ne h2, u1_ne h1]
    · rw [q4, u1_ne h2, u1_ne h1]
    · rw [q3, u1_ne (by omega), u1_at]
    · rw [q3, u1_at]
    · rw [q2, cset_ne (by omega), cset_ne (by omega)]
      exact e0
    · rw [q2, cset_ne (by omega), cset_ne (by omega)]
      exact e1
    · rw [q2, cset_ne (by omega)]
      by_cases g : i' = i
      · rw [g, cset_at]
        omega
      · rw [cset_ne (by omega)]
        have := (hI i' hi').1
        omega
    · rw [q2, cset_ne (by omega)] at hk
      rw [q5]
      by_cases g : i' = i
      · rw [g, cset_at] at hk
        rw [g, u2_if]
        by_cases g2 : k = sc T (10 + i)
        · rw [if_pos ⟨g2, rfl⟩]
          exact ⟨j, by omega, rfl⟩
        · rw [if_neg (fun q => g2 q.1)]
          obtain ⟨t, t1, t2⟩ := (hI i hm).2 k (by omega)
          exact ⟨t, by omega, t2⟩
      · rw [cset_ne (by omega)] at hk
        rw [u2_if, if_neg (fun q => g q.2)]
        obtain ⟨t, t1, t2⟩ := (hI i' hi').2 k hk
        exact ⟨t, by omega, t2⟩
/-- the class's part lies under the number 1000 -/
theorem tU_cls (hP : sc S 0 = P) (hP0 : 0 < P) (hP6 : P ≤ 6) : ∀ j, j ≤ 8 → (∀ i, i < P → sc (tU S P A j) (10 + i) ≤ j) ∧ (∀ q, q < 1000 → sc (fTB S P A j) q = sc (tU S P A j) q) ∧ (∀ q, 1000 ≤ q → sc (fTB S P A j) q = sc S q) ∧ (∀ r, r < 1000 → sV (fTB S P A j) r = sV (tU S P A j) r ∧ sW (fTB S P A j) r = sW (tU S P A j) r) ∧ (∀ r, 1000 ≤ r → sV (fTB S P A j) r = sV S r ∧ sW (fTB S P A j) r = sW S r) ∧ sT (fTB S P A j) = sT (tU S P A j) ∧ sP (fTB S P A j) = sP S ∧ sP (tU S P A j) = sP S := by
  intro j
  induction j with
  | zero =>
    intro _
    have e : ∀ q, sc (tU S P A 0) q = if (10 ≤ q ∧ q < 10 + P) ∨ (1010 ≤ q ∧ q < 1010 + P) then 0 else sc S q := fun q => rfl
    have e2 : ∀ q, sc (fTB S P A 0) q = if 10 ≤ q ∧ q < 10 + P then 0 else sc S q := fun q => by
      show fClr (sc S 0) (sc S) q = _
      rw [hP, fClr_if]
    refine ⟨fun i hi => ?_, fun q hq => ?_, fun q hq => ?_, fun r _ => ⟨rfl, rfl⟩, fun r _ => ⟨rfl, rfl⟩, rfl, rfl, rfl⟩
    · rw [e, if_pos (by omega)]
      exact Nat.le_refl _
    · rw [e, e2]
      by_cases g : 10 ≤ q ∧ q < 10 + P
      · rw [if_pos g, if_pos (by omega)]
      · rw [if_neg g, if_neg (by omega)]
    · rw [e2, if_neg (by omega)]
  | succ j ih =>
    intro hj
    obtain ⟨h1, h2, h3, h4, h5, h6, h7, h8⟩ := ih (by omega)
    have hm := Nat.mod_lt j hP0
    have hle := h1 _ hm
    have e : fTB S P A (j + 1) = fAddTurn (fTB S P A j) (j % P) (A j) := rfl
    rw [tU_s, e]
    generalize tU S P A j = T at *
    generalize fTB S P A j = B at *
    generalize j % P = i at *
    have ec := h2 (10 + i) (by omega)
    have qc : ∀ q, sc (fTurnM (fAddTurn T i (A j)) i (A j)) q = cset (cset (sc T) (10 + i) (sc T (10 + i) + 1)) (1010 + i) (sc (fAddTurn T i (A j)) (1010 + i) + 1) q := fun q => rfl
    have qV : sV (fTurnM (fAddTurn T i (A j)) i (A j)) = u1 (u1 (sV T) (160 + 8 * i + sc T (10 + i)) (fun _ => 0)) (1160 + 8 * i + sc (fAddTurn T i (A j)) (1010 + i)) (fun k => if k = 608 then nI (A j) else if k = 609 then -1 else 0) := rfl
    have qW : sW (fTurnM (fAddTurn T i (A j)) i (A j)) = u1 (u1 (sW T) (160 + 8 * i + sc T (10 + i)) (fun _ => 0)) (1160 + 8 * i + sc (fAddTurn T i (A j)) (1010 + i)) (fun _ => 0) := rfl
    have pc : ∀ q, sc (fAddTurn B i (A j)) q = cset (sc B) (10 + i) (sc T (10 + i) + 1) q := fun q => by
      show cset (sc B) (10 + i) (sc B (10 + i) + 1) q = _
      rw [ec]
    have pV : sV (fAddTurn B i (A j)) = u1 (sV B) (160 + 8 * i + sc T (10 + i)) (fun _ => 0) := by
      show u1 (sV B) (160 + 8 * i + sc B (10 + i)) (fun _ => 0) = _
      rw [ec]
    have pW : sW (fAddTurn B i (A j)) = u1 (sW B) (160 + 8 * i + sc T (10 + i)) (fun _ => 0) := by
      show u1 (sW B) (160 + 8 * i + sc B (10 + i)) (fun _ => 0) = _
      rw [ec]
    refine ⟨fun i' hi' => ?_, fun q hq => ?_, fun q hq => ?_, fun r hr => ?_, fun r hr => ?_, ?_, h7, h8⟩
    · rw [qc, cset_ne (by omega)]
      by_cases g : i' = i
      · rw [g, cset_at]
        omega
      · rw [cset_ne (by omega)]
        have := h1 i' hi'
        omega
    · rw [pc, qc, cset_ne (show q ≠ 1010 + i by omega)]
      by_cases g : q = 10 + i
      · rw [g, cset_at, cset_at]
      · rw [cset_ne g, cset_ne g]
        exact h2 q hq
    · rw [pc, cset_ne (by omega)]
      exact h3 q hq
    · rw [pV, pW, qV, qW, u1_ne (show r ≠ 1160 + 8 * i + sc (fAddTurn T i (A j)) (1010 + i) by omega), u1_ne (show r ≠ 1160 + 8 * i + sc (fAddTurn T i (A j)) (1010 + i) by omega)]
      by_cases g : r = 160 + 8 * i + sc T (10 + i)
      · rw [g, u1_at, u1_at, u1_at, u1_at]
        exact ⟨rfl, rfl⟩
      · rw [u1_ne g, u1_ne g, u1_ne g, u1_ne g]
        exact h4 r hr
    · rw [pV, pW, u1_ne (by omega), u1_ne (by omega)]
      exact h5 r hr
    · show u2 (sT B) i (sc B (10 + i)) (A j) = u2 (sT T) i (sc T (10 + i)) (A j)
      rw [h6, ec]
end ZOP13A
section ZOP13
variable {Z : zPar} {l : Launch} {x m o od : Nat} {S B : zSt} {P n : Nat} {A : Nat → Nat}
/-- the reference's part lies from the number 1000 on -/
theorem tU_mod (hP : sc S 0 = P) (hP0 : 0 < P) (hP6 : P ≤ 6) (hB : sc B 1000 = P) (hBc : ∀ q, 1000 ≤ q → sc B q = sc S q) (hBV : ∀ r, 1000 ≤ r → sV B r = sV S r ∧ sW B r = sW S r) : ∀ j, j ≤ 8 → (∀ q, 1000 ≤ q → sc (fTBM B A j) q = sc (tU S P A j) q) ∧ (∀ q, q < 1000 → sc (fTBM B A j) q = sc B q) ∧ (∀ r, 1000 ≤ r → (∀ k, k ≠ 672 → sV (fTBM B A j) r k = sV (tU S P A j) r k) ∧ sW (fTBM B A j) r = sW (tU S P A j) r) ∧ (∀ r, r < 1000 → (∀ k, k ≠ 672 → sV (fTBM B A j) r k = sV B r k) ∧ sW (fTBM B A j) r = sW B r) ∧ sT (fTBM B A j) = sT B ∧ sP (fTBM B A j) = sP B ∧ sV (fTBM B A j) 1001 672 = 0 := by
  intro j
  induction j with
  | zero =>
    intro _
    have e : ∀ q, sc (tU S P A 0) q = if (10 ≤ q ∧ q < 10 + P) ∨ (1010 ≤ q ∧ q < 1010 + P) then 0 else sc S q := fun q => rfl
    have e2 : ∀ q, sc (fTBM B A 0) q = if 1010 ≤ q ∧ q < 1010 + P then 0 else sc B q := fun q => by
      show fClrM (sc B 1000) (sc B) q = _
      rw [hB, fClrM_if]
    have eV : ∀ r k, sV (fTBM B A 0) r k = u2 (sV B) 1001 672 0 r k := fun r k => rfl
    refine ⟨fun q hq => ?_, fun q hq => ?_, fun r hr => ⟨fun k hk => ?_, (hBV r hr).2⟩, fun r hr => ⟨fun k hk => ?_, rfl⟩, rfl, rfl, ?_⟩
    · rw [e, e2, hBc q hq]
      by_cases g : 1010 ≤ q ∧ q < 1010 + P
      · rw [if_pos g, if_pos (by omega)]
      · rw [if_neg g, if_neg (by omega)]
    · rw [e2, if_neg (by omega)]
    · rw [eV, u2_k hk, (hBV r hr).1]
      rfl
    · rw [eV, u2_k hk]
    · rw [eV, u2_at]
  | succ j ih =>
    intro hj
    obtain ⟨h1, h2, h3, h4, h5, h6, h7⟩ := ih (by omega)
    have hm := Nat.mod_lt j hP0
    have hle := (tU_cls (A := A) hP hP0 hP6 j (by omega)).1 _ hm
    have e : fTBM B A (j + 1) = fTurnM (fTBM B A j) (j % sc B 1000) (A j) := rfl
    rw [tU_s, e, hB]
    generalize tU S P A j = T at *
    generalize fTBM B A j = D at *
    generalize j % P = i at *
    have q1 : sc (fAddTurn T i (A j)) (1010 + i) = sc T (1010 + i) := cset_ne (by omega)
    have qc : sc (fTurnM (fAddTurn T i (A j)) i (A j)) = cset (cset (sc T) (10 + i) (sc T (10 + i) + 1)) (1010 + i) (sc T (1010 + i) + 1) := by
      show cset (cset (sc T) (10 + i) (sc T (10 + i) + 1)) (1010 + i) (sc (fAddTurn T i (A j)) (1010 + i) + 1) = _
      rw [q1]
    have qV : sV (fTurnM (fAddTurn T i (A j)) i (A j)) = u1 (u1 (sV T) (160 + 8 * i + sc T (10 + i)) (fun _ => 0)) (1160 + 8 * i + sc T (1010 + i)) (fun k => if k = 608 then nI (A j) else if k = 609 then -1 else 0) := by
      show u1 (u1 (sV T) (160 + 8 * i + sc T (10 + i)) (fun _ => 0)) (1160 + 8 * i + sc (fAddTurn T i (A j)) (1010 + i)) (fun k => if k = 608 then nI (A j) else if k = 609 then -1 else 0) = _
      rw [q1]
    have qW : sW (fTurnM (fAddTurn T i (A j)) i (A j)) = u1 (u1 (sW T) (160 + 8 * i + sc T (10 + i)) (fun _ => 0)) (1160 + 8 * i + sc T (1010 + i)) (fun _ => 0) := by
      show u1 (u1 (sW T) (160 + 8 * i + sc T (10 + i)) (fun _ => 0)) (1160 + 8 * i + sc (fAddTurn T i (A j)) (1010 + i)) (fun _ => 0) = _
      rw [q1]
    have ec := h1 (1010 + i) (by omega)
    have pc : sc (fTurnM D i (A j)) = cset (sc D) (1010 + i) (sc T (1010 + i) + 1) := by
      show cset (sc D) (1010 + i) (sc D (1010 + i) + 1) = _
      rw [ec]
    have pV : sV (fTurnM D i (A j)) = u1 (sV D) (1160 + 8 * i + sc T (1010 + i)) (fun k => if k = 608 then nI (A j) else if k = 609 then -1 else 0) := by
      show u1 (sV D) (1160 + 8 * i + sc D (1010 + i)) (fun k => if k = 608 then nI (A j) else if k = 609 then -1 else 0) = _
      rw [ec]
    have pW : sW (fTurnM D i (A j)) = u1 (sW D) (1160 + 8 * i + sc T (1010 + i)) (fun _ => 0) := by
      show u1 (sW D) (1160 + 8 * i + sc D (1010 + i)) (fun _ => 0) = _
      rw [ec]
    refine ⟨fun q hq => ?_, fun q hq => ?_, fun r hr => ⟨fun k hk => ?_, ?_⟩, fun r hr => ⟨fun k hk => ?_, ?_⟩, h5, h6, ?_⟩
    · rw [pc, qc]
      by_cases g : q = 1010 + i
      · rw [g, cset_at, cset_at]
      · rw [cset_ne g, cset_ne g, cset_ne (show q ≠ 10 + i by omega)]
        exact h1 q hq
    · rw [pc, cset_ne (by omega)]
      exact h2 q hq
    · rw [pV, qV]
      by_cases g : r = 1160 + 8 * i + sc T (1010 + i)
      · rw [g, u1_at, u1_at]
      · rw [u1_ne g, u1_ne g, u1_ne (show r ≠ 160 + 8 * i + sc T (10 + i) by omega)]
        exact (h3 r hr).1 k hk
    · rw [pW, qW]
      by_cases g : r = 1160 + 8 * i + sc T (1010 + i)
      · rw [g, u1_at, u1_at]
      · rw [u1_ne g, u1_ne g, u1_ne (show r ≠ 160 + 8 * i + sc T (10 + i) by omega)]
        exact (h3 r hr).2
    · rw [pV, u1_ne (by omega)]
      exact (h4 r hr).1 k hk
    · rw [pW, u1_ne (by omega)]
      exact (h4 r hr).2
    · rw [pV, u1_ne (by omega)]
      exact h7
theorem op_turnsByLots (hS : rRel S) : zOp Z l x m o od mth_L_turnsByLots mth_X16_turnsByLots [.ref x, .ref o] [.ref m] cvI S := by
  have c0 := hS.c0
  have c1 := hS.c1
  have c2 := hS.c2
  have h3 := hS.h3
  have h4 := hS.h4
  have h5 := hS.h5
  have b0 := hS.b0
  have b1 := hS.b1
  obtain ⟨⟨l1, l2, l3⟩, l4, l5, -, -, l7⟩ := hS.lo
  by_cases hp : sV S 7 228 = 0
  rotate_left
  · skip
    exact op_ex hS (wr_tw wr_L_turnsByLots h3 (by omega) (by omega) (by omega) (fun Λ M hR => f_turnsByLots_0 hR h3 hp) rfl)
      (md_g (by omega) (by omega) (by omega) (fun Λ M hR => k_turnsByLots_1 hR h4 (by rw [hS.da.1.1]; exact hp))) (by decide)
  have hp' : sV S 1001 680 = 0 := by rw [hS.da.1.1]; exact hp
  by_cases hd : sV S 4 324 = 0
  · skip
    exact op_ex hS (wr_tw wr_L_turnsByLots h3 (by omega) (by omega) (by omega) (fun Λ M hR => f_turnsByLots_1 hR h3 hp hd) rfl)
      (md_g (by omega) (by omega) (by omega) (fun Λ M hR => k_turnsByLots_2 hR h4 hp' (by rw [l5]; exact hd))) (by decide)
  have hd' : ¬ sV S 1001 679 = 0 := by rw [l5]; exact hd
  by_cases hz : sc S 0 = 0
  · skip
    exact op_ex hS (wr_tw wr_L_turnsByLots h3 (by omega) (by omega) (by omega) (fun Λ M hR => f_turnsByLots_2 hR h3 hp hd hz) rfl)
      (md_g (by omega) (by omega) (by omega) (fun Λ M hR => k_turnsByLots_3 hR h4 hp' hd' (by rw [c0]; exact hz))) (by decide)
  generalize hPe : sc S 0 = P at *
  generalize hne : sc S 1003 = n at *
  have hP0 : 0 < P := by omega
  have hA : ∃ A : Nat → Nat, ∀ j, j < n → A j < sc S 1 ∧ sW S 11 j = nI (A j) ∧ sV S (1300 + j) 32 = nI (A j) := by
    refine ⟨fun j => (sW S 11 j).toNatClampNeg, fun j hj => ?_⟩
    obtain ⟨a, a1, a2, a3⟩ := l4 j hj
    show (sW S 11 j).toNatClampNeg < _ ∧ _ = nI ((sW S 11 j).toNatClampNeg) ∧ _ = nI ((sW S 11 j).toNatClampNeg)
    rw [a2, nI_clamp (by omega)]
    exact ⟨a1, rfl, a3⟩
  obtain ⟨A, hA⟩ := hA
  have hinj : ∀ i j, i < j → j < n → A i ≠ A j := fun i j hij hj e => by
    obtain ⟨a, a1, a2, a3, -⟩ := l7 j hj
    have aj := hA j hj
    have ai := hA i (by omega)
    have ea : a = A j := (nI_eq (by omega) (by omega)).mp (a2.symm.trans aj.2.1)
    rw [placed_dN (A := A) j (fun k hk => (hA k (by omega)).2.1), ea, b_tst (by omega)] at a3
    have hin : ∀ t, i < t → bt (dN A t) (A j) = true := by
      intro t
      induction t with
      | zero => intro q; exact absurd q (Nat.not_lt_zero _)
      | succ t iht =>
        intro q
        show bt (dN A t ||| zbit (nI (A t))) (A j) = true
        rw [b_or]
        by_cases g : i = t
        · rw [← g, ← e, b_z _ (by omega) _ (by omega), decide_eq_true rfl, Bool.or_true]
        · rw [iht (by omega), Bool.true_or]
    rw [hin j hij] at a3
    exact absurd a3 (by decide)
  obtain ⟨hr, -, -⟩ := tU_rel (A := A) hS hp hPe hP0 (show n ≤ 8 by omega) (fun j hj => (hA j hj).1) hinj n (Nat.le_refl _)
  obtain ⟨k1, k2, k3, k4, k5, k6, k7, k8⟩ := tU_cls (S := S) (A := A) hPe hP0 b0 n (by omega)
  have hv : cvI (nI n) = cvI (nI n) := rfl
  have e5 : sc (fTB S P A n) 5 = 1 := (fTB_c (by omega) hP0 (by omega) (by omega) n).trans h5
  have e4 : sc (fTB S P A n) 4 = 1 := (fTB_c (by omega) hP0 (by omega) (by omega) n).trans h4
  have e3 : sc (fTB S P A n) 1003 = n := (k3 _ (by omega)).trans hne
  have e1000 : sc (fTB S P A n) 1000 = P := (k3 _ (by omega)).trans c0
  obtain ⟨m1, m2, m3, m4, m5, m6, m7⟩ := tU_mod (S := S) (B := wP (fTB S P A n) 1000 (oN (cvI (nI n)))) (A := A) hPe hP0 b0 e1000 k3 k5 n (by omega)
  refine ⟨0, nI n, _, fTBM (wP (fTB S P A n) 1000 (oN (cvI (nI n)))) A n, wr_ok (d := 7) (mc := 16) (ms := 152) (S1 := fTB S P A n) (z := nI n) wr_L_turnsByLots h3 e5 (by omega) (by omega) (by omega) (fun Λ M Q hR hQ => f_turnsByLots hR h3 hp hd hPe hP0 l3 (by omega) (fun j hj => ⟨(hA j hj).2.1, (hA j hj).1⟩) hQ), ?_, m7, fun _ => ?_, ?_⟩
  · refine md_c (d := 8) (mc := 17) (ms := 148) (by omega) (by omega) (by omega) (fun Λ M Q hR hQ => ?_)
    have k := k_turnsByLots (l := l) (S := wP (fTB S P A n) 1000 (oN (cvI (nI n)))) (A := A) (Q := Q) hR ((fTB_c (by omega) hP0 (by omega) (by omega) n).trans h4) (by
      show sV (fTB S P A n) 1001 680 = 0
      rw [(k5 1001 (by omega)).1]
      exact hp') (by
      show ¬ sV (fTB S P A n) 1001 679 = 0
      rw [(k5 1001 (by omega)).1]
      exact hd') (by rw [e1000]; exact hP0) (fun k hk => ?_) (by rw [e3]; exact hQ)
    · exact k
    · rw [e3] at hk
      show sV (fTB S P A n) (1300 + k) 32 = _
      rw [(k5 _ (by omega)).1]
      exact (hA k hk).2.2
  · rw [m6]
    show lN (u1 (sP (fTB S P A n)) 1000 (oN (cvI (nI n))) 1000) = cvI (nI n)
    rw [u1_at, lN_oN]
  · refine hr.to (funext fun q => ?_) (m5.trans k6) (funext fun r => ?_) (fun j hj => ?_) (fun r k hk => ?_)
    · rcases Nat.lt_or_ge q 1000 with g | g
      · rw [m2 q g]
        exact k2 q g
      · exact m1 q g
    · rcases Nat.lt_or_ge r 1000 with g | g
      · rw [(m4 r g).2]
        exact (k4 r g).2
      · exact (m3 r g).2
    · rw [m6, k8]
      show u1 (sP (fTB S P A n)) 1000 (oN (cvI (nI n))) j = _
      rw [u1_ne (by omega), k7]
    · rcases Nat.lt_or_ge r 1000 with g | g
      · rw [(m4 r g).1 k hk]
        show sV (fTB S P A n) r k = _
        rw [(k4 r g).1]
      · exact (m3 r g).1 k hk
end ZOP13
