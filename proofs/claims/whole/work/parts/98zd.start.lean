/-! THE LAW 1: its own rows; the relation as it begins -/
section ZSTART
variable {Z : zPar} {l : Launch} {M M' : zMem} {Λ Λ' : Nat → Nat} {S : zSt}
/-- the law's own rows are made -/
theorem zRp_rows {q1 q2 g1 g2 : Nat} (h : zRp Z Λ S M) (h5 : sc S 5 = 0) (hp : sP S 1010 ≠ 1) (hp0 : sP S 1000 = 0) (hp1 : sP S 1001 = 0) (h1 : mK M q1 = 0) (h2 : mK (zNew M q1 5 1 g1) q2 = 0) : zRp Z (u1 (u1 Λ 40 q1) 41 q2) (cset (sc S) 5 1, sV S, sW S, sT S, sP S) (zNew (zNew M q1 5 1 g1) q2 6 1 g2) := by
  have hb := h.bnd
  have hne : q1 ≠ q2 := fun e => by
    rw [← e] at h2
    have : mK (zNew M q1 5 1 g1) q1 = 5 := u1_at
    rw [this] at h2
    cases h2
  have hM : ∀ a, mK M a ≠ 0 → zAg M (zNew (zNew M q1 5 1 g1) q2 6 1 g2) a := fun a ha => by
    have n1 : a ≠ q1 := fun e => ha (by rw [e]; exact h1)
    have n2 : a ≠ q2 := fun e => by
      have e2 : mK (zNew M q1 5 1 g1) a = mK M a := u1_ne n1
      rw [e, h2] at e2
      rw [e] at ha
      exact ha e2.symm
    exact ⟨(u1_ne n2).trans (u1_ne n1), (u1_ne n2).trans (u1_ne n1), (u1_ne n2).trans (u1_ne n1), (u1_ne n2).trans (u1_ne n1), (u1_ne n2).trans (u1_ne n1), (u1_ne n2).trans (u1_ne n1), (u1_ne n2).trans (u1_ne n1), (u1_ne n2).trans (u1_ne n1), (u1_ne n2).trans (u1_ne n1)⟩
  have hu : ∀ s, zus (sc S) s → s ≠ 40 ∧ s ≠ 41 := by
    intro s hs
    rcases hs with hs | ⟨i, hi, e⟩ | ⟨i, hi, e⟩
    · rcases hs with hs | hs
      · rcases hs with ⟨-, h⟩ | ⟨i, -, h⟩ | ⟨i, -, h⟩ | ⟨i, -, h⟩ | ⟨i, k, -, -, h⟩ <;> omega
      · rcases hs with ⟨-, h⟩ | ⟨i, -, h⟩ | ⟨i, -, h⟩ | ⟨i, -, h⟩ | ⟨i, k, -, -, h⟩ <;> omega
    · omega
    · omega
  have hΛ : ∀ s, zus (sc S) s → u1 (u1 Λ 40 q1) 41 q2 s = Λ s := fun s hs => (u1_ne (hu s hs).2).trans (u1_ne (hu s hs).1)
  have hc : ∀ k, k ≠ 5 → cset (sc S) 5 1 k = sc S k := fun k h => cset_ne h
  have hb' : zBnd (cset (sc S) 5 1) := by
    obtain ⟨⟨h1, h2, h3, h4⟩, ⟨h5, h6, h7, h8, h9⟩, h10⟩ := hb
    refine ⟨⟨?_, ?_, ?_, fun i => ?_⟩, ⟨?_, ?_, ?_, ?_, ?_⟩, fun i => ?_⟩
    all_goals (rw [hc _ (by omega)])
    · exact h1
    · exact h2
    · exact h3
    · exact h4 i
    · exact h5
    · exact h6
    · exact h7
    · exact h8
    · exact h9
    · exact h10 i
  have hlv : ∀ s, zlv (cset (sc S) 5 1) s → zlv (sc S) s := by
    intro s hs
    rcases hs with hs | hs
    · rcases hs with ⟨h3, h⟩ | ⟨i, hi, h⟩ | ⟨i, hi, h⟩ | ⟨i, hi, h⟩ | ⟨i, k, hi, hk, h⟩
      · rw [hc _ (by omega)] at h3
        exact Or.inl (Or.inl ⟨h3, h⟩)
      · rw [hc _ (by omega)] at hi
        exact Or.inl (Or.inr (Or.inl ⟨i, hi, h⟩))
      · rw [hc _ (by omega)] at hi
        exact Or.inl (Or.inr (Or.inr (Or.inl ⟨i, hi, h⟩)))
      · rw [hc _ (by omega)] at hi
        exact Or.inl (Or.inr (Or.inr (Or.inr (Or.inl ⟨i, hi, h⟩))))
      · rw [hc _ (by omega)] at hi hk
        exact Or.inl (Or.inr (Or.inr (Or.inr (Or.inr ⟨i, k, hi, hk, h⟩))))
    · rcases hs with ⟨h3, h⟩ | ⟨i, hi, h⟩ | ⟨i, hi, h⟩ | ⟨i, hi, h⟩ | ⟨i, k, hi, hk, h⟩
      · rw [hc _ (by omega)] at h3
        exact Or.inr (Or.inl ⟨h3, h⟩)
      · rw [hc _ (by omega)] at hi
        exact Or.inr (Or.inr (Or.inl ⟨i, hi, h⟩))
      · rw [hc _ (by omega)] at hi
        exact Or.inr (Or.inr (Or.inr (Or.inl ⟨i, hi, h⟩)))
      · rw [hc _ (by omega)] at hi
        exact Or.inr (Or.inr (Or.inr (Or.inr (Or.inl ⟨i, hi, h⟩))))
      · rw [hc _ (by omega)] at hi hk
        exact Or.inr (Or.inr (Or.inr (Or.inr (Or.inr ⟨i, k, hi, hk, h⟩))))
  have hz : ∀ s, zki s = 14 → zrw s ≠ 40 ∧ zrw s ≠ 41 := fun s hk => by
    have h2 := zlr_of hk
    unfold zlr at h2
    unfold zrw
    split <;> omega
  refine zRp.of hb' (fun s hs => ?_) ⟨fun i hi => ?_, fun i hi => ?_⟩ ⟨⟨fun _ => ⟨⟨?_, ?_, ?_⟩, ?_, ?_, ?_⟩, fun h9 => absurd h9 hp⟩, h.emp.keep (fun a ha => hM a (by omega))⟩
  · have hl := hlv s hs
    refine (h.one hl).keep hb hl hΛ (fun hk => (u1_ne (hz s hk).2).trans (u1_ne (hz s hk).1)) (hM _ (h.k0 hl)) (fun hk => hM _ ?_) (fun hk => ?_) (fun _ _ _ => rfl) (fun _ => rfl) (fun i k hi hk _ => ⟨by rw [← hc 0 (by decide)]; exact hi, by rw [← hc (10 + i) (by omega)]; exact hk, rfl, Nat.le_of_eq (hc 1 (by decide)).symm⟩) (fun j hj _ => ⟨by rw [← hc 2 (by decide)]; exact hj, rfl, Nat.le_of_eq (hc 0 (by decide)).symm⟩)
    · have := (h.li hl hk).row
      omega
    · have h2 := zlr_of hk
      show zct (cset (sc S) 5 1) s = zct (sc S) s
      unfold zlr at h2
      unfold zct
      simp only [hc 0 (by decide), hc 1 (by decide), hc 2 (by decide), hc 1000 (by decide), hc 1001 (by decide), hc 1002 (by decide), hc 1003 (by decide), hc 6 (by decide)]
      repeat' split
      all_goals first | rfl | exact hc _ (by omega)
  · have hi : i < cset (sc S) 5 1 1003 := hi
    rw [hc _ (by decide)] at hi
    obtain ⟨w1, w2⟩ := h.ints.1 i hi
    have e := hM (Λ (1300 + i)) (by omega)
    unfold zIok
    rw [hΛ _ (Or.inr (Or.inl ⟨i, hi, rfl⟩)), e.1, e.2.2.2.1]
    exact ⟨w1, w2⟩
  · have hi : i < cset (sc S) 5 1 6 := hi
    rw [hc _ (by decide)] at hi
    obtain ⟨w1, w2⟩ := h.ints.2 i hi
    have e := hM (Λ (1320 + i)) (by omega)
    unfold zIok
    rw [hΛ _ (Or.inr (Or.inr ⟨i, hi, rfl⟩)), e.1, e.2.2.2.1]
    exact ⟨w1, w2⟩
  · show u1 (u1 (mK M) q1 5) q2 6 (u1 (u1 Λ 40 q1) 41 q2 40) = 5
    rw [u1_ne (show (40 : Nat) ≠ 41 by decide), u1_at, u1_ne hne, u1_at]
  · show u1 (u1 (mN M) q1 1) q2 1 (u1 (u1 Λ 40 q1) 41 q2 40) = 1
    rw [u1_ne (show (40 : Nat) ≠ 41 by decide), u1_at, u1_ne hne, u1_at]
  · show u1 (u1 (aL M) q1 (fun _ => 0)) q2 (fun _ => 0) (u1 (u1 Λ 40 q1) 41 q2 40) 0 = lN (sP S 1000)
    rw [u1_ne (show (40 : Nat) ≠ 41 by decide), u1_at, u1_ne hne, u1_at, hp0]
    rfl
  · show u1 (u1 (mK M) q1 5) q2 6 (u1 (u1 Λ 40 q1) 41 q2 41) = 6
    rw [u1_at, u1_at]
  · show u1 (u1 (mN M) q1 1) q2 1 (u1 (u1 Λ 40 q1) 41 q2 41) = 1
    rw [u1_at, u1_at]
  · show u1 (u1 (aD M) q1 (fun _ => 0)) q2 (fun _ => 0) (u1 (u1 Λ 40 q1) 41 q2 41) 0 = UInt64.ofNat (sP S 1001)
    rw [u1_at, u1_at, hp1]
    rfl
/-- the state as the law begins -/
abbrev sA : zSt := (cset (fun _ => 0) 3 1, (fun r k => if r < 20 then fV0 r k else 0), (fun r k => if r < 20 then 0 else 0), (fun _ _ => 0), (fun _ => 0))
abbrev sB : zSt := (cset (sc sA) 4 1, (fun r k => if 1000 ≤ r then fM0 r k else sV sA r k), (fun r k => if 1000 ≤ r then 0 else sW sA r k), sT sA, sP sA)
abbrev sI0 : zSt := (cset (sc sB) 5 1, sV sB, sW sB, sT sB, sP sB)
theorem sI0_W (r k : Nat) : sW sI0 r k = 0 := by
  show (if 1000 ≤ r then (0 : Int32) else if r < 20 then 0 else 0) = 0
  split
  · rfl
  · split <;> rfl
theorem sI0_c {q : Nat} (h3 : q ≠ 3) (h4 : q ≠ 4) (h5 : q ≠ 5) : sc sI0 q = 0 := by
  show cset (cset (cset (fun _ => 0) 3 1) 4 1) 5 1 q = 0
  rw [cset_ne h5, cset_ne h4, cset_ne h3]
theorem rel_0 : rRel sI0 := by
  have c0 := fun q (h : 6 ≤ q) => sI0_c (q := q) (by omega) (by omega) (by omega)
  have e0 : sc sI0 0 = 0 := rfl
  have e1 : sc sI0 1 = 0 := rfl
  have e2 : sc sI0 2 = 0 := rfl
  refine ⟨⟨⟨⟨rfl, rfl, rfl⟩, fun i hi => by rw [c0 _ (by omega), c0 _ (by omega)], fun i hi _ => c0 _ (by omega), ⟨rfl, rfl, rfl⟩, Nat.zero_le _, Nat.zero_le _, Nat.zero_le _, fun i hi => by rw [c0 _ (by omega)]; omega⟩, fun i hi => absurd hi (Nat.not_lt_zero _), fun a ha => absurd ha (Nat.not_lt_zero _), fun a ha => absurd ha (Nat.not_lt_zero _), ⟨fun a b ha hb => ?_, fun b a hb h8 h32 => ?_, fun _ => 0, fun a ha => ⟨(by decide : 0 < 8), fun b hb h => absurd (sI0_W _ _) h⟩⟩⟩, ⟨fun i k hi _ => absurd hi (Nat.not_lt_zero _), fun i j k m hi _ _ _ => absurd hi (Nat.not_lt_zero _), fun j hj => absurd hj (Nat.not_lt_zero _), ?_⟩, ?_, ?_, fun _ => ⟨fun i k hi _ => absurd hi (Nat.not_lt_zero _), fun j hj => absurd hj (Nat.not_lt_zero _)⟩, ⟨by decide, fun i hi => absurd hi (Nat.not_lt_zero _)⟩, by decide⟩
  · rw [sI0_W, sI0_W]
    refine ⟨Or.inl rfl, ?_, fun h => absurd rfl h⟩
    rw [b_0]
    rfl
  · rw [sI0_W, b_0]
  · refine ⟨⟨Nat.zero_le _, Nat.zero_le _, rfl⟩, fun j hj => absurd hj (Nat.not_lt_zero _), rfl, ⟨1, by omega, by omega, rfl, rfl⟩, fun _ => rfl, fun k hk => absurd hk (Nat.not_lt_zero _)⟩
  · refine ⟨⟨rfl, rfl, Or.inl ⟨rfl, rfl⟩⟩, ⟨rfl, 0, rfl, by omega, by omega⟩, ⟨rfl, 99, rfl, by omega, by omega⟩, rfl, 0, rfl, by omega, by omega⟩
  · refine ⟨⟨rfl, rfl, rfl⟩, ⟨fun h => absurd rfl h, fun _ => rfl⟩, Nat.zero_le _, rfl, fun a h1 h2 => absurd h2 (by show ¬ a ≤ 0; omega)⟩
end ZSTART
