/-! OPERATIONS 2: what the relation keeps where single fields are written -/
theorem rng_of {x : Int32} {a b : Nat} (hb : b < 2 ^ 31) (hab : a ≤ b) (h1 : ¬ x < nI a) (h2 : x ≤ nI b) : rN x a b := by
  have h0 : ¬ x < 0 := fun h => h1 (Int32.lt_of_lt_of_le h (nI_pos' (by omega)))
  obtain ⟨j, hj, rfl⟩ := nI_of h0
  refine ⟨j, rfl, ?_, ?_⟩
  · rcases Nat.lt_or_ge j a with g | g
    · exact absurd (nI_lt g (by omega)) h1
    · exact g
  · exact (nI_leI hj hb).mp h2
section ZOP2
variable {Z : zPar} {l : Launch} {x m o od : Nat} {S S' : zSt}
/-- fields of acts are written -/
theorem rRel.acts (h : rRel S) (hc : sc S' = sc S) (hT : sT S' = sT S) (hW : sW S' = sW S) (hP : ∀ j, j < 6 ∨ j = 1010 → sP S' j = sP S j) (hV : ∀ r k, k ≠ 672 → k ≠ 165 → k ≠ 166 → k ≠ 547 → k ≠ 549 → sV S' r k = sV S r k) (hA : rAc S') : rRel S' := by
  refine ⟨⟨by rw [hc]; exact h.ct, h.pi.to hc (fun r k _ => hV r k (by omega) (by omega) (by omega) (by omega) (by omega)) (fun r k _ => by rw [hW]) h.b0, hA, h.gr.to hc (fun r k _ => hV r k (by omega) (by omega) (by omega) (by omega) (by omega)), by rw [hc, hW]; exact h.cu⟩, ⟨h.tu.to hc hT (fun r k _ => hV r k (by omega) (by omega) (by omega) (by omega) (by omega)), h.on.to hc hT, h.vi.to hc (fun j hj => hP j (Or.inl hj)) h.b2 (fun r k _ => hV r k (by omega) (by omega) (by omega) (by omega) (by omega)), h.lo.to hc (fun r k _ => hV r k (by omega) (by omega) (by omega) (by omega) (by omega)) (fun r j _ => by rw [hW])⟩, h.we.to (fun r k _ => hV r k (by omega) (by omega) (by omega) (by omega) (by omega)), h.da.to hc (fun r k _ => hV r k (by omega) (by omega) (by omega) (by omega) (by omega)) (fun j => by rw [hW]), h.fr.to hc (fun r k _ => hV r k (by omega) (by omega) (by omega) (by omega) (by omega)), h.so.to hc (fun r k _ => hV r k (by omega) (by omega) (by omega) (by omega) (by omega)), ?_⟩
  rw [hP 1010 (Or.inr rfl)]
  exact h.p10
/-- weather and law are written -/
theorem rRel.wea (h : rRel S) (hc : sc S' = sc S) (hT : sT S' = sT S) (hW : sW S' = sW S) (hP : ∀ j, j < 6 ∨ j = 1010 → sP S' j = sP S j) (hV : ∀ r k, k ≠ 672 → ¬ (480 ≤ k ∧ k ≤ 482) → k ≠ 288 → k ≠ 289 → ¬ (682 ≤ k ∧ k ≤ 686) → sV S' r k = sV S r k) (hA : rWe S') : rRel S' := by
  refine ⟨⟨by rw [hc]; exact h.ct, h.pi.to hc (fun r k _ => hV r k (by omega) (by omega) (by omega) (by omega) (by omega)) (fun r k _ => by rw [hW]) h.b0, h.ac.to hc (fun r k _ => hV r k (by omega) (by omega) (by omega) (by omega) (by omega)), h.gr.to hc (fun r k _ => hV r k (by omega) (by omega) (by omega) (by omega) (by omega)), by rw [hc, hW]; exact h.cu⟩, ⟨h.tu.to hc hT (fun r k _ => hV r k (by omega) (by omega) (by omega) (by omega) (by omega)), h.on.to hc hT, h.vi.to hc (fun j hj => hP j (Or.inl hj)) h.b2 (fun r k _ => hV r k (by omega) (by omega) (by omega) (by omega) (by omega)), h.lo.to hc (fun r k _ => hV r k (by omega) (by omega) (by omega) (by omega) (by omega)) (fun r j _ => by rw [hW])⟩, hA, h.da.to hc (fun r k _ => hV r k (by omega) (by omega) (by omega) (by omega) (by omega)) (fun j => by rw [hW]), h.fr.to hc (fun r k _ => hV r k (by omega) (by omega) (by omega) (by omega) (by omega)), h.so.to hc (fun r k _ => hV r k (by omega) (by omega) (by omega) (by omega) (by omega)), ?_⟩
  rw [hP 1010 (Or.inr rfl)]
  exact h.p10
/-- z, and what the reference notes -/
theorem rRel.lots (h : rRel S) (hc : sc S' = sc S) (hT : sT S' = sT S) (hW : sW S' = sW S) (hP : ∀ j, j < 6 ∨ j = 1010 → sP S' j = sP S j) (hV : ∀ r k, k ≠ 672 → k ≠ 325 → k ≠ 681 → sV S' r k = sV S r k) (hA : ∃ z, 1 ≤ z ∧ z < 2147483647 ∧ sV S' 4 325 = nI z ∧ sV S' 1001 681 = nI z) : rRel S' := by
  obtain ⟨g1, g2, g3, g4, g5, g6⟩ := h.lo
  refine ⟨⟨by rw [hc]; exact h.ct, h.pi.to hc (fun r k _ => hV r k (by omega) (by omega) (by omega)) (fun r k _ => by rw [hW]) h.b0, h.ac.to hc (fun r k _ => hV r k (by omega) (by omega) (by omega)), h.gr.to hc (fun r k _ => hV r k (by omega) (by omega) (by omega)), by rw [hc, hW]; exact h.cu⟩, ⟨h.tu.to hc hT (fun r k _ => hV r k (by omega) (by omega) (by omega)), h.on.to hc hT, h.vi.to hc (fun j hj => hP j (Or.inl hj)) h.b2 (fun r k _ => hV r k (by omega) (by omega) (by omega)), ?_⟩, h.we.to (fun r k _ => hV r k (by omega) (by omega) (by omega)), h.da.to hc (fun r k _ => hV r k (by omega) (by omega) (by omega)) (fun j => by rw [hW]), h.fr.to hc (fun r k _ => hV r k (by omega) (by omega) (by omega)), h.so.to hc (fun r k _ => hV r k (by omega) (by omega) (by omega)), ?_⟩
  · refine ⟨by rw [hc, hV 4 323 (by omega) (by omega) (by omega)]; exact g1, fun j hj => ?_, by rw [hV 1001 679 (by omega) (by omega) (by omega), hV 4 324 (by omega) (by omega) (by omega)]; exact g3, hA, by rw [hc, hV 4 324 (by omega) (by omega) (by omega)]; exact g5, by rw [hc]; exact fAllow_to g6 (fun r j _ => by rw [hW])⟩
    rw [hc] at hj ⊢
    rw [hW, hV _ 32 (by omega) (by omega) (by omega)]
    exact g2 j hj
  · rw [hP 1010 (Or.inr rfl)]
    exact h.p10
/-- the partners of acts are written -/
theorem rRel.parts (h : rRel S) (hc : sc S' = sc S) (hT : sT S' = sT S) (hW : sW S' = sW S) (hP : ∀ j, j < 6 ∨ j = 1010 → sP S' j = sP S j) (hV : ∀ r k, k ≠ 672 → k ≠ 168 → k ≠ 551 → sV S' r k = sV S r k) (hA : rGr S') : rRel S' := by
  refine ⟨⟨by rw [hc]; exact h.ct, h.pi.to hc (fun r k _ => hV r k (by omega) (by omega) (by omega)) (fun r k _ => by rw [hW]) h.b0, h.ac.to hc (fun r k _ => hV r k (by omega) (by omega) (by omega)), hA, by rw [hc, hW]; exact h.cu⟩, ⟨h.tu.to hc hT (fun r k _ => hV r k (by omega) (by omega) (by omega)), h.on.to hc hT, h.vi.to hc (fun j hj => hP j (Or.inl hj)) h.b2 (fun r k _ => hV r k (by omega) (by omega) (by omega)), h.lo.to hc (fun r k _ => hV r k (by omega) (by omega) (by omega)) (fun r j _ => by rw [hW])⟩, h.we.to (fun r k _ => hV r k (by omega) (by omega) (by omega)), h.da.to hc (fun r k _ => hV r k (by omega) (by omega) (by omega)) (fun j => by rw [hW]), h.fr.to hc (fun r k _ => hV r k (by omega) (by omega) (by omega)), h.so.to hc (fun r k _ => hV r k (by omega) (by omega) (by omega)), ?_⟩
  rw [hP 1010 (Or.inr rfl)]
  exact h.p10
/-- rows are written: passers, customs, the class's ways -/
theorem rRel.rows (h : rRel S) (hc : sc S' = sc S) (hT : sT S' = sT S) (hP : ∀ j, j < 6 ∨ j = 1010 → sP S' j = sP S j) (hV : ∀ r k, k ≠ 672 → sV S' r k = sV S r k) (hW : ∀ r k, r = 11 ∨ r = 12 ∨ r = 14 → sW S' r k = sW S r k) (hA : rPi S') (hB : rCu (sc S 1) (sW S')) : rRel S' := by
  refine ⟨⟨by rw [hc]; exact h.ct, hA, h.ac.to hc (fun r k _ => hV r k (by omega)), h.gr.to hc (fun r k _ => hV r k (by omega)), by rw [hc]; exact hB⟩, ⟨h.tu.to hc hT (fun r k _ => hV r k (by omega)), h.on.to hc hT, h.vi.to hc (fun j hj => hP j (Or.inl hj)) h.b2 (fun r k _ => hV r k (by omega)), h.lo.to hc (fun r k _ => hV r k (by omega)) (fun r j hj => hW r j (by omega))⟩, h.we.to (fun r k _ => hV r k (by omega)), h.da.to hc (fun r k _ => hV r k (by omega)) (fun j => hW 14 j (by omega)), h.fr.to hc (fun r k _ => hV r k (by omega)), h.so.to hc (fun r k _ => hV r k (by omega)), ?_⟩
  rw [hP 1010 (Or.inr rfl)]
  exact h.p10
theorem rRel.ways (h : rRel S) (hc : sc S' = sc S) (hT : sT S' = sT S) (hP : ∀ j, j < 6 ∨ j = 1010 → sP S' j = sP S j) (hV : ∀ r k, k ≠ 672 → sV S' r k = sV S r k) (hW : ∀ r k, r ≠ 10 → sW S' r k = sW S r k) : rRel S' :=
  h.rows hc hT hP hV (fun r k _ => hW r k (by omega)) (h.pi.to hc (fun r k _ => hV r k (by omega)) (fun r k _ => hW r k (by omega)) h.b0) (h.cu.to (fun k => hW 9 k (by omega)) (fun a k _ _ => hW _ k (by omega)))
end ZOP2
