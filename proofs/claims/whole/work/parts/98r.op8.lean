/-! OPERATIONS 8: a new visit, a new turn -/
section ZOP8
variable {S S' : zSt} {n : Nat}
theorem rel_addVisit {i : Nat} {y : Int32} (h : rRel S) (hn : sc S 2 = n) (hn6 : n < 6) (hi : i < sc S 0) (e1 : sc S' 2 = n + 1) (e2 : sc S' 1002 = n + 1) (e : ∀ k, k ≠ 2 → k ≠ 1002 → sc S' k = sc S k) (hT : sT S' = sT S) (hP : ∀ j, j < 6 ∨ j = 1010 → j ≠ n → sP S' j = sP S j) (hPn : sP S' n = i)
    (hV : ∀ r k, k ≠ 672 → r ≠ 150 + n → r ≠ 1150 + n → sV S' r k = sV S r k) (hW : ∀ r k, r ≠ 150 + n → r ≠ 1150 + n → sW S' r k = sW S r k)
    (v1 : sV S' (150 + n) 449 = y ∧ sV S' (150 + n) 450 = 45 ∧ sV S' (150 + n) 451 = 0) (v2 : sV S' (1150 + n) 640 = nI i ∧ sV S' (1150 + n) 641 = y ∧ sV S' (1150 + n) 642 = 45 ∧ sV S' (1150 + n) 643 = 0) (q1 : rN y 600 1199) : rRel S' := by
  have b0 := h.b0
  have b1 := h.b1
  have bk := fun i (hi : i < sc S 0) => h.bk hi
  have ev : ∀ r, r ≠ 150 + n → r ≠ 1150 + n → eqV S S' r := fun r h1 h2 k hk => hV r k hk h1 h2
  have ew : ∀ r, r ≠ 150 + n → r ≠ 1150 + n → eqW S S' r := fun r h1 h2 k => hW r k h1 h2
  obtain ⟨⟨t1, t2, t3⟩, t4, t5, ⟨t6, t7, t8⟩, t9, t10, t11, t12⟩ := h.ct
  refine ⟨⟨⟨⟨?_, ?_, ?_⟩, fun i hi => ?_, fun i hi hc => ?_, ⟨?_, ?_, ?_⟩, ?_, ?_, ?_, fun i hi => ?_⟩, h.pi.ex (e 0 (by decide) (by decide)) (fun i hi => ⟨ev _ (by omega) (by omega), ev _ (by omega) (by omega), ew _ (by omega) (by omega), ew _ (by omega) (by omega)⟩), h.ac.ex (e 1 (by decide) (by decide)) (fun a ha => ⟨ev _ (by omega) (by omega), ev _ (by omega) (by omega)⟩), h.gr.ex (e 1 (by decide) (by decide)) (fun a ha => ⟨ev _ (by omega) (by omega), ev _ (by omega) (by omega)⟩), ?_⟩, ⟨h.tu.ex (e 0 (by decide) (by decide)) (fun i hi => e _ (by omega) (by omega)) (by rw [e 1 (by decide) (by decide)]; exact Nat.le_refl _) (fun i k _ _ => by rw [hT]) (fun i k hi hk => ?_), h.on.ex (e 0 (by decide) (by decide)) (fun i hi => e _ (by omega) (by omega)) (fun i k _ _ => by rw [hT]), fun j hj => ?_, h.lo.ex (e 1003 (by decide) (by decide)) (by rw [e 1 (by decide) (by decide)]; exact Nat.le_refl _) (ev 4 (by omega) (by omega)) (ev 1001 (by omega) (by omega)) (fun j hj => ev _ (by omega) (by omega) 32 (by decide)) (fun r hr => ew r (by omega) (by omega))⟩, h.we.ex (ev 5 (by omega) (by omega)) (ev 6 (by omega) (by omega)) (ev 1001 (by omega) (by omega)), h.da.ex (e 6 (by decide) (by decide)) (ev 7 (by omega) (by omega)) (ev 8 (by omega) (by omega)) (ev 1001 (by omega) (by omega)) (fun a a1 a2 => ev _ (by omega) (by omega) 32 (by decide)) (ew 14 (by omega) (by omega)), fun q => ?_, ⟨?_, fun i hi => ?_⟩, ?_⟩
  · rw [e 1000 (by decide) (by decide), e 0 (by decide) (by decide)]; exact t1
  · rw [e 1001 (by decide) (by decide), e 1 (by decide) (by decide)]; exact t2
  · rw [e1, e2]
  · rw [e _ (by omega) (by omega), e _ (by omega) (by omega)]; exact t4 i hi
  · rw [e _ (by omega) (by omega)]
    rw [e 0 (by decide) (by decide)] at hc
    exact t5 i hi hc
  · rw [e 3 (by decide) (by decide)]; exact t6
  · rw [e 4 (by decide) (by decide)]; exact t7
  · rw [e 5 (by decide) (by decide)]; exact t8
  · rw [e 0 (by decide) (by decide)]; exact t9
  · rw [e 1 (by decide) (by decide)]; exact t10
  · omega
  · rw [e _ (by omega) (by omega)]; exact t12 i hi
  · rw [e 1 (by decide) (by decide)]
    exact h.cu.to (fun k => hW 9 k (by omega) (by omega)) (fun a k ha _ => hW _ k (by omega) (by omega))
  · have := bk i hi
    exact ⟨ev _ (by omega) (by omega), ev _ (by omega) (by omega)⟩
  · rw [e1] at hj
    by_cases c : j = n
    · subst c
      obtain ⟨a1, a2, a3⟩ := v1
      obtain ⟨a4, a5, a6, a7⟩ := v2
      show rVi1 S' j
      unfold rVi1
      rw [a1, a2, a3, a4, a5, a6, a7, hPn, e 0 (by decide) (by decide)]
      exact ⟨⟨hi, rfl⟩, ⟨rfl, q1⟩, ⟨rfl, zCh_k.1⟩, rfl⟩
    · exact rVi1.ex (S := S) (h.vi j (by omega)) (by rw [e 0 (by decide) (by decide)]; exact Nat.le_refl _) (hP j (Or.inl (by omega)) c) (ev _ (by omega) (by omega)) (ev _ (by omega) (by omega))
  · rw [ev 7 (by omega) (by omega) 228 (by decide)] at q
    obtain ⟨g1, g2⟩ := h.fr q
    refine ⟨fun i k hi hk => ?_, fun j hj => ?_⟩
    · rw [e 0 (by decide) (by decide)] at hi
      rw [e _ (by omega) (by omega)] at hk
      have := bk i hi
      exact rFrT.ex (S := S) (g1 i k hi hk) (ev _ (by omega) (by omega))
    · rw [e1] at hj
      by_cases c : j = n
      · subst c
        exact ⟨v1.2.1, v1.2.2⟩
      · rw [ev (150 + j) (by omega) (by omega) 450 (by decide), ev (150 + j) (by omega) (by omega) 451 (by decide)]
        exact g2 j (by omega)
  · rw [e 1 (by decide) (by decide), fMoney_ex (S := S) (sc S 1) (fun a ha => ev _ (by omega) (by omega)), ev 7 (by omega) (by omega) 231 (by decide), ev 7 (by omega) (by omega) 232 (by decide)]
    exact h.so.1
  · rw [e 0 (by decide) (by decide)] at hi
    have := bk i hi
    exact fApart_ex (h.so.2 i hi) (e _ (by omega) (by omega)) (fun k hk => ev _ (by omega) (by omega))
  · rw [hP 1010 (Or.inr rfl) (by omega)]
    exact h.p10
theorem rel_addTurn {i a : Nat} (h : rRel S) (hi : i < sc S 0) (ha : a < sc S 1) (hn : sc S (10 + i) = n) (hn8 : n < 8) (hel : ∀ j k, j < sc S 0 → j ≠ i → k < sc S (10 + j) → sT S j k ≠ a) (e1 : sc S' (10 + i) = n + 1) (e2 : sc S' (1010 + i) = n + 1) (e : ∀ k, k ≠ 10 + i → k ≠ 1010 + i → sc S' k = sc S k)
    (hT : ∀ j k, ¬ (j = i ∧ k = n) → sT S' j k = sT S j k) (hTn : sT S' i n = a) (hP : ∀ j, j < 6 ∨ j = 1010 → sP S' j = sP S j)
    (hV : ∀ r k, k ≠ 672 → r ≠ 160 + 8 * i + n → r ≠ 1160 + 8 * i + n → sV S' r k = sV S r k) (hW : ∀ r k, r ≠ 160 + 8 * i + n → r ≠ 1160 + 8 * i + n → sW S' r k = sW S r k)
    (v1 : ∀ k, k ≠ 672 → sV S' (160 + 8 * i + n) k = 0) (v2 : ∀ k, k ≠ 672 → sV S' (1160 + 8 * i + n) k = if k = 608 then nI a else if k = 609 then -1 else 0) : rRel S' := by
  have b0 := h.b0
  have b1 := h.b1
  have b2 := h.b2
  have bk := fun i (hi : i < sc S 0) => h.bk hi
  have ev : ∀ r, r ≠ 160 + 8 * i + n → r ≠ 1160 + 8 * i + n → eqV S S' r := fun r h1 h2 k hk => hV r k hk h1 h2
  have ew : ∀ r, r ≠ 160 + 8 * i + n → r ≠ 1160 + 8 * i + n → eqW S S' r := fun r h1 h2 k => hW r k h1 h2
  obtain ⟨⟨t1, t2, t3⟩, t4, t5, ⟨t6, t7, t8⟩, t9, t10, t11, t12⟩ := h.ct
  have hc3 : sc S 1003 ≤ 8 := h.lo.1.1
  have hc6 : sc S 6 ≤ 10 := h.da.2.2.1
  have ek : ∀ j, j < 6 → j ≠ i → sc S' (10 + j) = sc S (10 + j) := fun j hj hne => e _ (by omega) (by omega)
  have evT : ∀ j k, j < sc S 0 → k < sc S (10 + j) → eqV S S' (160 + 8 * j + k) ∧ eqV S S' (1160 + 8 * j + k) := fun j k hj hk => by
    have := bk j hj
    by_cases c : j = i
    · subst c
      exact ⟨ev _ (by omega) (by omega), ev _ (by omega) (by omega)⟩
    · exact ⟨ev _ (by omega) (by omega), ev _ (by omega) (by omega)⟩
  refine ⟨⟨⟨⟨?_, ?_, ?_⟩, fun j hj => ?_, fun j hj hc => ?_, ⟨?_, ?_, ?_⟩, ?_, ?_, ?_, fun j hj => ?_⟩, h.pi.ex (e 0 (by omega) (by omega)) (fun i hi => ⟨ev _ (by omega) (by omega), ev _ (by omega) (by omega), ew _ (by omega) (by omega), ew _ (by omega) (by omega)⟩), h.ac.ex (e 1 (by omega) (by omega)) (fun a ha => ⟨ev _ (by omega) (by omega), ev _ (by omega) (by omega)⟩), h.gr.ex (e 1 (by omega) (by omega)) (fun a ha => ⟨ev _ (by omega) (by omega), ev _ (by omega) (by omega)⟩), ?_⟩, ⟨fun j k hj hk => ?_, fun j j2 k m hj hj2 hk hm hne => ?_, h.vi.ex (e 2 (by omega) (by omega)) (by rw [e 0 (by omega) (by omega)]; exact Nat.le_refl _) (fun j hj => hP j (Or.inl (by omega))) (fun j hj => ⟨ev _ (by omega) (by omega), ev _ (by omega) (by omega)⟩), h.lo.ex (e 1003 (by omega) (by omega)) (by rw [e 1 (by omega) (by omega)]; exact Nat.le_refl _) (ev 4 (by omega) (by omega)) (ev 1001 (by omega) (by omega)) (fun j hj => ev _ (by omega) (by omega) 32 (by decide)) (fun r hr => ew r (by omega) (by omega))⟩, h.we.ex (ev 5 (by omega) (by omega)) (ev 6 (by omega) (by omega)) (ev 1001 (by omega) (by omega)), h.da.ex (e 6 (by omega) (by omega)) (ev 7 (by omega) (by omega)) (ev 8 (by omega) (by omega)) (ev 1001 (by omega) (by omega)) (fun a a1 a2 => ev _ (by omega) (by omega) 32 (by decide)) (ew 14 (by omega) (by omega)), fun q => ?_, ⟨?_, fun j hj => ?_⟩, ?_⟩
  · rw [e 1000 (by omega) (by omega), e 0 (by omega) (by omega)]; exact t1
  · rw [e 1001 (by omega) (by omega), e 1 (by omega) (by omega)]; exact t2
  · rw [e 1002 (by omega) (by omega), e 2 (by omega) (by omega)]; exact t3
  · by_cases c : j = i
    · subst c
      rw [e1, e2]
    · rw [ek j hj c, e _ (by omega) (by omega)]
      exact t4 j hj
  · rw [e 0 (by omega) (by omega)] at hc
    rw [ek j hj (by omega)]
    exact t5 j hj hc
  · rw [e 3 (by omega) (by omega)]; exact t6
  · rw [e 4 (by omega) (by omega)]; exact t7
  · rw [e 5 (by omega) (by omega)]; exact t8
  · rw [e 0 (by omega) (by omega)]; exact t9
  · rw [e 1 (by omega) (by omega)]; exact t10
  · rw [e 2 (by omega) (by omega)]; exact t11
  · by_cases c : j = i
    · subst c
      omega
    · rw [ek j hj c]
      exact t12 j hj
  · rw [e 1 (by omega) (by omega)]
    exact h.cu.to (fun k => hW 9 k (by omega) (by omega)) (fun a k ha _ => hW _ k (by omega) (by omega))
  · rw [e 0 (by omega) (by omega)] at hj
    by_cases c : j = i ∧ k = n
    · obtain ⟨rfl, rfl⟩ := c
      show rTu1 S' j k
      unfold rTu1
      rw [hTn, e 1 (by omega) (by omega), v1 417 (by decide), v1 418 (by decide), v1 419 (by decide), v1 420 (by decide), v1 421 (by decide), v1 422 (by decide), v1 423 (by decide), v1 424 (by decide), v2 608 (by decide), v2 609 (by decide), v2 610 (by decide), v2 611 (by decide), v2 612 (by decide), v2 613 (by decide), v2 614 (by decide), v2 615 (by decide)]
      exact ⟨⟨ha, rfl⟩, ⟨rfl, fun q => absurd rfl q⟩, rfl, rfl, rfl, rfl, rfl, rfl, Or.inl rfl⟩
    · have hk' : k < sc S (10 + j) := by
        by_cases c2 : j = i
        · subst c2
          rw [e1] at hk
          omega
        · rw [ek j (by omega) c2] at hk
          exact hk
      exact rTu1.ex (S := S) (h.tu j k hj hk') (by rw [e 1 (by omega) (by omega)]; exact Nat.le_refl _) (hT j k c) (evT j k hj hk').1 (evT j k hj hk').2
  · rw [e 0 (by omega) (by omega)] at hj hj2
    by_cases c : j = i ∧ k = n
    · obtain ⟨rfl, rfl⟩ := c
      rw [hTn, hT j2 m (by omega)]
      rw [ek j2 (by omega) (by omega)] at hm
      exact fun q => hel j2 m hj2 (by omega) hm q.symm
    · by_cases c2 : j2 = i ∧ m = n
      · obtain ⟨rfl, rfl⟩ := c2
        rw [hTn, hT j k c]
        rw [ek j (by omega) (by omega)] at hk
        exact hel j k hj (by omega) hk
      · rw [hT j k c, hT j2 m c2]
        refine h.on j j2 k m hj hj2 ?_ ?_ hne
        · by_cases c3 : j = i
          · subst c3
            rw [e1] at hk
            omega
          · rw [ek j (by omega) c3] at hk
            exact hk
        · by_cases c3 : j2 = i
          · subst c3
            rw [e1] at hm
            omega
          · rw [ek j2 (by omega) c3] at hm
            exact hm
  · rw [ev 7 (by omega) (by omega) 228 (by decide)] at q
    obtain ⟨g1, g2⟩ := h.fr q
    refine ⟨fun j k hj hk => ?_, fun j hj => ?_⟩
    · rw [e 0 (by omega) (by omega)] at hj
      by_cases c : j = i ∧ k = n
      · obtain ⟨rfl, rfl⟩ := c
        exact ⟨v1 423 (by decide), v1 418 (by decide), v1 419 (by decide), v1 420 (by decide), v1 421 (by decide), v1 422 (by decide), v1 424 (by decide)⟩
      · have hk' : k < sc S (10 + j) := by
          by_cases c2 : j = i
          · subst c2
            rw [e1] at hk
            omega
          · rw [ek j (by omega) c2] at hk
            exact hk
        exact rFrT.ex (S := S) (g1 j k hj hk') (evT j k hj hk').1
    · rw [e 2 (by omega) (by omega)] at hj
      rw [ev (150 + j) (by omega) (by omega) 450 (by decide), ev (150 + j) (by omega) (by omega) 451 (by decide)]
      exact g2 j hj
  · rw [e 1 (by omega) (by omega), fMoney_ex (S := S) (sc S 1) (fun a ha => ev _ (by omega) (by omega)), ev 7 (by omega) (by omega) 231 (by decide), ev 7 (by omega) (by omega) 232 (by decide)]
    exact h.so.1
  · rw [e 0 (by omega) (by omega)] at hj
    by_cases c : j = i
    · subst c
      intro k hk hp
      rw [e1] at hk
      by_cases c2 : k = n
      · subst c2
        exact absurd (v1 423 (by decide)) hp
      · have hk' : k < sc S (10 + j) := by omega
        have ht := fun x (hx : x < sc S (10 + j)) => (evT j x hj hx).1
        rw [ht k hk' 423 (by decide)] at hp
        rw [ht k hk' 417 (by decide), ht k hk' 418 (by decide), fOver_ex (S := S) k (fun x hx => ht x (by omega))]
        exact h.so.2 j hj k hk' hp
    · exact fApart_ex (h.so.2 j hj) (ek j (by omega) c) (fun k hk => (evT j k hj hk).1)
  · rw [hP 1010 (Or.inr rfl)]
    exact h.p10
end ZOP8
