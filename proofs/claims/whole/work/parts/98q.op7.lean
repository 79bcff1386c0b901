/-! OPERATIONS 7: what the relation keeps where something new is told -/
theorem u1_if2 {α : Type} {F : Nat → Nat → α} {a r k : Nat} {v : Nat → α} : u1 F a v r k = if r = a then v k else F r k := by
  unfold u1
  split <;> rfl
theorem rN_0 {b : Nat} : rN 0 0 b := ⟨0, rfl, Nat.le_refl _, Nat.zero_le _⟩
section ZOP7
variable {S S' : zSt} {fC fM : Nat → Int32} {n : Nat}
theorem rel_addAct {mi lo sk li fi : Int32} (h : rRel S) (hn : sc S 1 = n) (hn8 : n < 8) (e1 : sc S' 1 = n + 1) (e2 : sc S' 1001 = n + 1) (e : ∀ k, k ≠ 1 → k ≠ 1001 → sc S' k = sc S k) (hT : sT S' = sT S) (hP : ∀ j, j < 6 ∨ j = 1010 → sP S' j = sP S j)
    (hV : ∀ r k, k ≠ 672 → sV S' r k = if r = 1140 + n then (if k = 551 then nI n else if k = 548 then fi else if k = 547 then li else if k = 546 then sk else if k = 545 then lo else if k = 544 then mi else 0) else if r = 140 + n then fActN n mi lo sk li fi k else sV S r k) (hW : ∀ r k, r ≠ 1140 + n → r ≠ 140 + n → sW S' r k = sW S r k)
    (q1 : rN mi 5 60) (q2 : rN lo 0 9) (q3 : rN sk 1 9) (q4 : rN li 1 9) : rRel S' := by
  have b0 := h.b0
  have b2 := h.b2
  have bk := fun i (hi : i < sc S 0) => h.bk hi
  have ev : ∀ r, r ≠ 1140 + n → r ≠ 140 + n → eqV S S' r := fun r h1 h2 k hk => by rw [hV r k hk, if_neg h1, if_neg h2]
  obtain ⟨⟨t1, t2, t3⟩, t4, t5, ⟨t6, t7, t8⟩, t9, t10, t11, t12⟩ := h.ct
  have vC : ∀ k, k ≠ 672 → sV S' (140 + n) k = fActN n mi lo sk li fi k := fun k hk => by rw [hV _ k hk, if_neg (by omega), if_pos rfl]
  have vM : ∀ k, k ≠ 672 → sV S' (1140 + n) k = (if k = 551 then nI n else if k = 548 then fi else if k = 547 then li else if k = 546 then sk else if k = 545 then lo else if k = 544 then mi else 0) := fun k hk => by rw [hV _ k hk, if_pos rfl]
  have e551 : ∀ a, a < n → ∃ g, g < n ∧ sV S' (1140 + a) 551 = nI g := fun a ha => by
    obtain ⟨⟨g, g1, g2⟩, -⟩ := h.gr a (by omega)
    exact ⟨g, by omega, by rw [ev _ (by omega) (by omega) 551 (by decide)]; exact g2⟩
  have en551 : sV S' (1140 + n) 551 = nI n := by rw [vM 551 (by decide), if_pos rfl]
  refine ⟨⟨⟨⟨?_, ?_, ?_⟩, fun i hi => ?_, fun i hi hc => ?_, ⟨?_, ?_, ?_⟩, ?_, ?_, ?_, fun i hi => ?_⟩, h.pi.ex (e 0 (by decide) (by decide)) (fun i hi => ⟨ev _ (by omega) (by omega), ev _ (by omega) (by omega), fun k => hW _ k (by omega) (by omega), fun k => hW _ k (by omega) (by omega)⟩), fun a ha => ?_, fun a ha => ?_, ?_⟩, ⟨h.tu.ex (e 0 (by decide) (by decide)) (fun i hi => e _ (by omega) (by omega)) (by omega) (fun i k _ _ => by rw [hT]) (fun i k hi hk => ?_), h.on.ex (e 0 (by decide) (by decide)) (fun i hi => e _ (by omega) (by omega)) (fun i k _ _ => by rw [hT]), h.vi.ex (e 2 (by decide) (by decide)) (by rw [e 0 (by decide) (by decide)]; exact Nat.le_refl _) (fun j hj => hP j (Or.inl (by omega))) (fun j hj => ⟨ev _ (by omega) (by omega), ev _ (by omega) (by omega)⟩), h.lo.ex (e 1003 (by decide) (by decide)) (by omega) (ev 4 (by omega) (by omega)) (ev 1001 (by omega) (by omega)) (fun j hj => ev _ (by omega) (by omega) 32 (by decide)) (fun r hr k => hW r k (by omega) (by omega))⟩, h.we.ex (ev 5 (by omega) (by omega)) (ev 6 (by omega) (by omega)) (ev 1001 (by omega) (by omega)), h.da.ex (e 6 (by decide) (by decide)) (ev 7 (by omega) (by omega)) (ev 8 (by omega) (by omega)) (ev 1001 (by omega) (by omega)) (fun a a1 a2 => ev _ (by omega) (by omega) 32 (by decide)) (fun k => hW 14 k (by omega) (by omega)), h.fr.ex (ev 7 (by omega) (by omega)) (e 0 (by decide) (by decide)) (fun i hi => e _ (by omega) (by omega)) (e 2 (by decide) (by decide)) (fun i k hi hk => ?_) (fun j hj => ev _ (by omega) (by omega)), ⟨?_, fun i hi => ?_⟩, ?_⟩
  · rw [e 1000 (by decide) (by decide), e 0 (by decide) (by decide)]; exact t1
  · rw [e1, e2]
  · rw [e 1002 (by decide) (by decide), e 2 (by decide) (by decide)]; exact t3
  · rw [e _ (by omega) (by omega), e _ (by omega) (by omega)]; exact t4 i hi
  · rw [e _ (by omega) (by omega)]
    rw [e 0 (by decide) (by decide)] at hc
    exact t5 i hi hc
  · rw [e 3 (by decide) (by decide)]; exact t6
  · rw [e 4 (by decide) (by decide)]; exact t7
  · rw [e 5 (by decide) (by decide)]; exact t8
  · rw [e 0 (by decide) (by decide)]; exact t9
  · omega
  · rw [e 2 (by decide) (by decide)]; exact t11
  · rw [e _ (by omega) (by omega)]; exact t12 i hi
  · rw [e1] at ha
    by_cases c : a = n
    · subst c
      show rAc1 S' a
      unfold rAc1
      rw [vC 160 (by decide), vC 161 (by decide), vC 162 (by decide), vC 163 (by decide), vC 164 (by decide), vC 165 (by decide), vC 166 (by decide), vC 167 (by decide), vM 544 (by decide), vM 545 (by decide), vM 546 (by decide), vM 547 (by decide), vM 548 (by decide), vM 549 (by decide), vM 550 (by decide)]
      exact ⟨rfl, ⟨rfl, q1⟩, ⟨rfl, q2⟩, ⟨rfl, q3⟩, rfl, ⟨rfl, q4⟩, ⟨rfl, Or.inl rfl⟩, rfl⟩
    · exact rAc1.ex (S := S) (h.ac a (by omega)) (ev _ (by omega) (by omega)) (ev _ (by omega) (by omega))
  · rw [e1] at ha ⊢
    by_cases c : a = n
    · subst c
      rw [en551]
      refine ⟨⟨a, by omega, rfl⟩, fun b hb => ?_⟩
      rw [vC 168 (by decide)]
      show bt (zbit (nI a)) b = _
      rw [b_z a (by omega) b hb]
      by_cases c : b = a
      · subst c
        rw [en551, decide_eq_true (show b < b + 1 by omega), decide_eq_true rfl]
        simp
      · rw [decide_eq_false (fun q => c q.symm)]
        by_cases c2 : b < a + 1
        · obtain ⟨g, g1, g2⟩ := e551 b (by omega)
          rw [g2, decide_eq_false (show ¬ nI g = nI a from fun q => by have := (nI_eq (by omega) (by omega)).mp q; omega), Bool.and_false]
        · rw [decide_eq_false c2, Bool.false_and]
    · obtain ⟨g, g1, g2⟩ := e551 a (by omega)
      rw [g2]
      refine ⟨⟨g, by omega, rfl⟩, fun b hb => ?_⟩
      rw [ev _ (by omega) (by omega) 168 (by decide), (h.gr a (by omega)).2 b hb, hn]
      by_cases c2 : b = n
      · subst c2
        rw [en551, decide_eq_false (Nat.lt_irrefl b), Bool.false_and, decide_eq_false (show ¬ nI b = nI g from fun q => by have := (nI_eq (by omega) (by omega)).mp q; omega), Bool.and_false]
      · by_cases c3 : b < n
        · rw [decide_eq_true c3, decide_eq_true (show b < n + 1 by omega), ← g2, ev _ (by omega) (by omega) 551 (by decide), ev _ (by omega) (by omega) 551 (by decide)]
        · rw [decide_eq_false c3, decide_eq_false (show ¬ b < n + 1 by omega), Bool.false_and, Bool.false_and]
  · rw [e1]
    obtain ⟨c1, c2, c3⟩ := h.cu.to (W' := sW S') (fun k => hW 9 k (by omega) (by omega)) (fun a k ha _ => hW _ k (by omega) (by omega))
    exact ⟨fun a b ha hb => ⟨(c1 a b ha hb).1, (c1 a b ha hb).2.1, fun q => ⟨Nat.lt_succ_of_lt (hn ▸ ((c1 a b ha hb).2.2 q).1), Nat.lt_succ_of_lt (hn ▸ ((c1 a b ha hb).2.2 q).2)⟩⟩, c2, c3⟩
  · have := bk i hi
    exact ⟨ev _ (by omega) (by omega), ev _ (by omega) (by omega)⟩
  · have := bk i hi
    exact ev _ (by omega) (by omega)
  · rw [e1]
    show fMoney S' n + sV S' (140 + n) 167 = _
    rw [fMoney_ex (S := S) n (fun a ha => ev _ (by omega) (by omega)), vC 167 (by decide), ev 7 (by omega) (by omega) 231 (by decide), ev 7 (by omega) (by omega) 232 (by decide), ← hn, h.so.1]
    show _ + (0 : Int32) = _
    rw [Int32.add_zero]
  · rw [e 0 (by decide) (by decide)] at hi
    have := bk i hi
    exact fApart_ex (h.so.2 i hi) (e _ (by omega) (by omega)) (fun k hk => ev _ (by omega) (by omega))
  · rw [hP 1010 (Or.inr rfl)]
    exact h.p10
theorem rel_addPitch {y ec sh : Int32} (h : rRel S) (hn : sc S 0 = n) (hn6 : n < 6) (e1 : sc S' 0 = n + 1) (e2 : sc S' 1000 = n + 1) (e : ∀ k, k ≠ 0 → k ≠ 1000 → sc S' k = sc S k) (hT : sT S' = sT S) (hP : ∀ j, j < 6 ∨ j = 1010 → sP S' j = sP S j)
    (hV : ∀ r k, k ≠ 672 → r ≠ 100 + n → r ≠ 110 + n → r ≠ 120 + n → r ≠ 1100 + n → r ≠ 1110 + n → r ≠ 1120 + n → sV S' r k = sV S r k) (hW : ∀ r k, r ≠ 100 + n → r ≠ 110 + n → r ≠ 120 + n → r ≠ 1100 + n → r ≠ 1110 + n → r ≠ 1120 + n → sW S' r k = sW S r k)
    (v1 : sV S' (100 + n) 352 = y ∧ sV S' (100 + n) 353 = ec ∧ sV S' (100 + n) 354 = sh) (v2 : sV S' (1100 + n) 576 = y ∧ sV S' (1100 + n) 577 = ec ∧ sV S' (1100 + n) 578 = sh) (w : ∀ j, sW S' (110 + n) j = 0 ∧ sW S' (1110 + n) j = 0)
    (q1 : rN y 0 99) (q2 : rN ec 0 9) : rRel S' := by
  have b0 := h.b0
  have b1 := h.b1
  have b2 := h.b2
  have bk := fun i (hi : i < sc S 0) => h.bk hi
  have ev : ∀ r, r ≠ 100 + n → r ≠ 110 + n → r ≠ 120 + n → r ≠ 1100 + n → r ≠ 1110 + n → r ≠ 1120 + n → eqV S S' r := fun r h1 h2 h3 h4 h5 h6 k hk => hV r k hk h1 h2 h3 h4 h5 h6
  have ew : ∀ r, r ≠ 100 + n → r ≠ 110 + n → r ≠ 120 + n → r ≠ 1100 + n → r ≠ 1110 + n → r ≠ 1120 + n → eqW S S' r := fun r h1 h2 h3 h4 h5 h6 k => hW r k h1 h2 h3 h4 h5 h6
  obtain ⟨⟨t1, t2, t3⟩, t4, t5, ⟨t6, t7, t8⟩, t9, t10, t11, t12⟩ := h.ct
  have z0 : sc S' (10 + n) = 0 := by rw [e _ (by omega) (by omega)]; exact t5 n hn6 (by omega)
  refine ⟨⟨⟨⟨?_, ?_, ?_⟩, fun i hi => ?_, fun i hi hc => ?_, ⟨?_, ?_, ?_⟩, ?_, ?_, ?_, fun i hi => ?_⟩, fun i hi => ?_, h.ac.ex (e 1 (by decide) (by decide)) (fun a ha => ⟨ev _ (by omega) (by omega) (by omega) (by omega) (by omega) (by omega), ev _ (by omega) (by omega) (by omega) (by omega) (by omega) (by omega)⟩), h.gr.ex (e 1 (by decide) (by decide)) (fun a ha => ⟨ev _ (by omega) (by omega) (by omega) (by omega) (by omega) (by omega), ev _ (by omega) (by omega) (by omega) (by omega) (by omega) (by omega)⟩), ?_⟩, ⟨fun i k hi hk => ?_, fun i j k m hi hj hk hm hne => ?_, h.vi.ex (e 2 (by decide) (by decide)) (by omega) (fun j hj => hP j (Or.inl (by omega))) (fun j hj => ⟨ev _ (by omega) (by omega) (by omega) (by omega) (by omega) (by omega), ev _ (by omega) (by omega) (by omega) (by omega) (by omega) (by omega)⟩), h.lo.ex (e 1003 (by decide) (by decide)) (by rw [e 1 (by decide) (by decide)]; exact Nat.le_refl _) (ev 4 (by omega) (by omega) (by omega) (by omega) (by omega) (by omega)) (ev 1001 (by omega) (by omega) (by omega) (by omega) (by omega) (by omega)) (fun j hj => ev _ (by omega) (by omega) (by omega) (by omega) (by omega) (by omega) 32 (by decide)) (fun r hr => ew r (by omega) (by omega) (by omega) (by omega) (by omega) (by omega))⟩, h.we.ex (ev 5 (by omega) (by omega) (by omega) (by omega) (by omega) (by omega)) (ev 6 (by omega) (by omega) (by omega) (by omega) (by omega) (by omega)) (ev 1001 (by omega) (by omega) (by omega) (by omega) (by omega) (by omega)), h.da.ex (e 6 (by decide) (by decide)) (ev 7 (by omega) (by omega) (by omega) (by omega) (by omega) (by omega)) (ev 8 (by omega) (by omega) (by omega) (by omega) (by omega) (by omega)) (ev 1001 (by omega) (by omega) (by omega) (by omega) (by omega) (by omega)) (fun a a1 a2 => ev _ (by omega) (by omega) (by omega) (by omega) (by omega) (by omega) 32 (by decide)) (ew 14 (by omega) (by omega) (by omega) (by omega) (by omega) (by omega)), fun q => ?_, ⟨?_, fun i hi => ?_⟩, ?_⟩
  · rw [e1, e2]
  · rw [e 1001 (by decide) (by decide), e 1 (by decide) (by decide)]; exact t2
  · rw [e 1002 (by decide) (by decide), e 2 (by decide) (by decide)]; exact t3
  · rw [e _ (by omega) (by omega), e _ (by omega) (by omega)]; exact t4 i hi
  · rw [e _ (by omega) (by omega)]
    exact t5 i hi (by omega)
  · rw [e 3 (by decide) (by decide)]; exact t6
  · rw [e 4 (by decide) (by decide)]; exact t7
  · rw [e 5 (by decide) (by decide)]; exact t8
  · omega
  · rw [e 1 (by decide) (by decide)]; exact t10
  · rw [e 2 (by decide) (by decide)]; exact t11
  · rw [e _ (by omega) (by omega)]; exact t12 i hi
  · rw [e1] at hi
    by_cases c : i = n
    · subst c
      obtain ⟨a1, a2, a3⟩ := v1
      obtain ⟨a4, a5, a6⟩ := v2
      rw [a1, a2, a3, a4, a5, a6]
      refine ⟨⟨⟨rfl, q1⟩, ⟨rfl, q2⟩, rfl⟩, fun j hj => ?_⟩
      rw [(w j).1, (w j).2]
      exact ⟨rfl, rN_0⟩
    · exact rPi1.ex (S := S) (h.pi i (by omega)) (ev _ (by omega) (by omega) (by omega) (by omega) (by omega) (by omega)) (ev _ (by omega) (by omega) (by omega) (by omega) (by omega) (by omega)) (ew _ (by omega) (by omega) (by omega) (by omega) (by omega) (by omega)) (ew _ (by omega) (by omega) (by omega) (by omega) (by omega) (by omega))
  · rw [e 1 (by decide) (by decide)]
    exact h.cu.to (fun k => hW 9 k (by omega) (by omega) (by omega) (by omega) (by omega) (by omega)) (fun a k ha _ => hW _ k (by omega) (by omega) (by omega) (by omega) (by omega) (by omega))
  · rw [e1] at hi
    by_cases c : i = n
    · subst c
      rw [z0] at hk
      exact absurd hk (Nat.not_lt_zero _)
    · rw [e _ (by omega) (by omega)] at hk
      have := bk i (by omega)
      exact rTu1.ex (S := S) (h.tu i k (by omega) hk) (by rw [e 1 (by decide) (by decide)]; exact Nat.le_refl _) (by rw [hT]) (ev _ (by omega) (by omega) (by omega) (by omega) (by omega) (by omega)) (ev _ (by omega) (by omega) (by omega) (by omega) (by omega) (by omega))
  · rw [e1] at hi hj
    by_cases c : i = n
    · subst c
      rw [z0] at hk
      exact absurd hk (Nat.not_lt_zero _)
    · by_cases c2 : j = n
      · subst c2
        rw [z0] at hm
        exact absurd hm (Nat.not_lt_zero _)
      · rw [e _ (by omega) (by omega)] at hk hm
        rw [hT]
        exact h.on i j k m (by omega) (by omega) hk hm hne
  · rw [ev 7 (by omega) (by omega) (by omega) (by omega) (by omega) (by omega) 228 (by decide)] at q
    obtain ⟨g1, g2⟩ := h.fr q
    refine ⟨fun i k hi hk => ?_, fun j hj => ?_⟩
    · rw [e1] at hi
      by_cases c : i = n
      · subst c
        rw [z0] at hk
        exact absurd hk (Nat.not_lt_zero _)
      · rw [e _ (by omega) (by omega)] at hk
        have := bk i (by omega)
        exact rFrT.ex (S := S) (g1 i k (by omega) hk) (ev _ (by omega) (by omega) (by omega) (by omega) (by omega) (by omega))
    · rw [e 2 (by decide) (by decide)] at hj
      rw [ev (150 + j) (by omega) (by omega) (by omega) (by omega) (by omega) (by omega) 450 (by decide), ev (150 + j) (by omega) (by omega) (by omega) (by omega) (by omega) (by omega) 451 (by decide)]
      exact g2 j hj
  · rw [e 1 (by decide) (by decide), fMoney_ex (S := S) (sc S 1) (fun a ha => ev _ (by omega) (by omega) (by omega) (by omega) (by omega) (by omega)), ev 7 (by omega) (by omega) (by omega) (by omega) (by omega) (by omega) 231 (by decide), ev 7 (by omega) (by omega) (by omega) (by omega) (by omega) (by omega) 232 (by decide)]
    exact h.so.1
  · rw [e1] at hi
    by_cases c : i = n
    · subst c
      exact fApart_un (fun k hk => by rw [z0] at hk; exact absurd hk (Nat.not_lt_zero _))
    · have := bk i (by omega)
      exact fApart_ex (h.so.2 i (by omega)) (e _ (by omega) (by omega)) (fun k hk => ev _ (by omega) (by omega) (by omega) (by omega) (by omega) (by omega))
  · rw [hP 1010 (Or.inr rfl)]
    exact h.p10
end ZOP7
