/-! THE DAY 2: one pitch as a minute opens -/
section ZPL2
variable {S T : zSt} {i n m : Nat} {t : zVp} {A : Nat → Nat → Nat}
theorem gClose_none (h : t.2.1 i = none) : gClose i m t = t := by
  unfold gClose
  rw [h]
theorem gClose_on {k : Nat} (h : t.2.1 i = some k) (h2 : nI m ≤ t.1 (160 + 8 * i + k) 418) : gClose i m t = t := by
  unfold gClose
  rw [h]
  exact if_pos h2
theorem gClose_off {k : Nat} (h : t.2.1 i = some k) (h2 : ¬ nI m ≤ t.1 (160 + 8 * i + k) 418) : gClose i m t = (u2 t.1 (100 + i) 358 (t.1 (160 + 8 * i + k) 418 + 5 + 1), u1 t.2.1 i none, t.2.2) := by
  unfold gClose
  rw [h]
  exact if_neg h2
theorem gStart_some {k : Nat} (h : t.2.1 i = some k) : gStart S i m t = t := by
  unfold gStart
  rw [h]
theorem gStart_no (h : t.2.1 i = none) (h2 : ¬ (nI m = t.1 (100 + i) 358 ∧ t.2.2 i < sc S (10 + i))) : gStart S i m t = t := by
  unfold gStart
  rw [h]
  exact if_neg h2
theorem gStart_go (h : t.2.1 i = none) (h2 : nI m = t.1 (100 + i) 358 ∧ t.2.2 i < sc S (10 + i)) : gStart S i m t = gBegin S i m t := by
  unfold gStart
  rw [h]
  exact if_pos h2
theorem fBgM_no (h : ¬ (fNxM T i < sc T (1010 + i) ∧ fDueM T i (fNxM T i) = nI m ∧ nI m + sV T (1140 + A i (fNxM T i)) 544 - 1 ≤ 1199)) : fBgM T A i (nI m) = sV T := by
  unfold fBgM
  exact if_neg h
theorem min_ok (hA : pA t.1 (t.2.1 i) (t.2.2 i) i n m) (hT : ∀ k, k < n → pT t.1 (sV T) i k) (hn : sc S (10 + i) = n) (hn' : sc T (1010 + i) = n) (hn8 : n ≤ 8) (hmn : ∀ k, k < n → ∃ mn, t.1 (140 + sT S i k) 161 = nI mn ∧ sV T (1140 + A i k) 544 = nI mn ∧ 5 ≤ mn ∧ mn ≤ 60) (h6 : 600 ≤ m) (h12 : m < 1200) :
    pB (gMin S i m t).1 ((gMin S i m t).2.1 i) ((gMin S i m t).2.2 i) i n m ∧ ∀ k, k < n → pT (gMin S i m t).1 (fBgM T A i (nI m)) i k := by
  obtain ⟨q, b, e, h1, h2, h3⟩ := hA
  have hnx := nx_eq h1 hT hn'
  have hdu := due_eq h1 hT
  have hq := h1.1
  have hd9 : due q e < 2000 := by
    unfold due
    split
    · omega
    · have := (h1.2.1 (q - 1) (by omega)).2.2.2.2.2
      omega
  have hno : (q = n ∨ due q e ≠ m) → fBgM T A i (nI m) = sV T := fun h => fBgM_no (fun ⟨g1, g2, _⟩ => by
    rw [hnx, hn'] at g1
    rw [hnx, hdu] at g2
    have := (nI_eq (by omega) (by omega)).mp g2
    omega)
  have same : gMin S i m t = t → (q = n ∨ due q e ≠ m) → pB t.1 (t.2.1 i) (t.2.2 i) i n m → pB (gMin S i m t).1 ((gMin S i m t).2.1 i) ((gMin S i m t).2.2 i) i n m ∧ ∀ k, k < n → pT (gMin S i m t).1 (fBgM T A i (nI m)) i k := by
    intro g1 g2 g3
    rw [g1, hno g2]
    exact ⟨g3, hT⟩
  rcases h3 with ⟨hpl, h4, h5⟩ | ⟨hpl, h4, h5, h6', h7⟩
  · have hc : gClose i m t = t := gClose_none hpl
    rcases h5 with ⟨hx, hb, hm⟩ | ⟨hx, hm⟩
    · by_cases hqn : q = n
      · refine same ?_ (Or.inl hqn) ⟨q, b, e, h1, h2, Or.inl ⟨hpl, h4, Or.inr ⟨by omega, Or.inl hqn⟩⟩⟩
        show gStart S i m (gClose i m t) = t
        rw [hc]
        exact gStart_no hpl (fun g => by rw [hx, hn] at g; omega)
      · by_cases hdm : due q e = m
        · -- it begins, or is too late
          have hgo : gMin S i m t = gBegin S i m t := by
            show gStart S i m (gClose i m t) = _
            rw [hc]
            exact gStart_go hpl ⟨by rw [hb, hdm], by rw [hx, hn]; omega⟩
          obtain ⟨mn, m1, m2, m3, m4⟩ := hmn q (by omega)
          have hla : nI m + nI mn - 1 = nI (m + mn - 1) := by
            rw [nI_add, show m + mn = m + mn - 1 + 1 by omega, nI_pred]
            rfl
          have hlt : nI (m + mn - 1) ≤ 1199 ↔ m + mn - 1 ≤ 1199 := nI_leI (b := 1199) (by omega) (by decide)
          by_cases hl : m + mn - 1 ≤ 1199
          · have hgl : gLate S i m t = false := by
              unfold gLate
              rw [hx, m1, hla]
              exact decide_eq_false (fun g => g (hlt.mpr hl))
            have hg : gBegin S i m t = (u2 (gOpen S i q (nI m) t.1) (100 + i) 357 (nI (q + 1)), u1 t.2.1 i (some q), u1 t.2.2 i (q + 1)) := by
              unfold gBegin
              rw [hgl, hx]
              rfl
            have hV : ∀ r key, (gBegin S i m t).1 r key = if key = 357 ∧ r = 100 + i then nI (q + 1) else if key = 423 ∧ r = 160 + 8 * i + q then 1 else if key = 418 ∧ r = 160 + 8 * i + q then nI (m + mn - 1) else if key = 417 ∧ r = 160 + 8 * i + q then nI m else t.1 r key := by
              intro r key
              rw [hg]
              show u2 (gOpen S i q (nI m) t.1) (100 + i) 357 (nI (q + 1)) r key = _
              unfold gOpen
              rw [m1, hla]
              rfl
            have hW : fBgM T A i (nI m) = u2 (u2 (sV T) (1160 + 8 * i + q) 609 (nI m)) (1160 + 8 * i + q) 610 (nI (m + mn - 1)) := by
              unfold fBgM
              rw [hnx, hn', hdu, hdm, m2, hla, if_pos ⟨by omega, rfl, hlt.mpr hl⟩]
            rw [hgo]
            refine ⟨⟨q + 1, u1 b q m, u1 e q (m + mn - 1), ⟨by omega, fun k hk => ?_, fun k hk => ?_, fun k hk1 hk2 => ?_⟩, fun k hk => ?_, Or.inr ⟨?_, by omega, ?_, ?_, ?_⟩⟩, fun k hk => ?_⟩
            · rw [hV, hV, hV]
              by_cases g : k = q
              · subst g
                rw [if_neg (by omega), if_pos ⟨rfl, rfl⟩, if_neg (by omega), if_neg (by omega), if_neg (by omega), if_pos ⟨rfl, rfl⟩, if_neg (by omega), if_neg (by omega), if_pos ⟨rfl, rfl⟩, u1_at, u1_at]
                exact ⟨by decide, rfl, rfl, by omega, by omega, by omega⟩
              · rw [if_neg (by omega), if_neg (by omega), if_neg (by omega), if_neg (by omega), if_neg (by omega), if_neg (by omega), if_neg (by omega), if_neg (by omega), if_neg (by omega), if_neg (by omega), if_neg (by omega), if_neg (by omega), u1_ne g, u1_ne g]
                exact h1.2.1 k (by omega)
            · rw [show u1 e q (m + mn - 1) k = e k from u1_ne (by omega)]
              by_cases g : k + 1 = q
              · rw [g, u1_at]
                have := h4 (by omega)
                rw [show q - 1 = k by omega] at this
                exact this
              · rw [u1_ne g]
                exact h1.2.2.1 k (by omega)
            · rw [hV, if_neg (by omega), if_neg (by omega), if_neg (by omega), if_neg (by omega)]
              exact h1.2.2.2 k (by omega) hk2
            · rw [show u1 e q (m + mn - 1) k = e k from u1_ne (by omega)]
              by_cases g : k + 1 = q
              · have := h4 (by omega)
                rw [show q - 1 = k by omega] at this
                exact this
              · exact h2 k (by omega)
            · rw [hg]
              exact u1_at
            · rw [hg]
              exact u1_at
            · rw [show q + 1 - 1 = q by omega, u1_at]
              exact Nat.le_refl _
            · rw [show q + 1 - 1 = q by omega, u1_at]
              omega
            · by_cases g : k = q
              · subst g
                have ht := hT k hk
                have hun := h1.2.2.2 k (Nat.le_refl _) hk
                unfold pT
                rw [hW]
                simp only [hV, u2_if]
                obtain ⟨-, -, t3, t4, t5, t6, t7, t8⟩ := ht
                simp
                exact ⟨t3, t4, t5, t6, t7, t8⟩
              · refine (hT k hk).to (fun key _ _ => ?_) (fun key _ _ => ?_)
                · rw [hV, if_neg (by omega), if_neg (by omega), if_neg (by omega), if_neg (by omega)]
                · rw [hW, u2_if, u2_if, if_neg (by omega), if_neg (by omega)]
          · have hgl : gLate S i m t = true := by
              unfold gLate
              rw [hx, m1, hla]
              exact decide_eq_true (fun g => hl (hlt.mp g))
            have hg : gBegin S i m t = (u2 t.1 (100 + i) 357 (nI (sc S (10 + i))), t.2.1, u1 t.2.2 i (sc S (10 + i))) := by
              unfold gBegin
              rw [hgl]
              rfl
            have hW : fBgM T A i (nI m) = sV T := fBgM_no (fun ⟨_, _, g3⟩ => by
              rw [hnx, m2, hla] at g3
              exact hl (hlt.mp g3))
            have hV : ∀ r key, key ≠ 357 → (gBegin S i m t).1 r key = t.1 r key := by
              intro r key hk
              rw [hg]
              exact u2_nk hk
            rw [hgo, hW]
            refine ⟨⟨q, b, e, h1.to (fun k key _ hk => hV _ _ (by omega)), h2, Or.inl ⟨?_, h4, Or.inr ⟨?_, Or.inr (by omega)⟩⟩⟩, fun k hk => (hT k hk).to (fun key _ _ => hV _ _ (by omega)) (fun key _ _ => rfl)⟩
            · rw [hg]
              exact hpl
            · rw [hg]
              show u1 t.2.2 i (sc S (10 + i)) i = n
              rw [u1_at, hn]
        · refine same ?_ (Or.inr hdm) ⟨q, b, e, h1, h2, Or.inl ⟨hpl, h4, Or.inl ⟨hx, hb, by omega⟩⟩⟩
          show gStart S i m (gClose i m t) = t
          rw [hc]
          refine gStart_no hpl (fun g => ?_)
          rw [hb] at g
          have := (nI_eq (by omega) (by omega)).mp g.1
          omega
    · refine same ?_ (by omega) ⟨q, b, e, h1, h2, Or.inl ⟨hpl, h4, Or.inr ⟨hx, by omega⟩⟩⟩
      show gStart S i m (gClose i m t) = t
      rw [hc]
      exact gStart_no hpl (fun g => by rw [hx, hn] at g; omega)
  · have g418 := (h1.2.1 (q - 1) (by omega)).2.2.1
    have ge := (h1.2.1 (q - 1) (by omega)).2.2.2.2.2
    have hdd : due q e = e (q - 1) + 6 := if_neg (by omega)
    have hle : nI m ≤ t.1 (160 + 8 * i + (q - 1)) 418 ↔ m ≤ e (q - 1) := by
      rw [g418]
      exact nI_leI (by omega) (by omega)
    by_cases hme : m ≤ e (q - 1)
    · refine same ?_ (Or.inr (by omega)) ⟨q, b, e, h1, h2, Or.inr ⟨hpl, h4, h5, by omega, hme⟩⟩
      show gStart S i m (gClose i m t) = t
      rw [gClose_on hpl (hle.mpr hme)]
      exact gStart_some hpl
    · have hc := gClose_off hpl (fun g => hme (hle.mp g))
      have e6 : t.1 (160 + 8 * i + (q - 1)) 418 + 5 + 1 = nI (due q e) := by
        rw [g418, hdd]
        show nI (e (q - 1)) + nI 5 + nI 1 = _
        rw [nI_add, nI_add]
      rw [e6] at hc
      have hg : gMin S i m t = (u2 t.1 (100 + i) 358 (nI (due q e)), u1 t.2.1 i none, t.2.2) := by
        show gStart S i m (gClose i m t) = _
        rw [hc]
        refine gStart_no (u1_at) (fun g => ?_)
        have g1 : nI m = u2 t.1 (100 + i) 358 (nI (due q e)) (100 + i) 358 := g.1
        rw [u2_at] at g1
        have := (nI_eq (by omega) (by omega)).mp g1
        omega
      have hV : ∀ r key, key ≠ 358 → (gMin S i m t).1 r key = t.1 r key := by
        intro r key hk
        rw [hg]
        exact u2_nk hk
      rw [hno (Or.inr (by omega))]
      refine ⟨⟨q, b, e, h1.to (fun k key _ hk => hV _ _ (by omega)), h2, Or.inl ⟨?_, fun _ => by omega, Or.inl ⟨?_, ?_, by omega⟩⟩⟩, fun k hk => (hT k hk).to (fun key _ _ => hV _ _ (by omega)) (fun key _ _ => rfl)⟩
      · rw [hg]
        exact u1_at
      · rw [hg]
        exact h5
      · rw [hg]
        exact u2_at
end ZPL2
