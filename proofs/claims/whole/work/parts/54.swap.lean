/-! TWO TURNS EXCHANGED: their roles change places -/
section ZSWAP
variable {Z : zPar} {l : Launch} {Λ : Nat → Nat} {S : zSt} {M : zMem} {i t o r s k : Nat} {c : Nat → Nat}
def zsw (a b s : Nat) : Nat := if s = a then b else if s = b then a else s
theorem zsw_a {a b : Nat} : zsw a b a = b := if_pos rfl
theorem zsw_b {a b : Nat} : zsw a b b = a := by
  unfold zsw
  split
  · next h => exact h
  · exact if_pos rfl
theorem zsw_n {a b s : Nat} (h1 : s ≠ a) (h2 : s ≠ b) : zsw a b s = s := by
  unfold zsw
  rw [if_neg h1, if_neg h2]
theorem zsw_2 {a b s : Nat} : zsw a b (zsw a b s) = s := by
  by_cases h1 : s = a
  · subst h1
    rw [zsw_a, zsw_b]
  · by_cases h2 : s = b
    · subst h2
      rw [zsw_b, zsw_a]
    · rw [zsw_n h1 h2, zsw_n h1 h2]
theorem zpt_rng (hk : zpt r k ≠ 0) : zpt r k < 130 ∨ 1000 ≤ zpt r k := by
  have hd := zpt_dom hk
  generalize e : zpt r k = x at hk ⊢
  unfold zpt at e
  by_cases k5 : k < 512
  · rw [if_pos k5] at e
    by_cases e384 : k = 384
    · rw [if_pos e384] at e
      have e9 := zif (by rw [e]; exact hk)
      rw [if_pos e9] at e
      omega
    rw [if_neg e384] at e
    by_cases e385 : k = 385
    · rw [if_pos e385] at e
      have e9 := zif (by rw [e]; exact hk)
      rw [if_pos e9] at e
      omega
    rw [if_neg e385] at e
    by_cases e192 : k = 192
    · rw [if_pos e192] at e
      have e9 := zif (by rw [e]; exact hk)
      rw [if_pos e9] at e
      omega
    rw [if_neg e192] at e
    by_cases e193 : k = 193
    · rw [if_pos e193] at e
      have e9 := zif (by rw [e]; exact hk)
      rw [if_pos e9] at e
      omega
    rw [if_neg e193] at e
    by_cases e320 : k = 320
    · rw [if_pos e320] at e
      have e9 := zif (by rw [e]; exact hk)
      rw [if_pos e9] at e
      omega
    rw [if_neg e320] at e
    by_cases e321 : k = 321
    · rw [if_pos e321] at e
      have e9 := zif (by rw [e]; exact hk)
      rw [if_pos e9] at e
      omega
    rw [if_neg e321] at e
    by_cases e322 : k = 322
    · rw [if_pos e322] at e
      have e9 := zif (by rw [e]; exact hk)
      rw [if_pos e9] at e
      omega
    rw [if_neg e322] at e
    by_cases e224 : k = 224
    · rw [if_pos e224] at e
      have e9 := zif (by rw [e]; exact hk)
      rw [if_pos e9] at e
      omega
    rw [if_neg e224] at e
    by_cases e225 : k = 225
    · rw [if_pos e225] at e
      have e9 := zif (by rw [e]; exact hk)
      rw [if_pos e9] at e
      omega
    rw [if_neg e225] at e
    by_cases e226 : k = 226
    · rw [if_pos e226] at e
      have e9 := zif (by rw [e]; exact hk)
      rw [if_pos e9] at e
      omega
    rw [if_neg e226] at e
    by_cases e227 : k = 227
    · rw [if_pos e227] at e
      have e9 := zif (by rw [e]; exact hk)
      rw [if_pos e9] at e
      omega
    rw [if_neg e227] at e
    by_cases e256 : k = 256
    · rw [if_pos e256] at e
      have e9 := zif (by rw [e]; exact hk)
      rw [if_pos e9] at e
      omega
    rw [if_neg e256] at e
    by_cases e355 : k = 355
    · rw [if_pos e355] at e
      have e9 := zif (by rw [e]; exact hk)
      rw [if_pos e9] at e
      omega
    rw [if_neg e355] at e
    by_cases e356 : k = 356
    · rw [if_pos e356] at e
      have e9 := zif (by rw [e]; exact hk)
      rw [if_pos e9] at e
      omega
    rw [if_neg e356] at e
    omega
  rw [if_neg k5] at e
  by_cases k6 : k < 519
  · rw [if_pos k6] at e
    have e9 := zif (by rw [e]; exact hk)
    rw [if_pos e9] at e
    omega
  rw [if_neg k6] at e
  by_cases e579 : k = 579
  · rw [if_pos e579] at e
    have e9 := zif (by rw [e]; exact hk)
    rw [if_pos e9] at e
    omega
  rw [if_neg e579] at e
  by_cases e580 : k = 580
  · rw [if_pos e580] at e
    have e9 := zif (by rw [e]; exact hk)
    rw [if_pos e9] at e
    omega
  rw [if_neg e580] at e
  by_cases k7 : 673 ≤ k ∧ k ≤ 678
  · rw [if_pos k7] at e
    have e9 := zif (by rw [e]; exact hk)
    rw [if_pos e9] at e
    omega
  rw [if_neg k7] at e
  omega
def fSwap (S : zSt) (i t o : Nat) : zSt := (sc S, fun s => sV S (zsw (160 + 8 * i + t) (160 + 8 * i + o) s), fun s => sW S (zsw (160 + 8 * i + t) (160 + 8 * i + o) s), fun i2 k => if i2 = i then sT S i (zsw t o k) else sT S i2 k, sP S)
abbrev mSwap (Λ : Nat → Nat) (M : zMem) (i t o : Nat) : zMem := (mK M, mN M, fun a => zsw (160 + 8 * i + t) (160 + 8 * i + o) (mG M a), vI M, vR M, aI M, u2 (u2 (aR M) (Λ (130 + i)) t (some (Λ (160 + 8 * i + o)))) (Λ (130 + i)) o (some (Λ (160 + 8 * i + t))), aL M, aD M)
theorem zRp.swap (h : zRp Z Λ S M) (hi : i < sc S 0) (ht : t < sc S (10 + i)) (ho : o < sc S (10 + i)) : zRp Z (fun s => Λ (zsw (160 + 8 * i + t) (160 + 8 * i + o) s)) (fSwap S i t o) (mSwap Λ M i t o) := by
  have hb := h.bnd
  have b6 := hb.1.1
  have b8 := hb.1.2.2.2 i
  have hlt : zlv (sc S) (160 + 8 * i + t) := lvK hi ht
  have hlo : zlv (sc S) (160 + 8 * i + o) := lvK hi ho
  have hL := h.lT hi
  have he3 : mK M (Λ (130 + i)) = 3 := by
    rcases hL.row with h9 | h9
    · omega
    · exact h9
  have heg : mG M (Λ (130 + i)) = 130 + i := by
    have := (h.rw (lvT hi) (zki_T (by omega)))
    rw [zrw_T (by omega)] at this
    exact (this he3).1
  have kT : zki (160 + 8 * i + t) = 23 := by rw [Nat.add_assoc]; exact zki_K (by omega)
  have kO : zki (160 + 8 * i + o) = 23 := by rw [Nat.add_assoc]; exact zki_K (by omega)
  -- one of the two
  have two : ∀ x y : Nat, ((x = t ∧ y = o) ∨ (x = o ∧ y = t)) → zOne Z (fun s => Λ (zsw (160 + 8 * i + t) (160 + 8 * i + o) s)) (fSwap S i t o) (mSwap Λ M i t o) (160 + 8 * i + x) := by
    intro x y hxy
    have hx : x < sc S (10 + i) := by omega
    have hy : y < sc S (10 + i) := by omega
    have ex : zsw (160 + 8 * i + t) (160 + 8 * i + o) (160 + 8 * i + x) = 160 + 8 * i + y := by
      rcases hxy with ⟨rfl, rfl⟩ | ⟨rfl, rfl⟩
      · exact zsw_a
      · exact zsw_b
    have ex2 : zsw t o x = y := by
      rcases hxy with ⟨rfl, rfl⟩ | ⟨rfl, rfl⟩
      · exact zsw_a
      · exact zsw_b
    have hly := lvK hi hy
    have kX : zki (160 + 8 * i + x) = 23 := by rw [Nat.add_assoc]; exact zki_K (by omega)
    have ey : zsw (160 + 8 * i + t) (160 + 8 * i + o) (160 + 8 * i + y) = 160 + 8 * i + x := by rw [← ex, zsw_2]
    refine zOne_plain (q := Λ (160 + 8 * i + y)) (congrArg Λ ex) ((h.kK hi hy).trans kX.symm) ?_ (zle_hi (by omega)) (by omega) (by rw [kX]; decide) (by omega) (fun k h1 h2 => ?_) (fun j => ?_) (fun i2 k hi2 hk2 e => ?_) (fun j hj e => ?_)
    · show zsw _ _ (mG M (Λ (160 + 8 * i + y))) = _
      rw [h.mk hly, ey]
    · show vI M (Λ (160 + 8 * i + y)) k = sV S (zsw _ _ (160 + 8 * i + x)) k
      rw [ex]
      exact h.iv hly h1 h2
    · show aI M (Λ (160 + 8 * i + y)) j = sW S (zsw _ _ (160 + 8 * i + x)) j
      rw [ex]
      exact h.av hly
    · have b9 := hb.1.2.2.2 i2
      have e1 : i2 = i := by omega
      subst e1
      have e2 : k = x := by omega
      subst e2
      show (if i2 = i2 then sT S i2 (zsw t o k) else sT S i2 k) < sc S 1 ∧ vR M (Λ (160 + 8 * i2 + y)) 416 = some (Λ (zsw _ _ (140 + (if i2 = i2 then sT S i2 (zsw t o k) else sT S i2 k))))
      rw [if_pos rfl, ex2]
      have hab := h.actb hi hy
      have := hb.1.2.1
      rw [zsw_n (by omega) (by omega)]
      exact ⟨hab, h.act hi hy⟩
    · have := hb.1.2.2.1
      have : j < sc S 2 := hj
      omega
  refine zRp.of hb (fun s hs => ?_) ⟨fun j hj => ?_, fun j hj => ?_⟩ ?_
  · by_cases h1 : s = 160 + 8 * i + t
    · subst h1
      exact two t o (Or.inl ⟨rfl, rfl⟩)
    by_cases h2 : s = 160 + 8 * i + o
    · subst h2
      exact two o t (Or.inr ⟨rfl, rfl⟩)
    have es : zsw (160 + 8 * i + t) (160 + 8 * i + o) s = s := zsw_n h1 h2
    obtain ⟨⟨a1, b1⟩, ⟨a2, a3⟩, a4, a5, ⟨a6, a7⟩, a8, a9⟩ := h.one hs
    unfold zOne
    simp only [es]
    refine ⟨⟨a1, ?_⟩, ⟨a2, fun k hk => ?_⟩, fun hk => ?_, fun e j hj => ?_, ⟨fun k h3 h4 => ?_, fun j => ?_⟩, fun i2 k hi2 hk2 e => ?_, fun j hj e => ?_⟩
    · show zsw _ _ (mG M (Λ s)) = s
      rw [b1, es]
    · have := zpt_rng hk
      rw [zsw_n (by omega) (by omega)]
      exact a3 k hk
    · have hr := zlr_of hk
      have hro := zrw_out hr
      have er : zsw (160 + 8 * i + t) (160 + 8 * i + o) (zrw s) = zrw s := zsw_n (by omega) (by omega)
      rw [er]
      obtain ⟨⟨l1, l2, l3, l4, l5⟩, l6⟩ := a4 hk
      refine ⟨⟨l1, l2, l3, l4, fun j hj => ?_⟩, fun h3 => ⟨?_, (l6 h3).2⟩⟩
      · by_cases e : s = 120 + i
        · subst e
          have ebs : zbs (120 + i) = 160 + 8 * i := zbs_T (by omega)
          have erw : zrw (120 + i) = 130 + i := zrw_T (by omega)
          have l5 := l5 j hj
          rw [erw, ebs] at l5 ⊢
          show u2 (u2 (aR M) (Λ (130 + i)) t (some (Λ (160 + 8 * i + o)))) (Λ (130 + i)) o (some (Λ (160 + 8 * i + t))) (Λ (130 + i)) j = some (Λ (zsw _ _ (160 + 8 * i + j)))
          by_cases e1 : j = o
          · subst e1
            rw [u2_at, zsw_b]
          · rw [u2_nk e1]
            by_cases e2 : j = t
            · subst e2
              rw [u2_at, zsw_a]
            · rw [u2_nk e2, zsw_n (by omega) (by omega)]
              exact l5
        · have hne : Λ (zrw s) ≠ Λ (130 + i) := by
            intro e9
            have h3 : mK M (Λ (zrw s)) = 3 := by rw [e9]; exact he3
            have h5 := (l6 h3).1
            rw [e9, heg] at h5
            exact e (zrw_inj hr (show zlr (120 + i) by unfold zlr; omega) (by rw [zrw_T (by omega)]; exact h5.symm))
          show u2 (u2 (aR M) (Λ (130 + i)) t (some (Λ (160 + 8 * i + o)))) (Λ (130 + i)) o (some (Λ (160 + 8 * i + t))) (Λ (zrw s)) j = some (Λ (zsw _ _ (zbs s + j)))
          rw [u2_ne hne, u2_ne hne]
          have hj0 : j < zct (sc S) s := hj
          have hn2 : zbs s + j ≠ 160 + 8 * i + t ∧ zbs s + j ≠ 160 + 8 * i + o := by
            rcases hr with rfl | rfl | rfl | hr | rfl | rfl | rfl | rfl | rfl | hr
            · have h9 : j < sc S 0 := hj0
              show 100 + j ≠ _ ∧ 100 + j ≠ _
              omega
            · have h9 : j < sc S 1 := hj0
              have := hb.1.2.1
              show 140 + j ≠ _ ∧ 140 + j ≠ _
              omega
            · have h9 : j < sc S 2 := hj0
              have := hb.1.2.2.1
              show 150 + j ≠ _ ∧ 150 + j ≠ _
              omega
            · obtain ⟨i3, rfl⟩ : ∃ i3, s = 120 + i3 := ⟨s - 120, by omega⟩
              rw [zct_T (by omega)] at hj0
              have := hb.1.2.2.2 i3
              rw [zbs_T (by omega)]
              omega
            · show 1100 + j ≠ _ ∧ 1100 + j ≠ _
              omega
            · show 1140 + j ≠ _ ∧ 1140 + j ≠ _
              omega
            · show 1150 + j ≠ _ ∧ 1150 + j ≠ _
              omega
            · show 1300 + j ≠ _ ∧ 1300 + j ≠ _
              omega
            · show 1320 + j ≠ _ ∧ 1320 + j ≠ _
              omega
            · obtain ⟨i3, rfl⟩ : ∃ i3, s = 1120 + i3 := ⟨s - 1120, by omega⟩
              rw [zbs_T' (by omega)]
              omega
          rw [zsw_n hn2.1 hn2.2]
          exact l5 j hj
      · show zsw _ _ (mG M (Λ (zrw s))) = zrw s
        rw [(l6 h3).1, er]
    · have hne : Λ 1025 ≠ Λ (130 + i) := by
        intro e9
        subst e
        rw [e9, he3] at a1
        exact absurd a1 (by decide)
      rw [zsw_n (by omega) (by omega)]
      show u2 (u2 (aR M) (Λ (130 + i)) t (some (Λ (160 + 8 * i + o)))) (Λ (130 + i)) o (some (Λ (160 + 8 * i + t))) (Λ 1025) j = some (Λ (zsw _ _ (1030 + j)))
      rw [zsw_n (by omega) (by omega), u2_ne hne, u2_ne hne]
      exact a5 e j hj
    · show vI M (Λ s) k = sV S (zsw _ _ s) k
      rw [es]
      exact a6 k h3 h4
    · show aI M (Λ s) j = sW S (zsw _ _ s) j
      rw [es]
      exact a7 j
    · have hab := h.actb hi2 hk2
      have := hb.1.2.1
      have e9 : sT (fSwap S i t o) i2 k = sT S i2 k := by
        show (if i2 = i then sT S i (zsw t o k) else sT S i2 k) = _
        split
        · next e8 =>
          subst e8
          rw [zsw_n (by omega) (by omega)]
        · rfl
      rw [e9, ← e, es, zsw_n (by omega) (by omega)]
      have := a8 i2 k hi2 hk2 e
      rw [← e] at this
      exact this
    · have h9 := a9 j hj e
      have := h.vpb hj
      show sP S j < sc S 0 ∧ vR M (Λ (zsw _ _ (150 + j))) 448 = some (Λ (zsw _ _ (100 + sP S j)))
      rw [← e, es, zsw_n (by omega) (by omega)]
      rw [← e] at h9
      exact h9
  · obtain ⟨q1, q2⟩ := h.ints.1 j hj
    unfold zIok
    show (mK M (Λ (zsw _ _ (1300 + j))) = 11 ∨ mK M (Λ (zsw _ _ (1300 + j))) = 8) ∧ vI M (Λ (zsw _ _ (1300 + j))) 32 = sV S (zsw _ _ (1300 + j)) 32
    rw [zsw_n (by omega) (by omega)]
    exact ⟨q1, q2⟩
  · obtain ⟨q1, q2⟩ := h.ints.2 j hj
    unfold zIok
    show (mK M (Λ (zsw _ _ (1320 + j))) = 11 ∨ mK M (Λ (zsw _ _ (1320 + j))) = 8) ∧ vI M (Λ (zsw _ _ (1320 + j))) 32 = sV S (zsw _ _ (1320 + j)) 32
    rw [zsw_n (by omega) (by omega)]
    exact ⟨q1, q2⟩
  · refine ⟨?_, h.emp⟩
    have h9 := h.outs
    refine ⟨?_, fun h8 => ?_⟩
    · have h9 := h9.1
      show sc S 5 = 1 → (mK M (Λ (zsw _ _ 40)) = 5 ∧ mN M (Λ (zsw _ _ 40)) = 1 ∧ aL M (Λ (zsw _ _ 40)) 0 = lN (sP S 1000)) ∧ mK M (Λ (zsw _ _ 41)) = 6 ∧ mN M (Λ (zsw _ _ 41)) = 1 ∧ aD M (Λ (zsw _ _ 41)) 0 = UInt64.ofNat (sP S 1001)
      rw [zsw_n (by omega) (by omega), zsw_n (by omega) (by omega)]
      exact h9
    · obtain ⟨c1, c2, c3, c4⟩ := h9.2 h8
      refine ⟨c1, c2, ?_, c4⟩
      show zsw _ _ (mG M (sP S 1002)) = 42
      rw [c3]
      exact zsw_n (by omega) (by omega)
end ZSWAP
