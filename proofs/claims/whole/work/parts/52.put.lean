/-! THINGS ADDED TO A LIST, in general -/
section ZPUT
variable {Z : zPar} {l : Launch} {Λ Λ' : Nat → Nat} {S : zSt} {M M1 : zMem} {r s k i j a q : Nat} {c : Nat → Nat} {d : Nat} {mm : zMeth} {pc n nc ns ix nc1 ns1 : Nat} {L : List (Nat × Value)} {st : List Value} {Q : zO → zMem → Prop} {V' W' : Nat → Nat → Int32} {T' : Nat → Nat → Nat} {P' : Nat → Nat}
theorem zRp.row0 (h : zRp Z Λ S M) (hl : zlv (sc S) r) (hk : zki r = 14) : zct (sc S) r < mN M (Λ (zrw r)) ∨ zct (sc S) r = 0 ∨ 10 ≤ zct (sc S) r := by
  rcases (h.li hl hk).row with h9 | h9
  · exact Or.inr (Or.inl h9.2)
  · have := ((h.rw hl hk) h9).2
    omega
/-- v is added to the list r: its role is the next one of that list -/
theorem zw_add {v p : Nat} (hp : Λ r = p) (hd : decode (zMC mm) pc = .ok (.invokevirtual ix, 3)) (hw : zwd (.methodLink (zMY mm).cls ix yJx4a65c_add_9ea2d)) (h : zRp Z Λ S M) (hl : zlv (sc S) r) (hk : zki r = 14) (h10 : zct (sc S) r < 10) (hb' : zBnd (cset (sc S) (zci r) (zct (sc S) r + 1))) (hv : v = Λ (zbs r + zct (sc S) r)) (hob : zOb M v)
    (hnew : ∀ s, zlv (cset (sc S) (zci r) (zct (sc S) r + 1)) s → ¬ zlv (sc S) s → zOne Z Λ (cset (sc S) (zci r) (zct (sc S) r + 1), V', W', T', P') M s) (hV : ∀ s, zlv (sc S) s → ∀ k, k ≠ 128 → k ≠ 130 → V' s k = sV S s k) (hW : ∀ s, zlv (sc S) s → ∀ j, W' s j = sW S s j)
    (hT : ∀ i k, i < sc S 0 → k < sc S (10 + i) → T' i k = sT S i k) (hP : ∀ j, j < sc S 2 → P' j = sP S j) (hPo : ∀ j, P' (1000 + j) = sP S (1000 + j)) (hint : zInts Λ (cset (sc S) (zci r) (zct (sc S) r + 1), V', W', T', P') M)
    (hst : st.length ≤ 4) (hdd : 4 < d) (hc1 : nc1 + 1 ≤ nc) (hs1 : ns1 + 10 ≤ ns) (hn : pc + 3 = n)
    (kk : ∀ Λ' M', zRp Z Λ' (cset (sc S) (zci r) (zct (sc S) r + 1), V', W', T', P') M' → (∀ s, s ≠ zrw r → Λ' s = Λ s) → zX Z l d mm n L (.int 1 :: st) M' nc1 ns1 Q) : zX Z l d mm pc L (.ref v :: .ref p :: st) M nc ns Q := by
  subst hp
  have hL := h.li hl hk
  have hro : zct (sc S) r < mN M (Λ (zrw r)) ∨ zct (sc S) r = 0 := by
    rcases h.row0 hl hk with h9 | h9 | h9
    · exact Or.inl h9
    · exact Or.inr h9
    · omega
  refine zc_add (zrw r) hd hw hL hob hro hst hdd hc1 hs1 hn (fun h3 hc => ?_) (fun h0 h7 q hq => ?_)
  · exact kk Λ _ (zRp_addRoom h hl hk hb' hv hnew hV hW hT hP hPo hint h3 hc) (fun _ _ => rfl)
  · refine kk _ _ (zRp_addGrow h hl hk hb' hv hnew hV hW hT hP hPo hint h7 h0 hq ?_) (fun s hs => u1_ne hs)
    exact hob.ne
theorem zInts.same {S' : zSt} (h : zInts Λ S M) (h3 : sc S' 1003 = sc S 1003) (h4 : sc S' 6 = sc S 6) (hV : ∀ s, 1300 ≤ s → sV S' s 32 = sV S s 32) : zInts Λ S' M := by
  refine ⟨fun i hi => ?_, fun i hi => ?_⟩
  · obtain ⟨a, b⟩ := h.1 i (by omega)
    exact ⟨a, b.trans (hV _ (by omega)).symm⟩
  · obtain ⟨a, b⟩ := h.2 i (by omega)
    exact ⟨a, b.trans (hV _ (by omega)).symm⟩
/-- a new thing q of one role s0, told to nobody: what lives stays -/
theorem zRp.grow1 {s0 : Nat} (h : zRp Z Λ S M) (hs0 : ∀ s, zus (sc S) s → s ≠ s0) (h4 : s0 ≠ 40 ∧ s0 ≠ 41) (hr : ∀ r, zlr r → zrw r ≠ s0) (hM : ∀ a, mK M a ≠ 0 → zAg M M1 a) : zRp Z (u1 Λ s0 q) S M1 :=
  h.grow (fun s hs => u1_ne (hs0 s hs)) ⟨u1_ne (Ne.symm h4.1), u1_ne (Ne.symm h4.2)⟩ (fun r _ hk => u1_ne (hr r (zlr_of hk))) hM
theorem zpt_out (h : ¬ (r < 9 ∨ (100 ≤ r ∧ r < 110) ∨ r = 1001 ∨ (1100 ≤ r ∧ r < 1110))) : ∀ k, zpt r k = 0 := by
  intro k
  by_cases e : zpt r k = 0
  · exact e
  · exact absurd (zpt_dom e) h
theorem zus_ne {s0 : Nat} (hb : zBnd c) (h1 : ¬ zlv c s0) (h2 : s0 < 1300) : ∀ s, zus c s → s ≠ s0 := by
  intro s hs e
  subst e
  rcases hs with h | ⟨i, hi, h⟩ | ⟨i, hi, h⟩
  · exact h1 h
  · omega
  · omega
theorem zBnd.up (hb : zBnd c) (hr : zlr r) (hn : zct c r + 1 ≤ if r = 15 ∨ r = 19 ∨ r = 1015 ∨ r = 1019 then 6 else if r = 1023 then 11 else 8) : zBnd (cset c (zci r) (zct c r + 1)) := by
  obtain ⟨⟨h1, h2, h3, h4⟩, ⟨h5, h6, h7, h8, h9⟩, h10⟩ := hb
  rcases hr with rfl | rfl | rfl | hr | rfl | rfl | rfl | rfl | rfl | hr
  · exact ⟨⟨hn, h2, h3, fun i => by rw [cset_ne (by show 10 + i ≠ 0; omega)]; exact h4 i⟩, ⟨h5, h6, h7, h8, h9⟩, fun i => by rw [cset_ne (by show 1010 + i ≠ 0; omega)]; exact h10 i⟩
  · exact ⟨⟨h1, hn, h3, fun i => by rw [cset_ne (by show 10 + i ≠ 1; omega)]; exact h4 i⟩, ⟨h5, h6, h7, h8, h9⟩, fun i => by rw [cset_ne (by show 1010 + i ≠ 1; omega)]; exact h10 i⟩
  · exact ⟨⟨h1, h2, hn, fun i => by rw [cset_ne (by show 10 + i ≠ 2; omega)]; exact h4 i⟩, ⟨h5, h6, h7, h8, h9⟩, fun i => by rw [cset_ne (by show 1010 + i ≠ 2; omega)]; exact h10 i⟩
  · rw [if_neg (by omega), if_neg (by omega)] at hn
    have e : zci r = 10 + (r - 120) := by have := zci_T (i := r - 120) (by omega); rw [show 120 + (r - 120) = r from by omega] at this; exact this
    rw [e]
    refine ⟨⟨?_, ?_, ?_, fun i => ?_⟩, ⟨?_, ?_, ?_, ?_, ?_⟩, fun i => ?_⟩
    · rw [cset_ne (by omega)]; exact h1
    · rw [cset_ne (by omega)]; exact h2
    · rw [cset_ne (by omega)]; exact h3
    · unfold cset
      split
      · exact hn
      · exact h4 i
    · rw [cset_ne (by omega)]; exact h5
    · rw [cset_ne (by omega)]; exact h6
    · rw [cset_ne (by omega)]; exact h7
    · rw [cset_ne (by omega)]; exact h8
    · rw [cset_ne (by omega)]; exact h9
    · rw [cset_ne (by omega)]; exact h10 i
  · refine ⟨⟨h1, h2, h3, fun i => ?_⟩, ⟨hn, h6, h7, h8, h9⟩, fun i => by rw [cset_ne (by show 1010 + i ≠ 1000; omega)]; exact h10 i⟩
    unfold cset
    split
    · exact Nat.le_trans hn (by decide)
    · exact h4 i
  · refine ⟨⟨h1, h2, h3, fun i => ?_⟩, ⟨h5, hn, h7, h8, h9⟩, fun i => by rw [cset_ne (by show 1010 + i ≠ 1001; omega)]; exact h10 i⟩
    unfold cset
    split
    · exact hn
    · exact h4 i
  · refine ⟨⟨h1, h2, h3, fun i => ?_⟩, ⟨h5, h6, hn, h8, h9⟩, fun i => by rw [cset_ne (by show 1010 + i ≠ 1002; omega)]; exact h10 i⟩
    unfold cset
    split
    · exact Nat.le_trans hn (by decide)
    · exact h4 i
  · refine ⟨⟨h1, h2, h3, fun i => ?_⟩, ⟨h5, h6, h7, hn, h9⟩, fun i => by rw [cset_ne (by show 1010 + i ≠ 1003; omega)]; exact h10 i⟩
    unfold cset
    split
    · exact hn
    · exact h4 i
  · exact ⟨⟨h1, h2, h3, fun i => by rw [cset_ne (by show 10 + i ≠ 6; omega)]; exact h4 i⟩, ⟨h5, h6, h7, h8, hn⟩, fun i => by rw [cset_ne (by show 1010 + i ≠ 6; omega)]; exact h10 i⟩
  · rw [if_neg (by omega), if_neg (by omega)] at hn
    have e : zci r = 1010 + (r - 1120) := by have := zci_T' (i := r - 1120) (by omega); rw [show 1120 + (r - 1120) = r from by omega] at this; exact this
    rw [e]
    refine ⟨⟨?_, ?_, ?_, fun i => ?_⟩, ⟨?_, ?_, ?_, ?_, ?_⟩, fun i => ?_⟩
    · rw [cset_ne (by omega)]; exact h1
    · rw [cset_ne (by omega)]; exact h2
    · rw [cset_ne (by omega)]; exact h3
    · unfold cset
      split
      · exact hn
      · exact h4 i
    · rw [cset_ne (by omega)]; exact h5
    · rw [cset_ne (by omega)]; exact h6
    · rw [cset_ne (by omega)]; exact h7
    · rw [cset_ne (by omega)]; exact h8
    · rw [cset_ne (by omega)]; exact h9
    · unfold cset
      split
      · exact hn
      · exact h10 i
/-- a plain thing: no list, no length, no lasting pointer -/
theorem zOne_plain {s0 : Nat} {c' : Nat → Nat} (hΛ : Λ s0 = q) (hk : mK M q = zki s0) (hg : mG M q = s0) (hle : zle s0 = 0) (hpt : ¬ (s0 < 9 ∨ (100 ≤ s0 ∧ s0 < 110) ∨ s0 = 1001 ∨ (1100 ≤ s0 ∧ s0 < 1110))) (h14 : zki s0 ≠ 14) (h25 : s0 ≠ 1025) (hV : ∀ k, k ≠ 128 → k ≠ 130 → vI M q k = V' s0 k) (hW : ∀ j, aI M q j = W' s0 j)
    (hT : ∀ i k, i < c' 0 → k < c' (10 + i) → s0 = 160 + 8 * i + k → T' i k < c' 1 ∧ vR M q 416 = some (Λ (140 + T' i k))) (hP : ∀ j, j < c' 2 → s0 = 150 + j → P' j < c' 0 ∧ vR M q 448 = some (Λ (100 + P' j))) : zOne Z Λ (c', V', W', T', P') M s0 := by
  refine ⟨⟨by rw [hΛ]; exact hk, by rw [hΛ]; exact hg⟩, ⟨fun h => absurd hle h, fun k hk => absurd (zpt_out hpt k) hk⟩, fun h => absurd h h14, fun h => absurd h h25, ⟨fun k h1 h2 => by rw [hΛ]; exact hV k h1 h2, fun j => by rw [hΛ]; exact hW j⟩, fun i k hi hk2 h => ?_, fun j hj h => ?_⟩
  · obtain ⟨x, y⟩ := hT i k hi hk2 h
    rw [h] at hΛ
    exact ⟨x, by rw [hΛ]; exact y⟩
  · obtain ⟨x, y⟩ := hP j hj h
    rw [h] at hΛ
    exact ⟨x, by rw [hΛ]; exact y⟩
theorem zki_V (h : j < 6) : zki (150 + j) = 24 := by
  unfold zki
  rw [if_neg (by omega), if_neg (by omega), if_neg (by omega), if_neg (by omega), if_neg (by omega), if_neg (by omega), if_pos (by omega)]
theorem zki_K (h : j < 64) : zki (160 + j) = 23 := by
  unfold zki
  rw [if_neg (by omega), if_neg (by omega), if_neg (by omega), if_neg (by omega), if_neg (by omega), if_neg (by omega), if_neg (by omega), if_pos (by omega)]
theorem zki_Am (h : j < 8) : zki (1140 + j) = 27 := by
  unfold zki
  rw [if_neg (by omega), if_neg (by omega), if_neg (by omega), if_neg (by omega), if_neg (by omega), if_neg (by omega), if_neg (by omega), if_neg (by omega), if_neg (by omega), if_neg (by omega), if_neg (by omega), if_neg (by omega), if_neg (by omega), if_neg (by omega), if_pos (by omega)]
theorem zki_Vm (h : j < 6) : zki (1150 + j) = 30 := by
  unfold zki
  rw [if_neg (by omega), if_neg (by omega), if_neg (by omega), if_neg (by omega), if_neg (by omega), if_neg (by omega), if_neg (by omega), if_neg (by omega), if_neg (by omega), if_neg (by omega), if_neg (by omega), if_neg (by omega), if_neg (by omega), if_neg (by omega), if_neg (by omega), if_pos (by omega)]
theorem zki_Km (h : j < 64) : zki (1160 + j) = 29 := by
  unfold zki
  rw [if_neg (by omega), if_neg (by omega), if_neg (by omega), if_neg (by omega), if_neg (by omega), if_neg (by omega), if_neg (by omega), if_neg (by omega), if_neg (by omega), if_neg (by omega), if_neg (by omega), if_neg (by omega), if_neg (by omega), if_neg (by omega), if_neg (by omega), if_neg (by omega)]
theorem zle_hi (h : (140 ≤ s ∧ s < 1000) ∨ 1120 ≤ s) : zle s = 0 := by
  unfold zle
  rcases h with h | h
  · rw [if_neg (by omega), if_neg (by omega), if_neg (by omega), if_pos (by omega), if_neg (by omega)]
  · rw [if_neg (by omega), if_neg (by omega), if_neg (by omega), if_neg (by omega), if_neg (by omega), if_neg (by omega)]
/-- no one lives there yet -/
theorem zlv_no (hb : zBnd c) (h : (∃ j, s = 150 + j ∧ c 2 ≤ j ∧ j < 6) ∨ (∃ i k, s = 160 + 8 * i + k ∧ i < 6 ∧ k < 8 ∧ c (10 + i) ≤ k) ∨ (∃ j, s = 1140 + j ∧ c 1001 ≤ j ∧ j < 8) ∨ (∃ j, s = 1150 + j ∧ c 1002 ≤ j ∧ j < 6) ∨ ∃ i k, s = 1160 + 8 * i + k ∧ i < 6 ∧ k < 8 ∧ c (1010 + i) ≤ k) : ¬ zlv c s := by
  have b0 := hb.1.1
  have b1 := hb.1.2.1
  have b2 := hb.1.2.2.1
  have b3 := hb.2.1.1
  have b4 := hb.2.1.2.1
  have b5 := hb.2.1.2.2.1
  intro hl
  rcases hl with h9 | h9
  · rcases h9 with ⟨-, h9⟩ | ⟨i2, hi2, h9⟩ | ⟨i2, hi2, h9⟩ | ⟨i2, hi2, h9⟩ | ⟨i2, k2, hi2, hk2, h9⟩
    · rcases h with ⟨j, rfl, h1, h2⟩ | ⟨i, k, rfl, h1, h2, h3⟩ | ⟨j, rfl, h1, h2⟩ | ⟨j, rfl, h1, h2⟩ | ⟨i, k, rfl, h1, h2, h3⟩ <;> omega
    · rcases h with ⟨j, rfl, h1, h2⟩ | ⟨i, k, rfl, h1, h2, h3⟩ | ⟨j, rfl, h1, h2⟩ | ⟨j, rfl, h1, h2⟩ | ⟨i, k, rfl, h1, h2, h3⟩ <;> omega
    · rcases h with ⟨j, rfl, h1, h2⟩ | ⟨i, k, rfl, h1, h2, h3⟩ | ⟨j, rfl, h1, h2⟩ | ⟨j, rfl, h1, h2⟩ | ⟨i, k, rfl, h1, h2, h3⟩ <;> omega
    · rcases h with ⟨j, rfl, h1, h2⟩ | ⟨i, k, rfl, h1, h2, h3⟩ | ⟨j, rfl, h1, h2⟩ | ⟨j, rfl, h1, h2⟩ | ⟨i, k, rfl, h1, h2, h3⟩ <;> omega
    · have b8 := hb.1.2.2.2 i2
      rcases h with ⟨j, rfl, h1, h2⟩ | ⟨i, k, rfl, h1, h2, h3⟩ | ⟨j, rfl, h1, h2⟩ | ⟨j, rfl, h1, h2⟩ | ⟨i, k, rfl, h1, h2, h3⟩
      · omega
      · have e : i2 = i := by omega
        subst e
        omega
      · omega
      · omega
      · omega
  · rcases h9 with ⟨-, h9⟩ | ⟨i2, hi2, h9⟩ | ⟨i2, hi2, h9⟩ | ⟨i2, hi2, h9⟩ | ⟨i2, k2, hi2, hk2, h9⟩
    · rcases h with ⟨j, rfl, h1, h2⟩ | ⟨i, k, rfl, h1, h2, h3⟩ | ⟨j, rfl, h1, h2⟩ | ⟨j, rfl, h1, h2⟩ | ⟨i, k, rfl, h1, h2, h3⟩ <;> omega
    · rcases h with ⟨j, rfl, h1, h2⟩ | ⟨i, k, rfl, h1, h2, h3⟩ | ⟨j, rfl, h1, h2⟩ | ⟨j, rfl, h1, h2⟩ | ⟨i, k, rfl, h1, h2, h3⟩ <;> omega
    · rcases h with ⟨j, rfl, h1, h2⟩ | ⟨i, k, rfl, h1, h2, h3⟩ | ⟨j, rfl, h1, h2⟩ | ⟨j, rfl, h1, h2⟩ | ⟨i, k, rfl, h1, h2, h3⟩ <;> omega
    · rcases h with ⟨j, rfl, h1, h2⟩ | ⟨i, k, rfl, h1, h2, h3⟩ | ⟨j, rfl, h1, h2⟩ | ⟨j, rfl, h1, h2⟩ | ⟨i, k, rfl, h1, h2, h3⟩ <;> omega
    · have b8 := hb.2.2 i2
      rcases h with ⟨j, rfl, h1, h2⟩ | ⟨i, k, rfl, h1, h2, h3⟩ | ⟨j, rfl, h1, h2⟩ | ⟨j, rfl, h1, h2⟩ | ⟨i, k, rfl, h1, h2, h3⟩
      · omega
      · omega
      · omega
      · omega
      · have e : i2 = i := by omega
        subst e
        omega
theorem zlvK_new (hb : zBnd c) (hl : zlv (cset c (10 + i) (c (10 + i) + 1)) s) (hi : i < 10) (hn : ¬ zlv c s) : s = 160 + 8 * i + c (10 + i) := by
  have b0 := hb.1.1
  have b1 := hb.2.1.1
  rcases hl with h | h
  · rcases h with h | ⟨i2, hi2, h⟩ | ⟨i2, hi2, h⟩ | ⟨i2, hi2, h⟩ | ⟨i2, k2, hi2, hk2, h⟩
    · rw [show cset c (10 + i) (c (10 + i) + 1) 3 = c 3 from cset_ne (by omega)] at h
      exact absurd (Or.inl (Or.inl h)) hn
    · rw [show cset c (10 + i) (c (10 + i) + 1) 0 = c 0 from cset_ne (by omega)] at hi2
      exact absurd (Or.inl (Or.inr (Or.inl ⟨i2, hi2, h⟩))) hn
    · rw [show cset c (10 + i) (c (10 + i) + 1) 1 = c 1 from cset_ne (by omega)] at hi2
      exact absurd (Or.inl (Or.inr (Or.inr (Or.inl ⟨i2, hi2, h⟩)))) hn
    · rw [show cset c (10 + i) (c (10 + i) + 1) 2 = c 2 from cset_ne (by omega)] at hi2
      exact absurd (Or.inl (Or.inr (Or.inr (Or.inr (Or.inl ⟨i2, hi2, h⟩))))) hn
    · rw [show cset c (10 + i) (c (10 + i) + 1) 0 = c 0 from cset_ne (by omega)] at hi2
      by_cases e2 : i2 = i
      · subst e2
        rw [show cset c (10 + i2) (c (10 + i2) + 1) (10 + i2) = c (10 + i2) + 1 from cset_at] at hk2
        by_cases e : k2 < c (10 + i2)
        · exact absurd (Or.inl (Or.inr (Or.inr (Or.inr (Or.inr ⟨i2, k2, hi2, e, h⟩))))) hn
        · omega
      · rw [show cset c (10 + i) (c (10 + i) + 1) (10 + i2) = c (10 + i2) from cset_ne (by omega)] at hk2
        exact absurd (Or.inl (Or.inr (Or.inr (Or.inr (Or.inr ⟨i2, k2, hi2, hk2, h⟩))))) hn
  · rcases h with h | ⟨i2, hi2, h⟩ | ⟨i2, hi2, h⟩ | ⟨i2, hi2, h⟩ | ⟨i2, k2, hi2, hk2, h⟩
    · rw [show cset c (10 + i) (c (10 + i) + 1) 4 = c 4 from cset_ne (by omega)] at h
      exact absurd (Or.inr (Or.inl h)) hn
    · rw [show cset c (10 + i) (c (10 + i) + 1) 1000 = c 1000 from cset_ne (by omega)] at hi2
      exact absurd (Or.inr (Or.inr (Or.inl ⟨i2, hi2, h⟩))) hn
    · rw [show cset c (10 + i) (c (10 + i) + 1) 1001 = c 1001 from cset_ne (by omega)] at hi2
      exact absurd (Or.inr (Or.inr (Or.inr (Or.inl ⟨i2, hi2, h⟩)))) hn
    · rw [show cset c (10 + i) (c (10 + i) + 1) 1002 = c 1002 from cset_ne (by omega)] at hi2
      exact absurd (Or.inr (Or.inr (Or.inr (Or.inr (Or.inl ⟨i2, hi2, h⟩))))) hn
    · rw [show cset c (10 + i) (c (10 + i) + 1) 1000 = c 1000 from cset_ne (by omega)] at hi2
      rw [show cset c (10 + i) (c (10 + i) + 1) (1010 + i2) = c (1010 + i2) from cset_ne (by omega)] at hk2
      exact absurd (Or.inr (Or.inr (Or.inr (Or.inr (Or.inr ⟨i2, k2, hi2, hk2, h⟩))))) hn
theorem zlvKm_new (hb : zBnd c) (hl : zlv (cset c (1010 + i) (c (1010 + i) + 1)) s) (hi : i < 10) (hn : ¬ zlv c s) : s = 1160 + 8 * i + c (1010 + i) := by
  have b0 := hb.1.1
  have b1 := hb.2.1.1
  rcases hl with h | h
  · rcases h with h | ⟨i2, hi2, h⟩ | ⟨i2, hi2, h⟩ | ⟨i2, hi2, h⟩ | ⟨i2, k2, hi2, hk2, h⟩
    · rw [show cset c (1010 + i) (c (1010 + i) + 1) 3 = c 3 from cset_ne (by omega)] at h
      exact absurd (Or.inl (Or.inl h)) hn
    · rw [show cset c (1010 + i) (c (1010 + i) + 1) 0 = c 0 from cset_ne (by omega)] at hi2
      exact absurd (Or.inl (Or.inr (Or.inl ⟨i2, hi2, h⟩))) hn
    · rw [show cset c (1010 + i) (c (1010 + i) + 1) 1 = c 1 from cset_ne (by omega)] at hi2
      exact absurd (Or.inl (Or.inr (Or.inr (Or.inl ⟨i2, hi2, h⟩)))) hn
    · rw [show cset c (1010 + i) (c (1010 + i) + 1) 2 = c 2 from cset_ne (by omega)] at hi2
      exact absurd (Or.inl (Or.inr (Or.inr (Or.inr (Or.inl ⟨i2, hi2, h⟩))))) hn
    · rw [show cset c (1010 + i) (c (1010 + i) + 1) 0 = c 0 from cset_ne (by omega)] at hi2
      rw [show cset c (1010 + i) (c (1010 + i) + 1) (10 + i2) = c (10 + i2) from cset_ne (by omega)] at hk2
      exact absurd (Or.inl (Or.inr (Or.inr (Or.inr (Or.inr ⟨i2, k2, hi2, hk2, h⟩))))) hn
  · rcases h with h | ⟨i2, hi2, h⟩ | ⟨i2, hi2, h⟩ | ⟨i2, hi2, h⟩ | ⟨i2, k2, hi2, hk2, h⟩
    · rw [show cset c (1010 + i) (c (1010 + i) + 1) 4 = c 4 from cset_ne (by omega)] at h
      exact absurd (Or.inr (Or.inl h)) hn
    · rw [show cset c (1010 + i) (c (1010 + i) + 1) 1000 = c 1000 from cset_ne (by omega)] at hi2
      exact absurd (Or.inr (Or.inr (Or.inl ⟨i2, hi2, h⟩))) hn
    · rw [show cset c (1010 + i) (c (1010 + i) + 1) 1001 = c 1001 from cset_ne (by omega)] at hi2
      exact absurd (Or.inr (Or.inr (Or.inr (Or.inl ⟨i2, hi2, h⟩)))) hn
    · rw [show cset c (1010 + i) (c (1010 + i) + 1) 1002 = c 1002 from cset_ne (by omega)] at hi2
      exact absurd (Or.inr (Or.inr (Or.inr (Or.inr (Or.inl ⟨i2, hi2, h⟩))))) hn
    · rw [show cset c (1010 + i) (c (1010 + i) + 1) 1000 = c 1000 from cset_ne (by omega)] at hi2
      by_cases e2 : i2 = i
      · subst e2
        rw [show cset c (1010 + i2) (c (1010 + i2) + 1) (1010 + i2) = c (1010 + i2) + 1 from cset_at] at hk2
        by_cases e : k2 < c (1010 + i2)
        · exact absurd (Or.inr (Or.inr (Or.inr (Or.inr (Or.inr ⟨i2, k2, hi2, e, h⟩))))) hn
        · omega
      · rw [show cset c (1010 + i) (c (1010 + i) + 1) (1010 + i2) = c (1010 + i2) from cset_ne (by omega)] at hk2
        exact absurd (Or.inr (Or.inr (Or.inr (Or.inr (Or.inr ⟨i2, k2, hi2, hk2, h⟩))))) hn
theorem zlvAm_new (hb : zBnd c) (hl : zlv (cset c 1001 (c 1001 + 1)) s) (hn : ¬ zlv c s) : s = 1140 + c 1001 := by
  have b0 := hb.1.1
  have b1 := hb.2.1.1
  rcases hl with h | h
  · rcases h with h | ⟨i2, hi2, h⟩ | ⟨i2, hi2, h⟩ | ⟨i2, hi2, h⟩ | ⟨i2, k2, hi2, hk2, h⟩
    · rw [show cset c 1001 (c 1001 + 1) 3 = c 3 from cset_ne (by omega)] at h
      exact absurd (Or.inl (Or.inl h)) hn
    · rw [show cset c 1001 (c 1001 + 1) 0 = c 0 from cset_ne (by omega)] at hi2
      exact absurd (Or.inl (Or.inr (Or.inl ⟨i2, hi2, h⟩))) hn
    · rw [show cset c 1001 (c 1001 + 1) 1 = c 1 from cset_ne (by omega)] at hi2
      exact absurd (Or.inl (Or.inr (Or.inr (Or.inl ⟨i2, hi2, h⟩)))) hn
    · rw [show cset c 1001 (c 1001 + 1) 2 = c 2 from cset_ne (by omega)] at hi2
      exact absurd (Or.inl (Or.inr (Or.inr (Or.inr (Or.inl ⟨i2, hi2, h⟩))))) hn
    · rw [show cset c 1001 (c 1001 + 1) 0 = c 0 from cset_ne (by omega)] at hi2
      rw [show cset c 1001 (c 1001 + 1) (10 + i2) = c (10 + i2) from cset_ne (by omega)] at hk2
      exact absurd (Or.inl (Or.inr (Or.inr (Or.inr (Or.inr ⟨i2, k2, hi2, hk2, h⟩))))) hn
  · rcases h with h | ⟨i2, hi2, h⟩ | ⟨i2, hi2, h⟩ | ⟨i2, hi2, h⟩ | ⟨i2, k2, hi2, hk2, h⟩
    · rw [show cset c 1001 (c 1001 + 1) 4 = c 4 from cset_ne (by omega)] at h
      exact absurd (Or.inr (Or.inl h)) hn
    · rw [show cset c 1001 (c 1001 + 1) 1000 = c 1000 from cset_ne (by omega)] at hi2
      exact absurd (Or.inr (Or.inr (Or.inl ⟨i2, hi2, h⟩))) hn
    · rw [show cset c 1001 (c 1001 + 1) 1001 = c 1001 + 1 from cset_at] at hi2
      by_cases e : i2 < c 1001
      · exact absurd (Or.inr (Or.inr (Or.inr (Or.inl ⟨i2, e, h⟩)))) hn
      · omega
    · rw [show cset c 1001 (c 1001 + 1) 1002 = c 1002 from cset_ne (by omega)] at hi2
      exact absurd (Or.inr (Or.inr (Or.inr (Or.inr (Or.inl ⟨i2, hi2, h⟩))))) hn
    · rw [show cset c 1001 (c 1001 + 1) 1000 = c 1000 from cset_ne (by omega)] at hi2
      rw [show cset c 1001 (c 1001 + 1) (1010 + i2) = c (1010 + i2) from cset_ne (by omega)] at hk2
      exact absurd (Or.inr (Or.inr (Or.inr (Or.inr (Or.inr ⟨i2, k2, hi2, hk2, h⟩))))) hn
theorem zlvVm_new (hb : zBnd c) (hl : zlv (cset c 1002 (c 1002 + 1)) s) (hn : ¬ zlv c s) : s = 1150 + c 1002 := by
  have b0 := hb.1.1
  have b1 := hb.2.1.1
  rcases hl with h | h
  · rcases h with h | ⟨i2, hi2, h⟩ | ⟨i2, hi2, h⟩ | ⟨i2, hi2, h⟩ | ⟨i2, k2, hi2, hk2, h⟩
    · rw [show cset c 1002 (c 1002 + 1) 3 = c 3 from cset_ne (by omega)] at h
      exact absurd (Or.inl (Or.inl h)) hn
    · rw [show cset c 1002 (c 1002 + 1) 0 = c 0 from cset_ne (by omega)] at hi2
      exact absurd (Or.inl (Or.inr (Or.inl ⟨i2, hi2, h⟩))) hn
    · rw [show cset c 1002 (c 1002 + 1) 1 = c 1 from cset_ne (by omega)] at hi2
      exact absurd (Or.inl (Or.inr (Or.inr (Or.inl ⟨i2, hi2, h⟩)))) hn
    · rw [show cset c 1002 (c 1002 + 1) 2 = c 2 from cset_ne (by omega)] at hi2
      exact absurd (Or.inl (Or.inr (Or.inr (Or.inr (Or.inl ⟨i2, hi2, h⟩))))) hn
    · rw [show cset c 1002 (c 1002 + 1) 0 = c 0 from cset_ne (by omega)] at hi2
      rw [show cset c 1002 (c 1002 + 1) (10 + i2) = c (10 + i2) from cset_ne (by omega)] at hk2
      exact absurd (Or.inl (Or.inr (Or.inr (Or.inr (Or.inr ⟨i2, k2, hi2, hk2, h⟩))))) hn
  · rcases h with h | ⟨i2, hi2, h⟩ | ⟨i2, hi2, h⟩ | ⟨i2, hi2, h⟩ | ⟨i2, k2, hi2, hk2, h⟩
    · rw [show cset c 1002 (c 1002 + 1) 4 = c 4 from cset_ne (by omega)] at h
      exact absurd (Or.inr (Or.inl h)) hn
    · rw [show cset c 1002 (c 1002 + 1) 1000 = c 1000 from cset_ne (by omega)] at hi2
      exact absurd (Or.inr (Or.inr (Or.inl ⟨i2, hi2, h⟩))) hn
    · rw [show cset c 1002 (c 1002 + 1) 1001 = c 1001 from cset_ne (by omega)] at hi2
      exact absurd (Or.inr (Or.inr (Or.inr (Or.inl ⟨i2, hi2, h⟩)))) hn
    · rw [show cset c 1002 (c 1002 + 1) 1002 = c 1002 + 1 from cset_at] at hi2
      by_cases e : i2 < c 1002
      · exact absurd (Or.inr (Or.inr (Or.inr (Or.inr (Or.inl ⟨i2, e, h⟩))))) hn
      · omega
    · rw [show cset c 1002 (c 1002 + 1) 1000 = c 1000 from cset_ne (by omega)] at hi2
      rw [show cset c 1002 (c 1002 + 1) (1010 + i2) = c (1010 + i2) from cset_ne (by omega)] at hk2
      exact absurd (Or.inr (Or.inr (Or.inr (Or.inr (Or.inr ⟨i2, k2, hi2, hk2, h⟩))))) hn
theorem zlvL_new (hb : zBnd c) (hl : zlv (cset c 1003 (c 1003 + 1)) s) (hn : ¬ zlv c s) : False := by
  have b0 := hb.1.1
  have b1 := hb.2.1.1
  rcases hl with h | h
  · rcases h with h | ⟨i2, hi2, h⟩ | ⟨i2, hi2, h⟩ | ⟨i2, hi2, h⟩ | ⟨i2, k2, hi2, hk2, h⟩
    · rw [show cset c 1003 (c 1003 + 1) 3 = c 3 from cset_ne (by omega)] at h
      exact absurd (Or.inl (Or.inl h)) hn
    · rw [show cset c 1003 (c 1003 + 1) 0 = c 0 from cset_ne (by omega)] at hi2
      exact absurd (Or.inl (Or.inr (Or.inl ⟨i2, hi2, h⟩))) hn
    · rw [show cset c 1003 (c 1003 + 1) 1 = c 1 from cset_ne (by omega)] at hi2
      exact absurd (Or.inl (Or.inr (Or.inr (Or.inl ⟨i2, hi2, h⟩)))) hn
    · rw [show cset c 1003 (c 1003 + 1) 2 = c 2 from cset_ne (by omega)] at hi2
      exact absurd (Or.inl (Or.inr (Or.inr (Or.inr (Or.inl ⟨i2, hi2, h⟩))))) hn
    · rw [show cset c 1003 (c 1003 + 1) 0 = c 0 from cset_ne (by omega)] at hi2
      rw [show cset c 1003 (c 1003 + 1) (10 + i2) = c (10 + i2) from cset_ne (by omega)] at hk2
      exact absurd (Or.inl (Or.inr (Or.inr (Or.inr (Or.inr ⟨i2, k2, hi2, hk2, h⟩))))) hn
  · rcases h with h | ⟨i2, hi2, h⟩ | ⟨i2, hi2, h⟩ | ⟨i2, hi2, h⟩ | ⟨i2, k2, hi2, hk2, h⟩
    · rw [show cset c 1003 (c 1003 + 1) 4 = c 4 from cset_ne (by omega)] at h
      exact absurd (Or.inr (Or.inl h)) hn
    · rw [show cset c 1003 (c 1003 + 1) 1000 = c 1000 from cset_ne (by omega)] at hi2
      exact absurd (Or.inr (Or.inr (Or.inl ⟨i2, hi2, h⟩))) hn
    · rw [show cset c 1003 (c 1003 + 1) 1001 = c 1001 from cset_ne (by omega)] at hi2
      exact absurd (Or.inr (Or.inr (Or.inr (Or.inl ⟨i2, hi2, h⟩)))) hn
    · rw [show cset c 1003 (c 1003 + 1) 1002 = c 1002 from cset_ne (by omega)] at hi2
      exact absurd (Or.inr (Or.inr (Or.inr (Or.inr (Or.inl ⟨i2, hi2, h⟩))))) hn
    · rw [show cset c 1003 (c 1003 + 1) 1000 = c 1000 from cset_ne (by omega)] at hi2
      rw [show cset c 1003 (c 1003 + 1) (1010 + i2) = c (1010 + i2) from cset_ne (by omega)] at hk2
      exact absurd (Or.inr (Or.inr (Or.inr (Or.inr (Or.inr ⟨i2, k2, hi2, hk2, h⟩))))) hn
theorem zlvD_new (hb : zBnd c) (hl : zlv (cset c 6 (c 6 + 1)) s) (hn : ¬ zlv c s) : False := by
  have b0 := hb.1.1
  have b1 := hb.2.1.1
  rcases hl with h | h
  · rcases h with h | ⟨i2, hi2, h⟩ | ⟨i2, hi2, h⟩ | ⟨i2, hi2, h⟩ | ⟨i2, k2, hi2, hk2, h⟩
    · rw [show cset c 6 (c 6 + 1) 3 = c 3 from cset_ne (by omega)] at h
      exact absurd (Or.inl (Or.inl h)) hn
    · rw [show cset c 6 (c 6 + 1) 0 = c 0 from cset_ne (by omega)] at hi2
      exact absurd (Or.inl (Or.inr (Or.inl ⟨i2, hi2, h⟩))) hn
    · rw [show cset c 6 (c 6 + 1) 1 = c 1 from cset_ne (by omega)] at hi2
      exact absurd (Or.inl (Or.inr (Or.inr (Or.inl ⟨i2, hi2, h⟩)))) hn
    · rw [show cset c 6 (c 6 + 1) 2 = c 2 from cset_ne (by omega)] at hi2
      exact absurd (Or.inl (Or.inr (Or.inr (Or.inr (Or.inl ⟨i2, hi2, h⟩))))) hn
    · rw [show cset c 6 (c 6 + 1) 0 = c 0 from cset_ne (by omega)] at hi2
      rw [show cset c 6 (c 6 + 1) (10 + i2) = c (10 + i2) from cset_ne (by omega)] at hk2
      exact absurd (Or.inl (Or.inr (Or.inr (Or.inr (Or.inr ⟨i2, k2, hi2, hk2, h⟩))))) hn
  · rcases h with h | ⟨i2, hi2, h⟩ | ⟨i2, hi2, h⟩ | ⟨i2, hi2, h⟩ | ⟨i2, k2, hi2, hk2, h⟩
    · rw [show cset c 6 (c 6 + 1) 4 = c 4 from cset_ne (by omega)] at h
      exact absurd (Or.inr (Or.inl h)) hn
    · rw [show cset c 6 (c 6 + 1) 1000 = c 1000 from cset_ne (by omega)] at hi2
      exact absurd (Or.inr (Or.inr (Or.inl ⟨i2, hi2, h⟩))) hn
    · rw [show cset c 6 (c 6 + 1) 1001 = c 1001 from cset_ne (by omega)] at hi2
      exact absurd (Or.inr (Or.inr (Or.inr (Or.inl ⟨i2, hi2, h⟩)))) hn
    · rw [show cset c 6 (c 6 + 1) 1002 = c 1002 from cset_ne (by omega)] at hi2
      exact absurd (Or.inr (Or.inr (Or.inr (Or.inr (Or.inl ⟨i2, hi2, h⟩))))) hn
    · rw [show cset c 6 (c 6 + 1) 1000 = c 1000 from cset_ne (by omega)] at hi2
      rw [show cset c 6 (c 6 + 1) (1010 + i2) = c (1010 + i2) from cset_ne (by omega)] at hk2
      exact absurd (Or.inr (Or.inr (Or.inr (Or.inr (Or.inr ⟨i2, k2, hi2, hk2, h⟩))))) hn
theorem zlvP_new (hb : zBnd c) (hl : zlv (cset c 0 (c 0 + 1)) s) (h0 : c (10 + c 0) = 0) (hn : ¬ zlv c s) : s = 100 + c 0 ∨ s = 110 + c 0 ∨ s = 120 + c 0 := by
  have b0 := hb.1.1
  have b1 := hb.2.1.1
  rcases hl with h | h
  · rcases h with h | ⟨i2, hi2, h⟩ | ⟨i2, hi2, h⟩ | ⟨i2, hi2, h⟩ | ⟨i2, k2, hi2, hk2, h⟩
    · rw [show cset c 0 (c 0 + 1) 3 = c 3 from cset_ne (by omega)] at h
      exact absurd (Or.inl (Or.inl h)) hn
    · rw [show cset c 0 (c 0 + 1) 0 = c 0 + 1 from cset_at] at hi2
      by_cases e : i2 < c 0
      · exact absurd (Or.inl (Or.inr (Or.inl ⟨i2, e, h⟩))) hn
      · omega
    · rw [show cset c 0 (c 0 + 1) 1 = c 1 from cset_ne (by omega)] at hi2
      exact absurd (Or.inl (Or.inr (Or.inr (Or.inl ⟨i2, hi2, h⟩)))) hn
    · rw [show cset c 0 (c 0 + 1) 2 = c 2 from cset_ne (by omega)] at hi2
      exact absurd (Or.inl (Or.inr (Or.inr (Or.inr (Or.inl ⟨i2, hi2, h⟩))))) hn
    · rw [show cset c 0 (c 0 + 1) 0 = c 0 + 1 from cset_at] at hi2
      rw [show cset c 0 (c 0 + 1) (10 + i2) = c (10 + i2) from cset_ne (by omega)] at hk2
      by_cases e : i2 < c 0
      · exact absurd (Or.inl (Or.inr (Or.inr (Or.inr (Or.inr ⟨i2, k2, e, hk2, h⟩))))) hn
      · have e2 : i2 = c 0 := by omega
        subst e2
        omega
  · rcases h with h | ⟨i2, hi2, h⟩ | ⟨i2, hi2, h⟩ | ⟨i2, hi2, h⟩ | ⟨i2, k2, hi2, hk2, h⟩
    · rw [show cset c 0 (c 0 + 1) 4 = c 4 from cset_ne (by omega)] at h
      exact absurd (Or.inr (Or.inl h)) hn
    · rw [show cset c 0 (c 0 + 1) 1000 = c 1000 from cset_ne (by omega)] at hi2
      exact absurd (Or.inr (Or.inr (Or.inl ⟨i2, hi2, h⟩))) hn
    · rw [show cset c 0 (c 0 + 1) 1001 = c 1001 from cset_ne (by omega)] at hi2
      exact absurd (Or.inr (Or.inr (Or.inr (Or.inl ⟨i2, hi2, h⟩)))) hn
    · rw [show cset c 0 (c 0 + 1) 1002 = c 1002 from cset_ne (by omega)] at hi2
      exact absurd (Or.inr (Or.inr (Or.inr (Or.inr (Or.inl ⟨i2, hi2, h⟩))))) hn
    · rw [show cset c 0 (c 0 + 1) 1000 = c 1000 from cset_ne (by omega)] at hi2
      rw [show cset c 0 (c 0 + 1) (1010 + i2) = c (1010 + i2) from cset_ne (by omega)] at hk2
      exact absurd (Or.inr (Or.inr (Or.inr (Or.inr (Or.inr ⟨i2, k2, hi2, hk2, h⟩))))) hn
theorem zlvPm_new (hb : zBnd c) (hl : zlv (cset c 1000 (c 1000 + 1)) s) (h0 : c (1010 + c 1000) = 0) (hn : ¬ zlv c s) : s = 1100 + c 1000 ∨ s = 1110 + c 1000 ∨ s = 1120 + c 1000 := by
  have b0 := hb.1.1
  have b1 := hb.2.1.1
  rcases hl with h | h
  · rcases h with h | ⟨i2, hi2, h⟩ | ⟨i2, hi2, h⟩ | ⟨i2, hi2, h⟩ | ⟨i2, k2, hi2, hk2, h⟩
    · rw [show cset c 1000 (c 1000 + 1) 3 = c 3 from cset_ne (by omega)] at h
      exact absurd (Or.inl (Or.inl h)) hn
    · rw [show cset c 1000 (c 1000 + 1) 0 = c 0 from cset_ne (by omega)] at hi2
      exact absurd (Or.inl (Or.inr (Or.inl ⟨i2, hi2, h⟩))) hn
    · rw [show cset c 1000 (c 1000 + 1) 1 = c 1 from cset_ne (by omega)] at hi2
      exact absurd (Or.inl (Or.inr (Or.inr (Or.inl ⟨i2, hi2, h⟩)))) hn
    · rw [show cset c 1000 (c 1000 + 1) 2 = c 2 from cset_ne (by omega)] at hi2
      exact absurd (Or.inl (Or.inr (Or.inr (Or.inr (Or.inl ⟨i2, hi2, h⟩))))) hn
    · rw [show cset c 1000 (c 1000 + 1) 0 = c 0 from cset_ne (by omega)] at hi2
      rw [show cset c 1000 (c 1000 + 1) (10 + i2) = c (10 + i2) from cset_ne (by omega)] at hk2
      exact absurd (Or.inl (Or.inr (Or.inr (Or.inr (Or.inr ⟨i2, k2, hi2, hk2, h⟩))))) hn
  · rcases h with h | ⟨i2, hi2, h⟩ | ⟨i2, hi2, h⟩ | ⟨i2, hi2, h⟩ | ⟨i2, k2, hi2, hk2, h⟩
    · rw [show cset c 1000 (c 1000 + 1) 4 = c 4 from cset_ne (by omega)] at h
      exact absurd (Or.inr (Or.inl h)) hn
    · rw [show cset c 1000 (c 1000 + 1) 1000 = c 1000 + 1 from cset_at] at hi2
      by_cases e : i2 < c 1000
      · exact absurd (Or.inr (Or.inr (Or.inl ⟨i2, e, h⟩))) hn
      · omega
    · rw [show cset c 1000 (c 1000 + 1) 1001 = c 1001 from cset_ne (by omega)] at hi2
      exact absurd (Or.inr (Or.inr (Or.inr (Or.inl ⟨i2, hi2, h⟩)))) hn
    · rw [show cset c 1000 (c 1000 + 1) 1002 = c 1002 from cset_ne (by omega)] at hi2
      exact absurd (Or.inr (Or.inr (Or.inr (Or.inr (Or.inl ⟨i2, hi2, h⟩))))) hn
    · rw [show cset c 1000 (c 1000 + 1) 1000 = c 1000 + 1 from cset_at] at hi2
      rw [show cset c 1000 (c 1000 + 1) (1010 + i2) = c (1010 + i2) from cset_ne (by omega)] at hk2
      by_cases e : i2 < c 1000
      · exact absurd (Or.inr (Or.inr (Or.inr (Or.inr (Or.inr ⟨i2, k2, e, hk2, h⟩))))) hn
      · have e2 : i2 = c 1000 := by omega
        subst e2
        omega
end ZPUT
