/-! STRUCTURE: zRp role by role; things added, lists cleared -/
section ZSTRUCT
variable {Z : zPar} {Λ Λ' : Nat → Nat} {S S' : zSt} {M M' : zMem} {r s k i j a : Nat} {c c' : Nat → Nat}
def cset (c : Nat → Nat) (i v : Nat) : Nat → Nat := fun k => if k = i then v else c k
theorem cset_at {v : Nat} : cset c i v i = v := if_pos rfl
theorem cset_ne {v : Nat} (h : k ≠ i) : cset c i v k = c k := if_neg h
def zOne (Z : zPar) (Λ : Nat → Nat) (S : zSt) (M : zMem) (r : Nat) : Prop :=
  (mK M (Λ r) = zki r ∧ mG M (Λ r) = r) ∧ ((zle r ≠ 0 → mN M (Λ r) = zle r) ∧ ∀ k, zpt r k ≠ 0 → vR M (Λ r) k = some (Λ (zpt r k))) ∧
  (zki r = 14 → zL Z M (Λ r) (Λ (zrw r)) (zct (sc S) r) (fun i => Λ (zbs r + i)) ∧ zRwOk M (Λ (zrw r)) (zrw r)) ∧ (r = 1025 → ∀ i, i < 8 → aR M (Λ 1025) i = some (Λ (1030 + i))) ∧
  ((∀ k, k ≠ 128 → k ≠ 130 → vI M (Λ r) k = sV S r k) ∧ ∀ j, aI M (Λ r) j = sW S r j) ∧
  (∀ i k, i < sc S 0 → k < sc S (10 + i) → r = 160 + 8 * i + k → sT S i k < sc S 1 ∧ vR M (Λ (160 + 8 * i + k)) 416 = some (Λ (140 + sT S i k))) ∧ ∀ j, j < sc S 2 → r = 150 + j → sP S j < sc S 0 ∧ vR M (Λ (150 + j)) 448 = some (Λ (100 + sP S j))
def zInts (Λ : Nat → Nat) (S : zSt) (M : zMem) : Prop := (∀ i, i < sc S 1003 → zIok Λ (sV S) M (1300 + i)) ∧ ∀ i, i < sc S 6 → zIok Λ (sV S) M (1320 + i)
theorem zRp.one (h : zRp Z Λ S M) (hl : zlv (sc S) r) : zOne Z Λ S M r := by
  obtain ⟨⟨b1, b2⟩, ⟨b3, b4⟩, b5, b6, ⟨b7, b8⟩, ⟨b9, b10⟩, b11, b12⟩ := h
  refine ⟨b2 r hl, ⟨b3 r hl, fun k hk => b4 r k hl hk⟩, b5 r hl, fun e i hi => b6 i hi ?_, ⟨fun k => b7 r k hl, fun j => b8 r j hl⟩, fun i k hi hk _ => b9 i k hi hk, fun j hj _ => b10 j hj⟩
  subst e
  rcases hl with h | h
  · rcases h with ⟨-, h⟩ | ⟨i, hi, h⟩ | ⟨i, hi, h⟩ | ⟨i, hi, h⟩ | ⟨i, k, hi, hk, h⟩
    · omega
    · have := b1.1.1; omega
    · have := b1.1.2.1; omega
    · have := b1.1.2.2.1; omega
    · have := b1.1.1; have := b1.1.2.2.2 i; omega
  · rcases h with ⟨h, -⟩ | ⟨i, hi, h⟩ | ⟨i, hi, h⟩ | ⟨i, hi, h⟩ | ⟨i, k, hi, hk, h⟩
    · exact h
    · omega
    · omega
    · omega
    · omega
theorem zRp.ints (h : zRp Z Λ S M) : zInts Λ S M := h.2.2.2.2.2.2.1
theorem zRp.outs (h : zRp Z Λ S M) : zOut Λ S M := h.2.2.2.2.2.2.2.1
theorem zRp.emp (h : zRp Z Λ S M) : zEmp Z M := h.2.2.2.2.2.2.2.2
theorem zRp.of (h1 : zBnd (sc S)) (h2 : ∀ r, zlv (sc S) r → zOne Z Λ S M r) (h3 : zInts Λ S M) (h4 : zOut Λ S M ∧ zEmp Z M) : zRp Z Λ S M := by
  refine ⟨⟨h1, fun r hr => (h2 r hr).1⟩, ⟨fun r hr => (h2 r hr).2.1.1, fun r k hr => (h2 r hr).2.1.2 k⟩, fun r hr => (h2 r hr).2.2.1, fun i hi h4 => (h2 1025 (lvM h4 (by omega))).2.2.2.1 rfl i hi, ⟨fun r k hr => (h2 r hr).2.2.2.2.1.1 k, fun r j hr => (h2 r hr).2.2.2.2.1.2 j⟩, ⟨fun i k hi hk => ?_, fun j hj => ?_⟩, h3, h4⟩
  · exact (h2 _ (lvK hi hk)).2.2.2.2.2.1 i k hi hk rfl
  · exact (h2 _ (lvV hj)).2.2.2.2.2.2 j hj rfl
def zlr (r : Nat) : Prop := r = 15 ∨ r = 17 ∨ r = 19 ∨ (120 ≤ r ∧ r < 130) ∨ r = 1015 ∨ r = 1017 ∨ r = 1019 ∨ r = 1021 ∨ r = 1023 ∨ (1120 ≤ r ∧ r < 1130)
theorem zlr_of (h : zki r = 14) : zlr r := by
  unfold zlr
  unfold zki at h
  rcases Nat.lt_or_ge r 100 with g | g
  · rw [if_pos g] at h
    have : ∀ r, r < 100 → ([0, 26, 22, 16, 20, 25, 19, 17, 18, 1, 1, 1, 1, 1, 1, 14, 3, 14, 3, 14, 3] : List Nat).getD r 0 = 14 → r = 15 ∨ r = 17 ∨ r = 19 := by decide
    have := this r g h
    omega
  rw [if_neg (by omega)] at h
  rcases Nat.lt_or_ge r 110 with g | g
  · rw [if_pos g] at h
    omega
  rw [if_neg (by omega)] at h
  rcases Nat.lt_or_ge r 120 with g | g
  · rw [if_pos g] at h
    omega
  rw [if_neg (by omega)] at h
  rcases Nat.lt_or_ge r 130 with g | g
  · rw [if_pos g] at h
    omega
  rw [if_neg (by omega)] at h
  rcases Nat.lt_or_ge r 140 with g | g
  · rw [if_pos g] at h
    omega
  rw [if_neg (by omega)] at h
  rcases Nat.lt_or_ge r 150 with g | g
  · rw [if_pos g] at h
    omega
  rw [if_neg (by omega)] at h
  rcases Nat.lt_or_ge r 160 with g | g
  · rw [if_pos g] at h
    omega
  rw [if_neg (by omega)] at h
  rcases Nat.lt_or_ge r 1000 with g | g
  · rw [if_pos g] at h
    omega
  rw [if_neg (by omega)] at h
  rcases Nat.lt_or_ge r 1030 with g | g
  · rw [if_pos g] at h
    have : ∀ r, r < 30 → ([0, 31, 0, 0, 0, 0, 0, 0, 0, 0, 0, 0, 0, 0, 0, 14, 3, 14, 3, 14, 3, 14, 3, 14, 3, 4] : List Nat).getD r 0 = 14 → r = 15 ∨ r = 17 ∨ r = 19 ∨ r = 21 ∨ r = 23 := by decide
    have := this (r - 1000) (by omega) h
    omega
  rw [if_neg (by omega)] at h
  rcases Nat.lt_or_ge r 1100 with g | g
  · rw [if_pos g] at h
    omega
  rw [if_neg (by omega)] at h
  rcases Nat.lt_or_ge r 1110 with g | g
  · rw [if_pos g] at h
    omega
  rw [if_neg (by omega)] at h
  rcases Nat.lt_or_ge r 1120 with g | g
  · rw [if_pos g] at h
    omega
  rw [if_neg (by omega)] at h
  rcases Nat.lt_or_ge r 1130 with g | g
  · rw [if_pos g] at h
    omega
  rw [if_neg (by omega)] at h
  rcases Nat.lt_or_ge r 1140 with g | g
  · rw [if_pos g] at h
    omega
  rw [if_neg (by omega)] at h
  rcases Nat.lt_or_ge r 1150 with g | g
  · rw [if_pos g] at h
    omega
  rw [if_neg (by omega)] at h
  rcases Nat.lt_or_ge r 1160 with g | g
  · rw [if_pos g] at h
    omega
  rw [if_neg (by omega)] at h
  omega
def zci (r : Nat) : Nat := if r = 15 then 0 else if r = 17 then 1 else if r = 19 then 2 else if r = 1015 then 1000 else if r = 1017 then 1001 else if r = 1019 then 1002 else if r = 1021 then 1003 else if r = 1023 then 6 else r - 110
theorem zct_ci : zct c r = c (zci r) := by
  unfold zct zci
  simp only [apply_ite c]
def zri (k : Nat) : Nat := if k < 3 then 15 + 2 * k else if k = 6 then 1023 else if k < 1000 then k + 110 else if k < 1005 then 1015 + 2 * (k - 1000) else k + 110
theorem zri_ci (hr : zlr r) : zri (zci r) = r := by
  rcases hr with rfl | rfl | rfl | h | rfl | rfl | rfl | rfl | rfl | h
  · decide
  · decide
  · decide
  · rw [show zci r = r - 110 from by unfold zci; rw [if_neg (by omega), if_neg (by omega), if_neg (by omega), if_neg (by omega), if_neg (by omega), if_neg (by omega), if_neg (by omega), if_neg (by omega)]]
    unfold zri
    rw [if_neg (by omega), if_neg (by omega), if_pos (by omega)]
    omega
  · decide
  · decide
  · decide
  · decide
  · decide
  · rw [show zci r = r - 110 from by unfold zci; rw [if_neg (by omega), if_neg (by omega), if_neg (by omega), if_neg (by omega), if_neg (by omega), if_neg (by omega), if_neg (by omega), if_neg (by omega)]]
    unfold zri
    rw [if_neg (by omega), if_neg (by omega), if_neg (by omega), if_neg (by omega)]
    omega
theorem zci_inj (hr : zlr r) (hs : zlr s) (h : zci r = zci s) : r = s := by rw [← zri_ci hr, ← zri_ci hs, h]
theorem zrw_inj (hr : zlr r) (hs : zlr s) (h : zrw r = zrw s) : r = s := by
  have e : ∀ r, zlr r → (if zrw r < 100 ∨ (1000 ≤ zrw r ∧ zrw r < 1100) then zrw r - 1 else zrw r - 10) = r := by
    intro r hr
    unfold zlr at hr
    by_cases g : r < 100 ∨ (1000 ≤ r ∧ r < 1100)
    · rw [show zrw r = r + 1 from if_pos g, if_pos (by omega)]
      omega
    · rw [show zrw r = r + 10 from if_neg g, if_neg (by omega)]
      omega
  rw [← e r hr, ← e s hs, h]
/-- roles in use -/
def zus (c : Nat → Nat) (s : Nat) : Prop := zlv c s ∨ (∃ i, i < c 1003 ∧ s = 1300 + i) ∨ ∃ i, i < c 6 ∧ s = 1320 + i
theorem zBnd.le (h : zBnd c) (hle : ∀ k, c' k ≤ c k) : zBnd c' := by
  obtain ⟨⟨h1, h2, h3, h4⟩, ⟨h5, h6, h7, h8, h9⟩, h10⟩ := h
  exact ⟨⟨Nat.le_trans (hle _) h1, Nat.le_trans (hle _) h2, Nat.le_trans (hle _) h3, fun i => Nat.le_trans (hle _) (h4 i)⟩, ⟨Nat.le_trans (hle _) h5, Nat.le_trans (hle _) h6, Nat.le_trans (hle _) h7, Nat.le_trans (hle _) h8, Nat.le_trans (hle _) h9⟩, fun i => Nat.le_trans (hle _) (h10 i)⟩
theorem zlv.mono (hle : ∀ k, c' k ≤ c k) (h3 : c' 3 = c 3) (h4 : c' 4 = c 4) (h : zlv c' r) : zlv c r := by
  rcases h with h | h
  · refine Or.inl ?_
    rcases h with h | ⟨i, hi, h⟩ | ⟨i, hi, h⟩ | ⟨i, hi, h⟩ | ⟨i, k, hi, hk, h⟩
    · exact Or.inl (h3 ▸ h)
    · exact Or.inr (Or.inl ⟨i, Nat.lt_of_lt_of_le hi (hle _), h⟩)
    · exact Or.inr (Or.inr (Or.inl ⟨i, Nat.lt_of_lt_of_le hi (hle _), h⟩))
    · exact Or.inr (Or.inr (Or.inr (Or.inl ⟨i, Nat.lt_of_lt_of_le hi (hle _), h⟩)))
    · exact Or.inr (Or.inr (Or.inr (Or.inr ⟨i, k, Nat.lt_of_lt_of_le hi (hle _), Nat.lt_of_lt_of_le hk (hle _), h⟩)))
  · refine Or.inr ?_
    rcases h with h | ⟨i, hi, h⟩ | ⟨i, hi, h⟩ | ⟨i, hi, h⟩ | ⟨i, k, hi, hk, h⟩
    · exact Or.inl (h4 ▸ h)
    · exact Or.inr (Or.inl ⟨i, Nat.lt_of_lt_of_le hi (hle _), h⟩)
    · exact Or.inr (Or.inr (Or.inl ⟨i, Nat.lt_of_lt_of_le hi (hle _), h⟩))
    · exact Or.inr (Or.inr (Or.inr (Or.inl ⟨i, Nat.lt_of_lt_of_le hi (hle _), h⟩)))
    · exact Or.inr (Or.inr (Or.inr (Or.inr ⟨i, k, Nat.lt_of_lt_of_le hi (hle _), Nat.lt_of_lt_of_le hk (hle _), h⟩)))
theorem zlv.small (hb : zBnd c) (h : zlv c r) (hr : r < 100) : c 3 = 1 := by
  rcases h with h | h
  · rcases h with ⟨h, -⟩ | ⟨i, hi, h⟩ | ⟨i, hi, h⟩ | ⟨i, hi, h⟩ | ⟨i, k, hi, hk, h⟩
    · exact h
    · omega
    · omega
    · omega
    · omega
  · rcases h with ⟨-, h⟩ | ⟨i, hi, h⟩ | ⟨i, hi, h⟩ | ⟨i, hi, h⟩ | ⟨i, k, hi, hk, h⟩ <;> omega
theorem zlv.mid (hb : zBnd c) (h : zlv c r) (hr : 1000 ≤ r ∧ r < 1100) : c 4 = 1 := by
  have b1 := hb.1.1
  have b2 := hb.1.2.1
  have b3 := hb.1.2.2.1
  rcases h with h | h
  · rcases h with ⟨-, h⟩ | ⟨i, hi, h⟩ | ⟨i, hi, h⟩ | ⟨i, hi, h⟩ | ⟨i, k, hi, hk, h⟩
    · omega
    · omega
    · omega
    · omega
    · have := hb.1.2.2.2 i; omega
  · rcases h with ⟨h, -⟩ | ⟨i, hi, h⟩ | ⟨i, hi, h⟩ | ⟨i, hi, h⟩ | ⟨i, k, hi, hk, h⟩
    · exact h
    · omega
    · omega
    · omega
    · omega
theorem zlv.pit (hb : zBnd c) (h : zlv c r) (hr : 100 ≤ r ∧ r < 130) : ∃ i, i < c 0 ∧ (r = 100 + i ∨ r = 110 + i ∨ r = 120 + i) := by
  rcases h with h | h
  · rcases h with ⟨-, h⟩ | h | ⟨i, hi, h⟩ | ⟨i, hi, h⟩ | ⟨i, k, hi, hk, h⟩
    · omega
    · exact h
    · omega
    · omega
    · omega
  · rcases h with ⟨-, h⟩ | ⟨i, hi, h⟩ | ⟨i, hi, h⟩ | ⟨i, hi, h⟩ | ⟨i, k, hi, hk, h⟩ <;> omega
theorem zlv.pit' (hb : zBnd c) (h : zlv c r) (hr : 1100 ≤ r ∧ r < 1130) : ∃ i, i < c 1000 ∧ (r = 1100 + i ∨ r = 1110 + i ∨ r = 1120 + i) := by
  have b1 := hb.1.1
  have b2 := hb.1.2.1
  have b3 := hb.1.2.2.1
  rcases h with h | h
  · rcases h with ⟨-, h⟩ | ⟨i, hi, h⟩ | ⟨i, hi, h⟩ | ⟨i, hi, h⟩ | ⟨i, k, hi, hk, h⟩
    · omega
    · omega
    · omega
    · omega
    · have := hb.1.2.2.2 i; omega
  · rcases h with ⟨-, h⟩ | h | ⟨i, hi, h⟩ | ⟨i, hi, h⟩ | ⟨i, k, hi, hk, h⟩
    · omega
    · exact h
    · omega
    · omega
    · omega
theorem zif {p : Prop} [Decidable p] {x : Nat} (h : (if p then x else 0) ≠ 0) : p := by
  by_cases g : p
  · exact g
  · rw [if_neg g] at h
    exact absurd rfl h
theorem zpt_lv (hb : zBnd c) (h : zlv c r) (hk : zpt r k ≠ 0) : zlv c (zpt r k) := by
  have hC : ∀ s, r < 100 → ((1 ≤ s ∧ s ≤ 15) ∨ s = 17 ∨ s = 19) → zlv c s := fun s hr hs => Or.inl (Or.inl ⟨h.small hb hr, hs⟩)
  have hM : ∀ s, (1000 ≤ r ∧ r < 1100) → (s = 1001 ∨ s = 1015 ∨ s = 1017 ∨ s = 1019 ∨ s = 1021 ∨ s = 1023 ∨ s = 1025 ∨ (1030 ≤ s ∧ s < 1038)) → zlv c s := fun s hr hs => Or.inr (Or.inl ⟨h.mid hb hr, hs⟩)
  unfold zpt at hk ⊢
  by_cases k5 : k < 512
  · rw [if_pos k5] at hk ⊢
    by_cases e384 : k = 384
    · rw [if_pos e384] at hk ⊢
      have e := zif hk
      rw [if_pos e]
      exact hC _ (by omega) (by omega)
    rw [if_neg e384] at hk ⊢
    by_cases e385 : k = 385
    · rw [if_pos e385] at hk ⊢
      have e := zif hk
      rw [if_pos e]
      exact hC _ (by omega) (by omega)
    rw [if_neg e385] at hk ⊢
    by_cases e192 : k = 192
    · rw [if_pos e192] at hk ⊢
      have e := zif hk
      rw [if_pos e]
      exact hC _ (by omega) (by omega)
    rw [if_neg e192] at hk ⊢
    by_cases e193 : k = 193
    · rw [if_pos e193] at hk ⊢
      have e := zif hk
      rw [if_pos e]
      exact hC _ (by omega) (by omega)
    rw [if_neg e193] at hk ⊢
    by_cases e320 : k = 320
    · rw [if_pos e320] at hk ⊢
      have e := zif hk
      rw [if_pos e]
      exact hC _ (by omega) (by omega)
    rw [if_neg e320] at hk ⊢
    by_cases e321 : k = 321
    · rw [if_pos e321] at hk ⊢
      have e := zif hk
      rw [if_pos e]
      exact hC _ (by omega) (by omega)
    rw [if_neg e321] at hk ⊢
    by_cases e322 : k = 322
    · rw [if_pos e322] at hk ⊢
      have e := zif hk
      rw [if_pos e]
      exact hC _ (by omega) (by omega)
    rw [if_neg e322] at hk ⊢
    by_cases e224 : k = 224
    · rw [if_pos e224] at hk ⊢
      have e := zif hk
      rw [if_pos e]
      exact hC _ (by omega) (by omega)
    rw [if_neg e224] at hk ⊢
    by_cases e225 : k = 225
    · rw [if_pos e225] at hk ⊢
      have e := zif hk
      rw [if_pos e]
      exact hC _ (by omega) (by omega)
    rw [if_neg e225] at hk ⊢
    by_cases e226 : k = 226
    · rw [if_pos e226] at hk ⊢
      have e := zif hk
      rw [if_pos e]
      exact hC _ (by omega) (by omega)
    rw [if_neg e226] at hk ⊢
    by_cases e227 : k = 227
    · rw [if_pos e227] at hk ⊢
      have e := zif hk
      rw [if_pos e]
      exact hC _ (by omega) (by omega)
    rw [if_neg e227] at hk ⊢
    by_cases e256 : k = 256
    · rw [if_pos e256] at hk ⊢
      have e := zif hk
      rw [if_pos e]
      exact hC _ (by omega) (by omega)
    rw [if_neg e256] at hk ⊢
    by_cases e355 : k = 355
    · rw [if_pos e355] at hk ⊢
      have e := zif hk
      rw [if_pos e]
      obtain ⟨i, hi, h9⟩ := h.pit hb (by omega)
      have b1 := hb.1.1
      exact Or.inl (Or.inr (Or.inl ⟨i, hi, by omega⟩))
    rw [if_neg e355] at hk ⊢
    by_cases e356 : k = 356
    · rw [if_pos e356] at hk ⊢
      have e := zif hk
      rw [if_pos e]
      obtain ⟨i, hi, h9⟩ := h.pit hb (by omega)
      have b1 := hb.1.1
      exact Or.inl (Or.inr (Or.inl ⟨i, hi, by omega⟩))
    rw [if_neg e356] at hk ⊢
    exact absurd rfl hk
  · rw [if_neg k5] at hk ⊢
    by_cases k6 : k < 519
    · rw [if_pos k6] at hk ⊢
      have e := zif hk
      rw [if_pos e]
      exact hC _ (by omega) (by omega)
    rw [if_neg k6] at hk ⊢
    by_cases e579 : k = 579
    · rw [if_pos e579] at hk ⊢
      have e := zif hk
      rw [if_pos e]
      obtain ⟨i, hi, h9⟩ := h.pit' hb (by omega)
      have b1 := hb.2.1.1
      exact Or.inr (Or.inr (Or.inl ⟨i, hi, by omega⟩))
    rw [if_neg e579] at hk ⊢
    by_cases e580 : k = 580
    · rw [if_pos e580] at hk ⊢
      have e := zif hk
      rw [if_pos e]
      obtain ⟨i, hi, h9⟩ := h.pit' hb (by omega)
      have b1 := hb.2.1.1
      exact Or.inr (Or.inr (Or.inl ⟨i, hi, by omega⟩))
    rw [if_neg e580] at hk ⊢
    by_cases k7 : 673 ≤ k ∧ k ≤ 678
    · rw [if_pos k7] at hk ⊢
      have e := zif hk
      rw [if_pos e]
      exact hM _ (by omega) (by omega)
    rw [if_neg k7] at hk
    exact absurd rfl hk
/-- the i-th thing of a living list is in use -/
theorem zel_us (hb : zBnd c) (h : zlv c r) (hk : zki r = 14) (hi : i < zct c r) : zus c (zbs r + i) := by
  rcases zlr_of hk with rfl | rfl | rfl | h9 | rfl | rfl | rfl | rfl | rfl | h9
  · exact Or.inl (Or.inl (Or.inr (Or.inl ⟨i, hi, Or.inl rfl⟩)))
  · exact Or.inl (Or.inl (Or.inr (Or.inr (Or.inl ⟨i, hi, rfl⟩))))
  · exact Or.inl (Or.inl (Or.inr (Or.inr (Or.inr (Or.inl ⟨i, hi, rfl⟩)))))
  · obtain ⟨q, hq, h8⟩ := h.pit hb (by omega)
    have b1 := hb.1.1
    have e : r = 120 + q := by omega
    subst e
    rw [zct_T (by omega)] at hi
    rw [zbs_T (by omega)]
    exact Or.inl (Or.inl (Or.inr (Or.inr (Or.inr (Or.inr ⟨q, i, hq, hi, rfl⟩)))))
  · exact Or.inl (Or.inr (Or.inr (Or.inl ⟨i, hi, Or.inl rfl⟩)))
  · exact Or.inl (Or.inr (Or.inr (Or.inr (Or.inl ⟨i, hi, rfl⟩))))
  · exact Or.inl (Or.inr (Or.inr (Or.inr (Or.inr (Or.inl ⟨i, hi, rfl⟩)))))
  · exact Or.inr (Or.inl ⟨i, hi, rfl⟩)
  · exact Or.inr (Or.inr ⟨i, hi, rfl⟩)
  · obtain ⟨q, hq, h8⟩ := h.pit' hb (by omega)
    have b1 := hb.2.1.1
    have e : r = 1120 + q := by omega
    subst e
    rw [zct_T' (by omega)] at hi
    rw [zbs_T' (by omega)]
    exact Or.inl (Or.inr (Or.inr (Or.inr (Or.inr (Or.inr ⟨q, i, hq, hi, rfl⟩)))))
/-- M' is M at a -/
def zAg (M M' : zMem) (a : Nat) : Prop := mK M' a = mK M a ∧ mN M' a = mN M a ∧ mG M' a = mG M a ∧ vI M' a = vI M a ∧ vR M' a = vR M a ∧ aI M' a = aI M a ∧ aR M' a = aR M a ∧ aL M' a = aL M a ∧ aD M' a = aD M a
theorem zL.keep {p e n p' e' : Nat} {f f' : Nat → Nat} (h : zL Z M p e n f) (hp : p' = p) (he : e' = e) (hf : ∀ i, i < n → f' i = f i) (h1 : zAg M M' p) (h2 : zAg M M' e) : zL Z M' p' e' n f' := by
  subst hp he
  obtain ⟨a1, a2, a3, a4, a5⟩ := h
  refine ⟨h1.1.trans a1, (congrFun h1.2.2.2.1 130).trans a2, (congrFun h1.2.2.2.2.1 129).trans a3, ?_, fun i hi => ?_⟩
  · rw [h2.1, h2.2.1]
    exact a4
  · rw [h2.2.2.2.2.2.2.1, hf i hi]
    exact a5 i hi
theorem zRwOk.keep {e g : Nat} (h : zRwOk M e g) (h2 : zAg M M' e) : zRwOk M' e g := by
  intro h9
  rw [h2.1] at h9
  rw [h2.2.2.1, h2.2.1]
  exact h h9
theorem zOne.keep (hb : zBnd (sc S)) (h : zOne Z Λ S M r) (hl : zlv (sc S) r) (hΛ : ∀ s, zus (sc S) s → Λ' s = Λ s) (hΛr : zki r = 14 → Λ' (zrw r) = Λ (zrw r)) (hM : zAg M M' (Λ r)) (hrow : zki r = 14 → zAg M M' (Λ (zrw r))) (hct : zki r = 14 → zct (sc S') r = zct (sc S) r)
    (hV : ∀ k, k ≠ 128 → k ≠ 130 → sV S' r k = sV S r k) (hW : ∀ j, sW S' r j = sW S r j)
    (hT : ∀ i k, i < sc S' 0 → k < sc S' (10 + i) → r = 160 + 8 * i + k → i < sc S 0 ∧ k < sc S (10 + i) ∧ sT S' i k = sT S i k ∧ sc S 1 ≤ sc S' 1) (hP : ∀ j, j < sc S' 2 → r = 150 + j → j < sc S 2 ∧ sP S' j = sP S j ∧ sc S 0 ≤ sc S' 0) : zOne Z Λ' S' M' r := by
  have e0 : Λ' r = Λ r := hΛ r (Or.inl hl)
  obtain ⟨⟨a1, a2⟩, ⟨a3, a4⟩, a5, a6, ⟨a7, a8⟩, a9, a10⟩ := h
  obtain ⟨m1, m2, m3, m4, m5, m6, m7, m8⟩ := hM
  refine ⟨⟨by rw [e0, m1]; exact a1, by rw [e0, m3]; exact a2⟩, ⟨fun h => by rw [e0, m2]; exact a3 h, fun k hk => ?_⟩, fun hk => ?_, fun e i hi => ?_, ⟨fun k h1 h2 => ?_, fun j => ?_⟩, fun i k hi hk e => ?_, fun j hj e => ?_⟩
  · rw [e0, m5, hΛ _ (Or.inl (zpt_lv hb hl hk))]
    exact a4 k hk
  · have er : Λ' (zrw r) = Λ (zrw r) := hΛr hk
    rw [hct hk]
    refine ⟨(a5 hk).1.keep e0 er (fun i hi => hΛ _ (zel_us hb hl hk hi)) ⟨m1, m2, m3, m4, m5, m6, m7, m8⟩ (hrow hk), ?_⟩
    rw [er]
    exact (a5 hk).2.keep (hrow hk)
  · subst e
    rw [e0, m7, hΛ _ (Or.inl (Or.inr (Or.inl ⟨hl.mid hb (by omega), by omega⟩)))]
    exact a6 rfl i hi
  · rw [e0, m4, hV k h1 h2]
    exact a7 k h1 h2
  · rw [e0, m6, hW]
    exact a8 j
  · obtain ⟨h1, h2, h3, h4⟩ := hT i k hi hk e
    obtain ⟨h5, h6⟩ := a9 i k h1 h2 e
    rw [h3]
    refine ⟨Nat.lt_of_lt_of_le h5 h4, ?_⟩
    rw [← e, e0, m5, hΛ _ (Or.inl (lvA h5)), e]
    exact h6
  · obtain ⟨h1, h2, h3⟩ := hP j hj e
    obtain ⟨h5, h6⟩ := a10 j h1 e
    rw [h2]
    refine ⟨Nat.lt_of_lt_of_le h5 h3, ?_⟩
    rw [← e, e0, m5, hΛ _ (Or.inl (lvP h5)), e]
    exact h6
theorem zlv.nrow (hb : zBnd c) (h : zlv c s) (hr : zlr r) : s ≠ zrw r := by
  have b1 := hb.1.1
  have b2 := hb.1.2.1
  have b3 := hb.1.2.2.1
  have b4 := hb.2.1.1
  have b5 := hb.2.1.2.1
  have e : s = zrw r → (s = 16 ∨ s = 18 ∨ s = 20 ∨ (130 ≤ s ∧ s < 140) ∨ s = 1016 ∨ s = 1018 ∨ s = 1020 ∨ s = 1022 ∨ s = 1024 ∨ (1130 ≤ s ∧ s < 1140)) := by
    intro e
    unfold zlr at hr
    by_cases g : r < 100 ∨ (1000 ≤ r ∧ r < 1100)
    · rw [show zrw r = r + 1 from if_pos g] at e
      omega
    · rw [show zrw r = r + 10 from if_neg g] at e
      omega
  intro e1
  have e2 := e e1
  rcases h with h | h
  · rcases h with ⟨-, h⟩ | ⟨i, hi, h⟩ | ⟨i, hi, h⟩ | ⟨i, hi, h⟩ | ⟨i, k, hi, hk, h⟩
    · omega
    · omega
    · omega
    · omega
    · have := hb.1.2.2.2 i; omega
  · rcases h with ⟨-, h⟩ | ⟨i, hi, h⟩ | ⟨i, hi, h⟩ | ⟨i, hi, h⟩ | ⟨i, k, hi, hk, h⟩ <;> omega
theorem zlr.ci (h : zlr r) : zci r ≠ 3 ∧ zci r ≠ 4 ∧ (r ≠ 15 → zci r ≠ 0) ∧ (r ≠ 17 → zci r ≠ 1) := by
  rcases h with rfl | rfl | rfl | h | rfl | rfl | rfl | rfl | rfl | h
  · decide
  · decide
  · decide
  · rw [show zci r = r - 110 from by unfold zci; rw [if_neg (by omega), if_neg (by omega), if_neg (by omega), if_neg (by omega), if_neg (by omega), if_neg (by omega), if_neg (by omega), if_neg (by omega)]]
    omega
  · decide
  · decide
  · decide
  · decide
  · decide
  · rw [show zci r = r - 110 from by unfold zci; rw [if_neg (by omega), if_neg (by omega), if_neg (by omega), if_neg (by omega), if_neg (by omega), if_neg (by omega), if_neg (by omega), if_neg (by omega)]]
    omega
theorem zlr.ci5 (h : zlr r) : zci r ≠ 5 := by
  rcases h with rfl | rfl | rfl | h | rfl | rfl | rfl | rfl | rfl | h
  · decide
  · decide
  · decide
  · rw [show zci r = r - 110 from by unfold zci; rw [if_neg (by omega), if_neg (by omega), if_neg (by omega), if_neg (by omega), if_neg (by omega), if_neg (by omega), if_neg (by omega), if_neg (by omega)]]
    omega
  · decide
  · decide
  · decide
  · decide
  · decide
  · rw [show zci r = r - 110 from by unfold zci; rw [if_neg (by omega), if_neg (by omega), if_neg (by omega), if_neg (by omega), if_neg (by omega), if_neg (by omega), if_neg (by omega), if_neg (by omega)]]
    omega
theorem zL.row {p e n : Nat} {f : Nat → Nat} (h : zL Z M p e n f) : (mK M e = 7 ∧ n = 0) ∨ mK M e = 3 := by
  obtain ⟨-, -, -, h, -⟩ := h
  rcases h with ⟨h1, -, h2, -⟩ | ⟨h1, -⟩
  · exact Or.inl ⟨h1, h2⟩
  · exact Or.inr h1
/-- a list is cleared -/
theorem zRp.clr (h : zRp Z Λ S M) (hl : zlv (sc S) r) (hk : zki r = 14) (h15 : r ≠ 15) (h17 : r ≠ 17) : zRp Z Λ (cset (sc S) (zci r) 0, sV S, sW S, sT S, sP S) (zClr M (Λ r) (Λ (zrw r)) (zct (sc S) r)) := by
  have hb := h.bnd
  have hr := zlr_of hk
  have hle : ∀ k, cset (sc S) (zci r) 0 k ≤ sc S k := by
    intro k
    unfold cset
    split <;> omega
  have c3 : cset (sc S) (zci r) 0 3 = sc S 3 := cset_ne hr.ci.1.symm
  have c4 : cset (sc S) (zci r) 0 4 = sc S 4 := cset_ne hr.ci.2.1.symm
  have c0 : cset (sc S) (zci r) 0 0 = sc S 0 := cset_ne (hr.ci.2.2.1 h15).symm
  have c1 : cset (sc S) (zci r) 0 1 = sc S 1 := cset_ne (hr.ci.2.2.2 h17).symm
  have hL := h.li hl hk
  have hW := h.rw hl hk
  have hkr : mK M (Λ r) = 14 := (h.kd hl).trans hk
  -- the row of a cleared list, elsewhere
  have haR : ∀ a, (mK M (Λ (zrw r)) = 3 → a ≠ Λ (zrw r)) → u1 (aR M) (Λ (zrw r)) (fun j => if j < zct (sc S) r then none else aR M (Λ (zrw r)) j) a = aR M a := by
    intro a ha
    unfold u1
    split
    · next e =>
      rcases hL.row with ⟨h1, h2⟩ | h1
      · funext j
        rw [h2, if_neg (Nat.not_lt_zero j), e]
      · exact absurd e (ha h1)
    · rfl
  have hag : ∀ a, a ≠ Λ r → (mK M (Λ (zrw r)) = 3 → a ≠ Λ (zrw r)) → zAg M (zClr M (Λ r) (Λ (zrw r)) (zct (sc S) r)) a := by
    intro a ha ha2
    exact ⟨rfl, rfl, rfl, (u2_ne ha).trans (u2_ne ha), rfl, rfl, haR a ha2, rfl, rfl⟩
  have c5 : cset (sc S) (zci r) 0 5 = sc S 5 := cset_ne hr.ci5.symm
  refine zRp.of (hb.le hle) (fun s hs => ?_) ⟨fun i hi => ?_, fun i hi => ?_⟩ ⟨⟨fun h5 => h.outs.1 (c5.symm.trans h5), h.outs.2⟩, h.emp⟩
  · have hs0 : zlv (sc S) s := hs.mono hle c3 c4
    by_cases e : s = r
    · subst e
      obtain ⟨a1, ⟨a3, a4⟩, -, -, ⟨a7, a8⟩, -, -⟩ := h.one hl
      refine ⟨a1, ⟨a3, a4⟩, fun _ => ⟨?_, hW⟩, fun e => ?_, ⟨fun k h1 h2 => ?_, a8⟩, fun i k hi hk e => ?_, fun j hj e => ?_⟩
      · rw [show zct (sc (cset (sc S) (zci s) 0, sV S, sW S, sT S, sP S)) s = 0 from by rw [zct_ci]; exact cset_at]
        obtain ⟨l1, l2, l3, l4, -⟩ := hL
        refine ⟨l1, (u2_at : u2 (u2 (vI M) (Λ s) 128 (vI M (Λ s) 128 + 1)) (Λ s) 130 0 (Λ s) 130 = 0), l3, ?_, fun i hi => absurd hi (Nat.not_lt_zero i)⟩
        rcases l4 with ⟨q1, q2, q3, q4⟩ | ⟨q1, q2, q3, q4⟩
        · exact Or.inl ⟨q1, q2, rfl, q4⟩
        · exact Or.inr ⟨q1, Nat.zero_le _, q3, q4⟩
      · exfalso
        subst e
        exact absurd hk (by decide)
      · exact (u2_nk h2).trans ((u2_nk h1).trans (a7 k h1 h2))
      · exfalso
        unfold zlr at hr
        have hi0 : i < sc S 0 := Nat.lt_of_lt_of_le hi (hle 0)
        have := hb.1.1
        have := hb.1.2.2.2 i
        have hk0 : k < sc S (10 + i) := Nat.lt_of_lt_of_le hk (hle (10 + i))
        omega
      · exfalso
        unfold zlr at hr
        have hj0 : j < sc S 2 := Nat.lt_of_lt_of_le hj (hle 2)
        have := hb.1.2.2.1
        omega
    · refine (h.one hs0).keep hb hs0 (fun _ _ => rfl) (fun _ => rfl) (hag _ (h.ne hs0 hl e) (fun h3 e3 => ?_)) (fun hk2 => hag _ (fun e4 => ?_) (fun h3 e3 => ?_)) (fun hk2 => ?_) (fun _ _ _ => rfl) (fun _ => rfl) (fun i k hi hk e => ⟨Nat.lt_of_lt_of_le hi (hle _), Nat.lt_of_lt_of_le hk (hle _), rfl, Nat.le_of_eq c1.symm⟩) (fun j hj e => ⟨Nat.lt_of_lt_of_le hj (hle _), rfl, Nat.le_of_eq c0.symm⟩)
      · exact hs0.nrow hb hr ((h.mk hs0).symm.trans ((congrArg (mG M) e3).trans (hW h3).1))
      · have := (h.li hs0 hk2).row
        rw [e4, hkr] at this
        omega
      · have h4 : mK M (Λ (zrw s)) = 3 := by rw [e3]; exact h3
        have h5 := (h.rw hs0 hk2 h4).1
        rw [e3, (hW h3).1] at h5
        exact e (zrw_inj hr (zlr_of hk2) h5).symm
      · rw [zct_ci, zct_ci]
        exact cset_ne (fun e5 => e (zci_inj (zlr_of hk2) hr e5))
  · obtain ⟨q1, q2⟩ := h.ints.1 i (Nat.lt_of_lt_of_le hi (hle 1003))
    exact ⟨q1, q2⟩
  · obtain ⟨q1, q2⟩ := h.ints.2 i (Nat.lt_of_lt_of_le hi (hle 6))
    exact ⟨q1, q2⟩
theorem zci_T (hi : i < 10) : zci (120 + i) = 10 + i := by
  unfold zci
  rw [if_neg (by omega), if_neg (by omega), if_neg (by omega), if_neg (by omega), if_neg (by omega), if_neg (by omega), if_neg (by omega), if_neg (by omega)]
  omega
theorem zci_T' (hi : i < 10) : zci (1120 + i) = 1010 + i := by
  unfold zci
  rw [if_neg (by omega), if_neg (by omega), if_neg (by omega), if_neg (by omega), if_neg (by omega), if_neg (by omega), if_neg (by omega), if_neg (by omega)]
  omega
theorem zRp.clrT (h : zRp Z Λ S M) (hi : i < sc S 0) : zRp Z Λ (cset (sc S) (10 + i) 0, sV S, sW S, sT S, sP S) (zClr M (Λ (120 + i)) (Λ (130 + i)) (sc S (10 + i))) := by
  have hb := h.bnd.1.1
  have := h.clr (lvT hi) (zki_T (by omega)) (by omega) (by omega)
  rw [zci_T (by omega), zrw_T (by omega), zct_T (by omega)] at this
  exact this
theorem zRp.clrT' (h : zRp Z Λ S M) (hi : i < sc S 1000) : zRp Z Λ (cset (sc S) (1010 + i) 0, sV S, sW S, sT S, sP S) (zClr M (Λ (1120 + i)) (Λ (1130 + i)) (sc S (1010 + i))) := by
  have hb := h.bnd.2.1.1
  have := h.clr (lvT' hi) (zki_T' (by omega)) (by omega) (by omega)
  rw [zci_T' (by omega), zrw_T', zct_T' (by omega)] at this
  exact this
theorem zRp.clrV (h : zRp Z Λ S M) (h3 : sc S 3 = 1) : zRp Z Λ (cset (sc S) 2 0, sV S, sW S, sT S, sP S) (zClr M (Λ 19) (Λ 20) (sc S 2)) := h.clr (r := 19) (lvC h3 (by omega)) rfl (by decide) (by decide)
theorem zRp.clrV' (h : zRp Z Λ S M) (h4 : sc S 4 = 1) : zRp Z Λ (cset (sc S) 1002 0, sV S, sW S, sT S, sP S) (zClr M (Λ 1019) (Λ 1020) (sc S 1002)) := h.clr (r := 1019) (lvM h4 (by omega)) rfl (by decide) (by decide)
theorem zRp.clrL' (h : zRp Z Λ S M) (h4 : sc S 4 = 1) : zRp Z Λ (cset (sc S) 1003 0, sV S, sW S, sT S, sP S) (zClr M (Λ 1021) (Λ 1022) (sc S 1003)) := h.clr (r := 1021) (lvM h4 (by omega)) rfl (by decide) (by decide)
theorem zEmp.keep (h : zEmp Z M) (h1 : ∀ a, mK M a = 7 ∨ mK M a = 8 → zAg M M' a) : zEmp Z M' := ⟨(h1 _ (Or.inl h.1)).1.trans h.1, (h1 _ (Or.inl h.1)).2.1.trans h.2.1, fun j hj => (h1 _ (Or.inr (h.2.2 j hj))).1.trans (h.2.2 j hj)⟩
theorem zOut.keep (h : zOut Λ S M) (hΛ : Λ' 40 = Λ 40 ∧ Λ' 41 = Λ 41) (hc : sc S' 5 = sc S 5) (hP : ∀ j, sP S' (1000 + j) = sP S (1000 + j)) (hM : ∀ a, (mK M a = 5 ∨ mK M a = 6 ∨ (mK M a = 2 ∧ mG M a = 42)) → zAg M M' a) : zOut Λ' S' M' := by
  refine ⟨fun h5 => ?_, fun h9 => ?_⟩
  · obtain ⟨⟨a1, a2, a3⟩, a4, a5, a6⟩ := h.1 (hc.symm.trans h5)
    have e1 := hM _ (Or.inl a1)
    have e2 := hM _ (Or.inr (Or.inl a4))
    rw [hΛ.1, hΛ.2, e1.1, e1.2.1, e1.2.2.2.2.2.2.2.1, e2.1, e2.2.1, e2.2.2.2.2.2.2.2.2]
    have p0 := hP 0
    have p1 := hP 1
    exact ⟨⟨a1, a2, a3.trans (by rw [show sP S' 1000 = sP S 1000 from p0])⟩, a4, a5, a6.trans (by rw [show sP S' 1001 = sP S 1001 from p1])⟩
  · have p2 : sP S' 1002 = sP S 1002 := hP 2
    have p10 : sP S' 1010 = sP S 1010 := hP 10
    obtain ⟨c1, c2, c3, c4⟩ := h.2 (p10.symm.trans h9)
    have e3 := hM _ (Or.inr (Or.inr ⟨c1, c3⟩))
    rw [p2, e3.1, e3.2.1, e3.2.2.1, e3.2.2.2.2.2.1]
    refine ⟨c1, c2, c3, fun x hx => (c4 x hx).trans ?_⟩
    have px := hP (3 + x)
    rw [show 1003 + x = 1000 + (3 + x) from by omega, px]
theorem zki_pos (hb : zBnd c) (hl : zlv c s) : zki s ≠ 0 := by
  have b1 := hb.1.1
  have b2 := hb.1.2.1
  have b3 := hb.1.2.2.1
  have b4 := hb.2.1.1
  have b5 := hb.2.1.2.1
  have b6 := hb.2.1.2.2.1
  have hs : ((1 ≤ s ∧ s ≤ 15) ∨ s = 17 ∨ s = 19) ∨ (100 ≤ s ∧ s < 1000) ∨ (s = 1001 ∨ s = 1015 ∨ s = 1017 ∨ s = 1019 ∨ s = 1021 ∨ s = 1023 ∨ s = 1025) ∨ 1030 ≤ s := by
    rcases hl with h9 | h9
    · rcases h9 with ⟨h3, h9⟩ | ⟨i, hi, h9⟩ | ⟨i, hi, rfl⟩ | ⟨i, hi, rfl⟩ | ⟨i, k, hi, hk, rfl⟩
      · exact Or.inl h9
      · omega
      · omega
      · omega
      · have := hb.1.2.2.2 i
        omega
    · rcases h9 with ⟨h3, h9⟩ | ⟨i, hi, h9⟩ | ⟨i, hi, rfl⟩ | ⟨i, hi, rfl⟩ | ⟨i, k, hi, hk, rfl⟩ <;> omega
  rcases hs with h | h | h | h
  · have : ∀ s, s < 20 → ((1 ≤ s ∧ s ≤ 15) ∨ s = 17 ∨ s = 19) → zki s ≠ 0 := by decide
    exact this s (by omega) h
  · unfold zki
    rw [if_neg (by omega)]
    rcases Nat.lt_or_ge s 110 with g | g
    · rw [if_pos g]; decide
    rw [if_neg (by omega)]
    rcases Nat.lt_or_ge s 120 with g | g
    · rw [if_pos g]; decide
    rw [if_neg (by omega)]
    rcases Nat.lt_or_ge s 130 with g | g
    · rw [if_pos g]; decide
    rw [if_neg (by omega)]
    rcases Nat.lt_or_ge s 140 with g | g
    · rw [if_pos g]; decide
    rw [if_neg (by omega)]
    rcases Nat.lt_or_ge s 150 with g | g
    · rw [if_pos g]; decide
    rw [if_neg (by omega)]
    rcases Nat.lt_or_ge s 160 with g | g
    · rw [if_pos g]; decide
    rw [if_neg (by omega)]
    rw [if_pos h.2]
    decide
  · rcases h with rfl | rfl | rfl | rfl | rfl | rfl | rfl <;> decide
  · unfold zki
    rw [if_neg (by omega), if_neg (by omega), if_neg (by omega), if_neg (by omega), if_neg (by omega), if_neg (by omega), if_neg (by omega), if_neg (by omega), if_neg (by omega)]
    rcases Nat.lt_or_ge s 1100 with g | g
    · rw [if_pos g]; decide
    rw [if_neg (by omega)]
    rcases Nat.lt_or_ge s 1110 with g | g
    · rw [if_pos g]; decide
    rw [if_neg (by omega)]
    rcases Nat.lt_or_ge s 1120 with g | g
    · rw [if_pos g]; decide
    rw [if_neg (by omega)]
    rcases Nat.lt_or_ge s 1130 with g | g
    · rw [if_pos g]; decide
    rw [if_neg (by omega)]
    rcases Nat.lt_or_ge s 1140 with g | g
    · rw [if_pos g]; decide
    rw [if_neg (by omega)]
    rcases Nat.lt_or_ge s 1150 with g | g
    · rw [if_pos g]; decide
    rw [if_neg (by omega)]
    rcases Nat.lt_or_ge s 1160 with g | g
    · rw [if_pos g]; decide
    rw [if_neg (by omega)]
    decide
theorem zRp.k0 (h : zRp Z Λ S M) (hl : zlv (sc S) s) : mK M (Λ s) ≠ 0 := by
  have hl0 := hl
  rcases hl with h9 | h9
  · rcases h9 with ⟨h3, h9⟩ | ⟨i, hi, h9⟩ | ⟨i, hi, rfl⟩ | ⟨i, hi, rfl⟩ | ⟨i, k, hi, hk, rfl⟩
    · rw [h.kd hl0]
      have : ∀ s, s < 20 → ((1 ≤ s ∧ s ≤ 15) ∨ s = 17 ∨ s = 19) → zki s ≠ 0 := by decide
      exact this s (by omega) h9
    · rcases h9 with rfl | rfl | rfl
      · rw [h.kP hi]; decide
      · rw [h.kQ hi]; decide
      · rw [h.kT hi]; decide
    · rw [h.kA hi]; decide
    · rw [h.kV hi]; decide
    · rw [h.kK hi hk]; decide
  · rcases h9 with ⟨h3, h9⟩ | ⟨i, hi, h9⟩ | ⟨i, hi, rfl⟩ | ⟨i, hi, rfl⟩ | ⟨i, k, hi, hk, rfl⟩
    · rw [h.kd hl0]
      have : ∀ s, s < 40 → (s = 1 ∨ s = 15 ∨ s = 17 ∨ s = 19 ∨ s = 21 ∨ s = 23 ∨ s = 25 ∨ (30 ≤ s ∧ s < 38)) → zki (1000 + s) ≠ 0 := by decide
      have := this (s - 1000) (by omega) (by omega)
      rw [show 1000 + (s - 1000) = s from by omega] at this
      exact this
    · rcases h9 with rfl | rfl | rfl
      · rw [h.kP' hi]; decide
      · rw [h.kQ' hi]; decide
      · rw [h.kT' hi]; decide
    · rw [h.kA' hi]; decide
    · rw [h.kV' hi]; decide
    · rw [h.kK' hi hk]; decide
/-- new things, told to nobody yet -/
theorem zRp.grow (h : zRp Z Λ S M) (hΛ : ∀ s, zus (sc S) s → Λ' s = Λ s) (hΛo : Λ' 40 = Λ 40 ∧ Λ' 41 = Λ 41) (hΛr : ∀ r, zlv (sc S) r → zki r = 14 → Λ' (zrw r) = Λ (zrw r)) (hM : ∀ a, mK M a ≠ 0 → zAg M M' a) : zRp Z Λ' S M' := by
  refine zRp.of h.bnd (fun s hs => (h.one hs).keep h.bnd hs hΛ (hΛr s hs) (hM _ (h.k0 hs)) (fun hk => hM _ ?_) (fun _ => rfl) (fun _ _ _ => rfl) (fun _ => rfl) (fun i k hi hk _ => ⟨hi, hk, rfl, Nat.le_refl _⟩) (fun j hj _ => ⟨hj, rfl, Nat.le_refl _⟩)) ⟨fun i hi => ?_, fun i hi => ?_⟩ ⟨h.outs.keep hΛo rfl (fun _ => rfl) (fun a ha => hM a (by omega)), h.emp.keep (fun a ha => hM a (by omega))⟩
  · have := (h.li hs hk).row
    omega
  · obtain ⟨q1, q2⟩ := h.ints.1 i hi
    have e := hM (Λ (1300 + i)) (by omega)
    unfold zIok
    rw [hΛ _ (Or.inr (Or.inl ⟨i, hi, rfl⟩)), e.1, e.2.2.2.1]
    exact ⟨q1, q2⟩
  · obtain ⟨q1, q2⟩ := h.ints.2 i hi
    have e := hM (Λ (1320 + i)) (by omega)
    unfold zIok
    rw [hΛ _ (Or.inr (Or.inr ⟨i, hi, rfl⟩)), e.1, e.2.2.2.1]
    exact ⟨q1, q2⟩
theorem zlvK_of (hb : zBnd c) (hb' : zBnd c') (h : zlv c (160 + 8 * i + k)) (hi : i < c' 0) (hk : k < c' (10 + i)) : i < c 0 ∧ k < c (10 + i) := by
  have b0 := hb'.1.1
  have b8 := hb'.1.2.2.2 i
  have b1 := hb.1.1
  have b2 := hb.1.2.1
  have b3 := hb.1.2.2.1
  rcases h with h | h
  · rcases h with ⟨-, h⟩ | ⟨i2, hi2, h⟩ | ⟨i2, hi2, h⟩ | ⟨i2, hi2, h⟩ | ⟨i2, k2, hi2, hk2, h⟩
    · omega
    · omega
    · omega
    · omega
    · have := hb.1.2.2.2 i2
      have e : i = i2 := by omega
      subst e
      have e2 : k = k2 := by omega
      subst e2
      exact ⟨hi2, hk2⟩
  · rcases h with ⟨-, h⟩ | ⟨i2, hi2, h⟩ | ⟨i2, hi2, h⟩ | ⟨i2, hi2, h⟩ | ⟨i2, k2, hi2, hk2, h⟩ <;> omega
theorem zlvV_of (hb : zBnd c) (hb' : zBnd c') (h : zlv c (150 + j)) (hj : j < c' 2) : j < c 2 := by
  have b0 := hb'.1.2.2.1
  have b1 := hb.1.1
  have b2 := hb.1.2.1
  have b3 := hb.1.2.2.1
  rcases h with h | h
  · rcases h with ⟨-, h⟩ | ⟨i2, hi2, h⟩ | ⟨i2, hi2, h⟩ | ⟨i2, hi2, h⟩ | ⟨i2, k2, hi2, hk2, h⟩ <;> omega
  · rcases h with ⟨-, h⟩ | ⟨i2, hi2, h⟩ | ⟨i2, hi2, h⟩ | ⟨i2, hi2, h⟩ | ⟨i2, k2, hi2, hk2, h⟩ <;> omega
/-- all but list r and its row kept, r one longer: M2 is what add leaves -/
theorem zRp.add0 {V' W' : Nat → Nat → Int32} {T' : Nat → Nat → Nat} {P' : Nat → Nat} {M2 : zMem} (h : zRp Z Λ S M) (hl : zlv (sc S) r) (hk : zki r = 14) (hb' : zBnd (cset (sc S) (zci r) (zct (sc S) r + 1)))
    (hnew : ∀ s, zlv (cset (sc S) (zci r) (zct (sc S) r + 1)) s → ¬ zlv (sc S) s → zOne Z Λ (cset (sc S) (zci r) (zct (sc S) r + 1), V', W', T', P') M s) (hV : ∀ s, zlv (sc S) s → ∀ k, k ≠ 128 → k ≠ 130 → V' s k = sV S s k) (hW : ∀ s, zlv (sc S) s → ∀ j, W' s j = sW S s j)
    (hT : ∀ i k, i < sc S 0 → k < sc S (10 + i) → T' i k = sT S i k) (hP : ∀ j, j < sc S 2 → P' j = sP S j) (hPo : ∀ j, P' (1000 + j) = sP S (1000 + j)) (hint : zInts Λ (cset (sc S) (zci r) (zct (sc S) r + 1), V', W', T', P') M)
    (hΛ : ∀ s, s ≠ zrw r → Λ' s = Λ s) (hag : ∀ a, mK M a ≠ 0 → a ≠ Λ r → (mK M (Λ (zrw r)) = 3 → a ≠ Λ (zrw r)) → zAg M M2 a) (hint2 : ∀ a, (mK M a = 11 ∨ mK M a = 8 ∨ mK M a = 5 ∨ mK M a = 6) → zAg M M2 a)
    (hr2 : zOne Z Λ (sc S, V', W', T', P') M r → zOne Z Λ' (cset (sc S) (zci r) (zct (sc S) r + 1), V', W', T', P') M2 r) : zRp Z Λ' (cset (sc S) (zci r) (zct (sc S) r + 1), V', W', T', P') M2 := by
  have hb := h.bnd
  have hr := zlr_of hk
  have hle : ∀ k, sc S k ≤ cset (sc S) (zci r) (zct (sc S) r + 1) k := by
    intro k
    unfold cset
    split
    · next e =>
      rw [zct_ci, ← e]
      omega
    · exact Nat.le_refl _
  have hWr := h.rw hl hk
  have hus : ∀ s, zus (cset (sc S) (zci r) (zct (sc S) r + 1)) s → Λ' s = Λ s := by
    intro s hs
    refine hΛ s ?_
    rcases hs with hs | ⟨i, hi, rfl⟩ | ⟨i, hi, rfl⟩
    · exact hs.nrow hb' hr
    · have : zrw r < 1200 := by
        unfold zlr at hr
        unfold zrw
        split <;> omega
      omega
    · have : zrw r < 1200 := by
        unfold zlr at hr
        unfold zrw
        split <;> omega
      omega
  have husS : ∀ s, zus (sc S) s → Λ' s = Λ s := by
    intro s hs
    refine hus s ?_
    rcases hs with hs | ⟨i, hi, h9⟩ | ⟨i, hi, h9⟩
    · exact Or.inl (zlv.mono hle (cset_ne hr.ci.1.symm).symm (cset_ne hr.ci.2.1.symm).symm hs)
    · exact Or.inr (Or.inl ⟨i, Nat.lt_of_lt_of_le hi (hle _), h9⟩)
    · exact Or.inr (Or.inr ⟨i, Nat.lt_of_lt_of_le hi (hle _), h9⟩)
  have hzr : zrw r ≠ 40 ∧ zrw r ≠ 41 := by
    unfold zlr at hr
    unfold zrw
    split <;> omega
  refine zRp.of hb' (fun s hs => ?_) ⟨fun i hi => ?_, fun i hi => ?_⟩ ⟨h.outs.keep ⟨hΛ 40 hzr.1.symm, hΛ 41 hzr.2.symm⟩ (cset_ne hr.ci5.symm) hPo (fun a ha => by
    rcases ha with ha | ha | ha
    · exact hint2 a (by omega)
    · exact hint2 a (by omega)
    · exact hag a (by omega) (fun e => by have := h.kd hl; rw [hk, ← e] at this; omega) (fun h3 e => by rw [← e] at h3; omega)), h.emp.keep (fun a ha => hag a (by omega) (fun e => by have := h.kd hl; rw [hk, ← e] at this; omega) (fun h3 e => by rw [← e] at h3; omega))⟩
  · by_cases e : s = r
    · subst e
      refine hr2 ?_
      obtain ⟨a1, a2, a3, a4, ⟨a5, a6⟩, a7, a8⟩ := h.one hl
      refine ⟨a1, a2, a3, a4, ⟨fun k h1 h2 => (a5 k h1 h2).trans (hV _ hl k h1 h2).symm, fun j => (a6 j).trans (hW _ hl j).symm⟩, fun i k hi hk e => ?_, fun j hj e => ?_⟩
      · show T' i k < sc S 1 ∧ vR M (Λ (160 + 8 * i + k)) 416 = some (Λ (140 + T' i k))
        rw [hT i k hi hk]
        exact a7 i k hi hk e
      · show P' j < sc S 0 ∧ vR M (Λ (150 + j)) 448 = some (Λ (100 + P' j))
        rw [hP j hj]
        exact a8 j hj e
    · by_cases ho : zlv (sc S) s
      · refine (h.one ho).keep hb ho husS (fun hk2 => hΛ _ (fun e5 => e (zrw_inj (zlr_of hk2) hr e5))) (hag _ (h.k0 ho) (h.ne ho hl e) (fun h3 e3 => ?_)) (fun hk2 => hag _ ?_ (fun e4 => ?_) (fun h3 e3 => ?_)) (fun hk2 => ?_) (hV s ho) (hW s ho) (fun i k hi hk e => ?_) (fun j hj e => ?_)
        · exact ho.nrow hb hr ((h.mk ho).symm.trans ((congrArg (mG M) e3).trans (hWr h3).1))
        · have := (h.li ho hk2).row
          omega
        · have := (h.li ho hk2).row
          rw [e4, h.kd hl, hk] at this
          omega
        · have h4 : mK M (Λ (zrw s)) = 3 := by rw [e3]; exact h3
          have h5 := (h.rw ho hk2 h4).1
          rw [e3, (hWr h3).1] at h5
          exact e (zrw_inj hr (zlr_of hk2) h5).symm
        · exact (zct_ci.trans (cset_ne (fun e5 => e (zci_inj (zlr_of hk2) hr e5)))).trans zct_ci.symm
        · subst e
          obtain ⟨h1, h2⟩ := zlvK_of hb hb' ho hi hk
          exact ⟨h1, h2, hT i k h1 h2, hle 1⟩
        · subst e
          have h1 := zlvV_of hb hb' ho hj
          exact ⟨h1, hP j h1, hle 0⟩
      · have hn := hnew s hs ho
        refine hn.keep hb' hs hus (fun hk2 => hΛ _ (fun e5 => e (zrw_inj (zlr_of hk2) hr e5))) (hag _ ?_ (fun e4 => ?_) (fun h3 e3 => ?_)) (fun hk2 => hag _ ?_ (fun e4 => ?_) (fun h3 e3 => ?_)) (fun _ => rfl) (fun _ _ _ => rfl) (fun _ => rfl) (fun i k hi hk _ => ⟨hi, hk, rfl, Nat.le_refl _⟩) (fun j hj _ => ⟨hj, rfl, Nat.le_refl _⟩)
        · rw [hn.1.1]
          exact zki_pos hb' hs
        · exact e (hn.1.2.symm.trans ((congrArg (mG M) e4).trans (h.mk hl)))
        · exact hs.nrow hb' hr (hn.1.2.symm.trans ((congrArg (mG M) e3).trans (hWr h3).1))
        · have := (hn.2.2.1 hk2).1.row
          omega
        · have := (hn.2.2.1 hk2).1.row
          rw [e4, h.kd hl, hk] at this
          omega
        · have h4 : mK M (Λ (zrw s)) = 3 := by rw [e3]; exact h3
          have h5 := ((hn.2.2.1 hk2).2 h4).1
          rw [e3, (hWr h3).1] at h5
          exact e (zrw_inj hr (zlr_of hk2) h5).symm
  · obtain ⟨q1, q2⟩ := hint.1 i hi
    have e := hint2 (Λ (1300 + i)) (by rcases q1 with q1 | q1 <;> omega)
    unfold zIok
    rw [hus _ (Or.inr (Or.inl ⟨i, hi, rfl⟩)), e.1, e.2.2.2.1]
    exact ⟨q1, q2⟩
  · obtain ⟨q1, q2⟩ := hint.2 i hi
    have e := hint2 (Λ (1320 + i)) (by rcases q1 with q1 | q1 <;> omega)
    unfold zIok
    rw [hus _ (Or.inr (Or.inr ⟨i, hi, rfl⟩)), e.1, e.2.2.2.1]
    exact ⟨q1, q2⟩
theorem zlr_act (hb : zBnd c) (hr : zlr r) (hi : i < c 0) (hk : k < c (10 + i)) : r ≠ 160 + 8 * i + k := by
  have := hb.1.1
  have := hb.1.2.2.2 i
  unfold zlr at hr
  omega
theorem zlr_vis (hb : zBnd c) (hr : zlr r) (hj : j < c 2) : r ≠ 150 + j := by
  have := hb.1.2.2.1
  unfold zlr at hr
  omega
theorem zbs_ge (hr : zlr r) : zbs r ≠ zrw r ∧ r ≠ zrw r := by
  rcases hr with rfl | rfl | rfl | h | rfl | rfl | rfl | rfl | rfl | h
  · decide
  · decide
  · decide
  · rw [show r = 120 + (r - 120) from by omega, zbs_T (by omega), zrw_T (by omega)]
    omega
  · decide
  · decide
  · decide
  · decide
  · decide
  · rw [show r = 1120 + (r - 1120) from by omega, zbs_T' (by omega), zrw_T']
    omega
theorem zRp_addRoom {V' W' : Nat → Nat → Int32} {T' : Nat → Nat → Nat} {P' : Nat → Nat} {v : Nat} (h : zRp Z Λ S M) (hl : zlv (sc S) r) (hk : zki r = 14) (hb' : zBnd (cset (sc S) (zci r) (zct (sc S) r + 1))) (hv : v = Λ (zbs r + zct (sc S) r))
    (hnew : ∀ s, zlv (cset (sc S) (zci r) (zct (sc S) r + 1)) s → ¬ zlv (sc S) s → zOne Z Λ (cset (sc S) (zci r) (zct (sc S) r + 1), V', W', T', P') M s) (hV : ∀ s, zlv (sc S) s → ∀ k, k ≠ 128 → k ≠ 130 → V' s k = sV S s k) (hW : ∀ s, zlv (sc S) s → ∀ j, W' s j = sW S s j)
    (hT : ∀ i k, i < sc S 0 → k < sc S (10 + i) → T' i k = sT S i k) (hP : ∀ j, j < sc S 2 → P' j = sP S j) (hPo : ∀ j, P' (1000 + j) = sP S (1000 + j)) (hint : zInts Λ (cset (sc S) (zci r) (zct (sc S) r + 1), V', W', T', P') M)
    (h3 : mK M (Λ (zrw r)) = 3) (hro : zct (sc S) r < mN M (Λ (zrw r))) : zRp Z Λ (cset (sc S) (zci r) (zct (sc S) r + 1), V', W', T', P') (zAdd M (Λ r) (Λ (zrw r)) (zct (sc S) r) v) := by
  have hb := h.bnd
  have hr := zlr_of hk
  have hkr : mK M (Λ r) = 14 := (h.kd hl).trans hk
  have hag : ∀ a, a ≠ Λ r → a ≠ Λ (zrw r) → zAg M (zAdd M (Λ r) (Λ (zrw r)) (zct (sc S) r) v) a := fun a h1 h2 => ⟨rfl, rfl, rfl, (u2_ne h1).trans (u2_ne h1), rfl, rfl, u2_ne h2, rfl, rfl⟩
  refine h.add0 hl hk hb' hnew hV hW hT hP hPo hint (fun _ _ => rfl) (fun a _ h1 h2 => hag a h1 (h2 h3)) (fun a ha => hag a (fun e => ?_) (fun e => ?_)) (fun h9 => ?_)
  · rw [e, hkr] at ha
    omega
  · rw [e, h3] at ha
    omega
  · obtain ⟨a1, ⟨a2, a3⟩, a4, -, ⟨a5, a6⟩, -, -⟩ := h9
    obtain ⟨⟨l1, l2, l3, l4, l5⟩, l6⟩ := a4 hk
    refine ⟨a1, ⟨a2, a3⟩, fun _ => ⟨?_, l6⟩, fun e => ?_, ⟨fun k h1 h2 => (u2_nk h2).trans ((u2_nk h1).trans (a5 k h1 h2)), a6⟩, fun i k hi hk2 e => absurd e (zlr_act hb' hr hi hk2), fun j hj e => absurd e (zlr_vis hb' hr hj)⟩
    · rw [show zct (sc (cset (sc S) (zci r) (zct (sc S) r + 1), V', W', T', P')) r = zct (sc S) r + 1 from zct_ci.trans cset_at]
      refine ⟨l1, (u2_at : u2 (u2 (vI M) (Λ r) 128 (vI M (Λ r) 128 + 1)) (Λ r) 130 (nI (zct (sc S) r + 1)) (Λ r) 130 = _), l3, Or.inr ?_, fun i hi => ?_⟩
      · rcases l4 with ⟨q1, -⟩ | ⟨q1, q2, q3, q4⟩
        · rw [h3] at q1
          exact absurd q1 (by decide)
        · exact ⟨q1, hro, q3, q4⟩
      · by_cases e : i = zct (sc S) r
        · subst e
          exact (u2_at : u2 (aR M) (Λ (zrw r)) (zct (sc S) r) (some v) (Λ (zrw r)) (zct (sc S) r) = some v).trans (by rw [hv])
        · exact (u2_nk e).trans (l5 i (by show i < zct (sc S) r; omega))
    · subst e
      exact absurd hk (by decide)
theorem zRp_addGrow {V' W' : Nat → Nat → Int32} {T' : Nat → Nat → Nat} {P' : Nat → Nat} {v : Nat} (h : zRp Z Λ S M) (hl : zlv (sc S) r) (hk : zki r = 14) (hb' : zBnd (cset (sc S) (zci r) (zct (sc S) r + 1))) (hv : v = Λ (zbs r + zct (sc S) r))
    (hnew : ∀ s, zlv (cset (sc S) (zci r) (zct (sc S) r + 1)) s → ¬ zlv (sc S) s → zOne Z Λ (cset (sc S) (zci r) (zct (sc S) r + 1), V', W', T', P') M s) (hV : ∀ s, zlv (sc S) s → ∀ k, k ≠ 128 → k ≠ 130 → V' s k = sV S s k) (hW : ∀ s, zlv (sc S) s → ∀ j, W' s j = sW S s j)
    (hT : ∀ i k, i < sc S 0 → k < sc S (10 + i) → T' i k = sT S i k) (hP : ∀ j, j < sc S 2 → P' j = sP S j) (hPo : ∀ j, P' (1000 + j) = sP S (1000 + j)) (hint : zInts Λ (cset (sc S) (zci r) (zct (sc S) r + 1), V', W', T', P') M)
    {q : Nat} (h7 : mK M (Λ (zrw r)) = 7) (h0 : zct (sc S) r = 0) (hq : mK M q = 0) (hvz : mK M v ≠ 0) : zRp Z (u1 Λ (zrw r) q) (cset (sc S) (zci r) (zct (sc S) r + 1), V', W', T', P') (zAddG M (Λ r) q v (zrw r)) := by
  have hb := h.bnd
  have hr := zlr_of hk
  have hkr : mK M (Λ r) = 14 := (h.kd hl).trans hk
  have hqr : Λ r ≠ q := fun e => by rw [e, hq] at hkr; exact absurd hkr (by decide)
  have hag : ∀ a, mK M a ≠ 0 → a ≠ Λ r → zAg M (zAddG M (Λ r) q v (zrw r)) a := by
    intro a h1 h2
    have hqa : a ≠ q := fun e => h1 (e ▸ hq)
    exact ⟨u1_ne hqa, u1_ne hqa, u1_ne hqa, (u2_ne h2).trans ((u1_ne hqa).trans (u2_ne h2)), (u2_ne h2).trans (u1_ne hqa), u1_ne hqa, (u2_ne hqa).trans (u1_ne hqa), u1_ne hqa, u1_ne hqa⟩
  refine h.add0 hl hk hb' hnew hV hW hT hP hPo hint (fun s hs => u1_ne hs) (fun a h0 h1 _ => hag a h0 h1) (fun a ha => hag a (by omega) (fun e => ?_)) (fun h9 => ?_)
  · rw [e, hkr] at ha
    omega
  · obtain ⟨⟨a1, b1⟩, ⟨a2, a3⟩, a4, -, ⟨a5, a6⟩, -, -⟩ := h9
    obtain ⟨⟨l1, l2, l3, l4, l5⟩, l6⟩ := a4 hk
    have eΛ : u1 Λ (zrw r) q r = Λ r := u1_ne (zbs_ge hr).2
    refine ⟨⟨by rw [eΛ]; exact (u1_ne hqr).trans a1, by rw [eΛ]; exact (u1_ne hqr).trans b1⟩, ⟨fun h => by rw [eΛ]; exact (u1_ne hqr).trans (a2 h), fun k hk2 => ?_⟩, fun _ => ⟨?_, ?_⟩, fun e => ?_, ⟨fun k h1 h2 => by rw [eΛ]; exact (u2_nk h2).trans ((congrFun (u1_ne hqr) k).trans ((u2_nk h1).trans (a5 k h1 h2))), fun j => by rw [eΛ]; exact (congrFun (u1_ne hqr) j).trans (a6 j)⟩, fun i k hi hk2 e => absurd e (zlr_act hb' hr hi hk2), fun j hj e => absurd e (zlr_vis hb' hr hj)⟩
    · have hk3 : k ≠ 129 := fun e => by
        subst e
        exact hk2 rfl
      rw [eΛ, show u1 Λ (zrw r) q (zpt r k) = Λ (zpt r k) from u1_ne (zlv.nrow hb (zpt_lv hb hl hk2) hr)]
      exact (u2_nk hk3).trans ((congrFun (u1_ne hqr) k).trans (a3 k hk2))
    · rw [show zct (sc (cset (sc S) (zci r) (zct (sc S) r + 1), V', W', T', P')) r = 1 from (zct_ci.trans cset_at).trans (by rw [h0]), eΛ, show u1 Λ (zrw r) q (zrw r) = q from u1_at]
      refine ⟨(u1_ne hqr).trans l1, (u2_at : u2 (vI (zNew (sI M (Λ r) 128 (vI M (Λ r) 128 + 1)) q 3 10 (zrw r))) (Λ r) 130 1 (Λ r) 130 = 1), (u2_at : u2 (vR (zNew (sI M (Λ r) 128 (vI M (Λ r) 128 + 1)) q 3 10 (zrw r))) (Λ r) 129 (some q) (Λ r) 129 = some q), Or.inr ⟨u1_at, ?_, ?_, ?_⟩, fun i hi => ?_⟩
      · rw [show mN (zAddG M (Λ r) q v (zrw r)) q = 10 from u1_at]
        decide
      · rw [show mN (zAddG M (Λ r) q v (zrw r)) q = 10 from u1_at]
        decide
      · rw [show mN (zAddG M (Λ r) q v (zrw r)) q = 10 from u1_at]
        decide
      · have e : i = 0 := by omega
        subst e
        refine (u2_at : u2 (aR (zNew (sI M (Λ r) 128 (vI M (Λ r) 128 + 1)) q 3 10 (zrw r))) q 0 (some v) q 0 = some v).trans ?_
        rw [hv, h0]
        exact congrArg some (u1_ne (f := Λ) (zbs_ge hr).1).symm
    · rw [show u1 Λ (zrw r) q (zrw r) = q from u1_at]
      intro _
      exact ⟨u1_at, by rw [show mN (zAddG M (Λ r) q v (zrw r)) q = 10 from u1_at]; decide⟩
    · subst e
      exact absurd hk (by decide)
end ZSTRUCT
