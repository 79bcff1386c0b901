/-! THINGS MADE: what is wanted of roles -/
section ZMADE
variable {Z : zPar} {l : Launch} {Λ Λ' : Nat → Nat} {S : zSt} {M : zMem} {r s k i j a : Nat} {c : Nat → Nat} {d : Nat} {mm : zMeth} {pc n nc ns : Nat} {L : List (Nat × Value)} {st : List Value} {Q : zO → zMem → Prop}
/-- no machine sees the marks -/
theorem zX.mark (g : Nat → Nat) (h : zX Z l d mm pc L st (mK M, mN M, g, vI M, vR M, aI M, aR M, aL M, aD M) nc ns Q) : zX Z l d mm pc L st M nc ns Q := by
  intro p e R s m args below meth c H locs cells slots QF ls C hl hM
  exact h p e R s m args below meth c H locs cells slots QF ls C hl hM
theorem zpt_dom (hk : zpt r k ≠ 0) : r < 9 ∨ (100 ≤ r ∧ r < 110) ∨ r = 1001 ∨ (1100 ≤ r ∧ r < 1110) := by
  unfold zpt at hk
  by_cases k5 : k < 512
  · rw [if_pos k5] at hk
    by_cases e384 : k = 384
    · rw [if_pos e384] at hk
      have e := zif hk
      omega
    rw [if_neg e384] at hk
    by_cases e385 : k = 385
    · rw [if_pos e385] at hk
      have e := zif hk
      omega
    rw [if_neg e385] at hk
    by_cases e192 : k = 192
    · rw [if_pos e192] at hk
      have e := zif hk
      omega
    rw [if_neg e192] at hk
    by_cases e193 : k = 193
    · rw [if_pos e193] at hk
      have e := zif hk
      omega
    rw [if_neg e193] at hk
    by_cases e320 : k = 320
    · rw [if_pos e320] at hk
      have e := zif hk
      omega
    rw [if_neg e320] at hk
    by_cases e321 : k = 321
    · rw [if_pos e321] at hk
      have e := zif hk
      omega
    rw [if_neg e321] at hk
    by_cases e322 : k = 322
    · rw [if_pos e322] at hk
      have e := zif hk
      omega
    rw [if_neg e322] at hk
    by_cases e224 : k = 224
    · rw [if_pos e224] at hk
      have e := zif hk
      omega
    rw [if_neg e224] at hk
    by_cases e225 : k = 225
    · rw [if_pos e225] at hk
      have e := zif hk
      omega
    rw [if_neg e225] at hk
    by_cases e226 : k = 226
    · rw [if_pos e226] at hk
      have e := zif hk
      omega
    rw [if_neg e226] at hk
    by_cases e227 : k = 227
    · rw [if_pos e227] at hk
      have e := zif hk
      omega
    rw [if_neg e227] at hk
    by_cases e256 : k = 256
    · rw [if_pos e256] at hk
      have e := zif hk
      omega
    rw [if_neg e256] at hk
    by_cases e355 : k = 355
    · rw [if_pos e355] at hk
      have e := zif hk
      omega
    rw [if_neg e355] at hk
    by_cases e356 : k = 356
    · rw [if_pos e356] at hk
      have e := zif hk
      omega
    rw [if_neg e356] at hk
    exact absurd rfl hk
  · rw [if_neg k5] at hk
    by_cases k6 : k < 519
    · rw [if_pos k6] at hk
      have e := zif hk
      omega
    rw [if_neg k6] at hk
    by_cases e579 : k = 579
    · rw [if_pos e579] at hk
      have e := zif hk
      omega
    rw [if_neg e579] at hk
    by_cases e580 : k = 580
    · rw [if_pos e580] at hk
      have e := zif hk
      omega
    rw [if_neg e580] at hk
    by_cases k7 : 673 ≤ k ∧ k ≤ 678
    · rw [if_pos k7] at hk
      have e := zif hk
      omega
    rw [if_neg k7] at hk
    exact absurd rfl hk
theorem zlvA_new (hl : zlv (cset c 1 (c 1 + 1)) s) (hn : ¬ zlv c s) : s = 140 + c 1 := by
  rcases hl with h | h
  · rcases h with h | ⟨i, hi, h⟩ | ⟨i, hi, h⟩ | ⟨i, hi, h⟩ | ⟨i, k, hi, hk, h⟩
    · exact absurd (Or.inl (Or.inl h)) hn
    · exact absurd (Or.inl (Or.inr (Or.inl ⟨i, hi, h⟩))) hn
    · rw [show cset c 1 (c 1 + 1) 1 = c 1 + 1 from cset_at] at hi
      by_cases e : i < c 1
      · exact absurd (Or.inl (Or.inr (Or.inr (Or.inl ⟨i, e, h⟩)))) hn
      · omega
    · exact absurd (Or.inl (Or.inr (Or.inr (Or.inr (Or.inl ⟨i, hi, h⟩))))) hn
    · rw [show cset c 1 (c 1 + 1) (10 + i) = c (10 + i) from cset_ne (by omega)] at hk
      exact absurd (Or.inl (Or.inr (Or.inr (Or.inr (Or.inr ⟨i, k, hi, hk, h⟩))))) hn
  · rcases h with h | ⟨i, hi, h⟩ | ⟨i, hi, h⟩ | ⟨i, hi, h⟩ | ⟨i, k, hi, hk, h⟩
    · exact absurd (Or.inr (Or.inl h)) hn
    · exact absurd (Or.inr (Or.inr (Or.inl ⟨i, hi, h⟩))) hn
    · exact absurd (Or.inr (Or.inr (Or.inr (Or.inl ⟨i, hi, h⟩)))) hn
    · exact absurd (Or.inr (Or.inr (Or.inr (Or.inr (Or.inl ⟨i, hi, h⟩))))) hn
    · rw [show cset c 1 (c 1 + 1) (1010 + i) = c (1010 + i) from cset_ne (by omega)] at hk
      exact absurd (Or.inr (Or.inr (Or.inr (Or.inr (Or.inr ⟨i, k, hi, hk, h⟩))))) hn
theorem zlvV_new (hl : zlv (cset c 2 (c 2 + 1)) s) (hn : ¬ zlv c s) : s = 150 + c 2 := by
  rcases hl with h | h
  · rcases h with h | ⟨i, hi, h⟩ | ⟨i, hi, h⟩ | ⟨i, hi, h⟩ | ⟨i, k, hi, hk, h⟩
    · exact absurd (Or.inl (Or.inl h)) hn
    · exact absurd (Or.inl (Or.inr (Or.inl ⟨i, hi, h⟩))) hn
    · exact absurd (Or.inl (Or.inr (Or.inr (Or.inl ⟨i, hi, h⟩)))) hn
    · rw [show cset c 2 (c 2 + 1) 2 = c 2 + 1 from cset_at] at hi
      by_cases e : i < c 2
      · exact absurd (Or.inl (Or.inr (Or.inr (Or.inr (Or.inl ⟨i, e, h⟩))))) hn
      · omega
    · rw [show cset c 2 (c 2 + 1) (10 + i) = c (10 + i) from cset_ne (by omega)] at hk
      exact absurd (Or.inl (Or.inr (Or.inr (Or.inr (Or.inr ⟨i, k, hi, hk, h⟩))))) hn
  · rcases h with h | ⟨i, hi, h⟩ | ⟨i, hi, h⟩ | ⟨i, hi, h⟩ | ⟨i, k, hi, hk, h⟩
    · exact absurd (Or.inr (Or.inl h)) hn
    · exact absurd (Or.inr (Or.inr (Or.inl ⟨i, hi, h⟩))) hn
    · exact absurd (Or.inr (Or.inr (Or.inr (Or.inl ⟨i, hi, h⟩)))) hn
    · exact absurd (Or.inr (Or.inr (Or.inr (Or.inr (Or.inl ⟨i, hi, h⟩))))) hn
    · rw [show cset c 2 (c 2 + 1) (1010 + i) = c (1010 + i) from cset_ne (by omega)] at hk
      exact absurd (Or.inr (Or.inr (Or.inr (Or.inr (Or.inr ⟨i, k, hi, hk, h⟩))))) hn
end ZMADE
