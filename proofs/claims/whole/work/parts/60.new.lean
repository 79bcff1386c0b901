/-! A NEW OBJECT of the class -/
section ZNEW
variable {Z : zPar} {l : Launch} {M0 M : zMem} {Λ Λ' : Nat → Nat} {S : zSt}
theorem zRp_live {kx : Nat} {V' W' : Nat → Nat → Int32} (hkx : kx = 3 ∨ kx = 4) (h : zRp Z Λ S M) (hnew : ∀ s, zlv (cset (sc S) kx 1) s → ¬ zlv (sc S) s → zOne Z Λ (cset (sc S) kx 1, V', W', sT S, sP S) M s) (hV : ∀ s, zlv (sc S) s → ∀ k, k ≠ 128 → k ≠ 130 → V' s k = sV S s k) (hW : ∀ s, zlv (sc S) s → ∀ j, W' s j = sW S s j) (hint : zInts Λ (cset (sc S) kx 1, V', W', sT S, sP S) M) : zRp Z Λ (cset (sc S) kx 1, V', W', sT S, sP S) M := by
  have hb := h.bnd
  have hc : ∀ k, k ≠ 3 → k ≠ 4 → cset (sc S) kx 1 k = sc S k := fun k h1 h2 => cset_ne (by omega)
  have hb' : zBnd (cset (sc S) kx 1) := by
    obtain ⟨⟨h1, h2, h3, h4⟩, ⟨h5, h6, h7, h8, h9⟩, h10⟩ := hb
    refine ⟨⟨?_, ?_, ?_, fun i => ?_⟩, ⟨?_, ?_, ?_, ?_, ?_⟩, fun i => ?_⟩
    all_goals (rw [hc _ (by omega) (by omega)])
    · exact h1
    · exact h2
    · exact h3
    · exact h4 i
    · exact h5
    · exact h6
    · exact h7
    · exact h8
    · exact h9
    · exact h10 i
  refine zRp.of hb' (fun s hs => ?_) hint ⟨⟨fun h5 => h.outs.1 ((hc 5 (by decide) (by decide)).symm.trans h5), h.outs.2⟩, h.emp⟩
  by_cases ho : zlv (sc S) s
  · refine (h.one ho).keep hb ho (fun _ _ => rfl) (fun _ => rfl) ⟨rfl, rfl, rfl, rfl, rfl, rfl, rfl, rfl, rfl⟩ (fun _ => ⟨rfl, rfl, rfl, rfl, rfl, rfl, rfl, rfl, rfl⟩) (fun hk => ?_) (hV s ho) (hW s ho) (fun i k hi hk _ => ⟨by rw [← hc 0 (by decide) (by decide)]; exact hi, by rw [← hc (10 + i) (by omega) (by omega)]; exact hk, rfl, Nat.le_of_eq (hc 1 (by decide) (by decide)).symm⟩) (fun j hj _ => ⟨by rw [← hc 2 (by decide) (by decide)]; exact hj, rfl, Nat.le_of_eq (hc 0 (by decide) (by decide)).symm⟩)
    rw [zct_ci, zct_ci]
    have := (zlr_of hk).ci
    exact hc _ this.1 this.2.1
  · exact hnew s hs ho
theorem zRp_start (h : zEmp Z M) {V W : Nat → Nat → Int32} {T : Nat → Nat → Nat} {P : Nat → Nat} (hP : P 1010 ≠ 1) : zRp Z Λ ((fun _ => 0), V, W, T, P) M := by
  refine zRp.of ⟨⟨Nat.zero_le _, Nat.zero_le _, Nat.zero_le _, fun _ => Nat.zero_le _⟩, ⟨Nat.zero_le _, Nat.zero_le _, Nat.zero_le _, Nat.zero_le _, Nat.zero_le _⟩, fun _ => Nat.zero_le _⟩ (fun s hs => ?_) ⟨fun i hi => absurd hi (Nat.not_lt_zero _), fun i hi => absurd hi (Nat.not_lt_zero _)⟩ ⟨⟨fun h5 => absurd h5 (by show ¬ (0 = 1); decide), fun h9 => absurd h9 hP⟩, h⟩
  exfalso
  rcases hs with hs | hs
  · rcases hs with ⟨h3, -⟩ | ⟨i, hi, -⟩ | ⟨i, hi, -⟩ | ⟨i, hi, -⟩ | ⟨i, k, hi, -, -⟩
    · exact absurd h3 (by show ¬ (0 = 1); decide)
    · exact absurd hi (Nat.not_lt_zero _)
    · exact absurd hi (Nat.not_lt_zero _)
    · exact absurd hi (Nat.not_lt_zero _)
    · exact absurd hi (Nat.not_lt_zero _)
  · rcases hs with ⟨h3, -⟩ | ⟨i, hi, -⟩ | ⟨i, hi, -⟩ | ⟨i, hi, -⟩ | ⟨i, k, hi, -, -⟩
    · exact absurd h3 (by show ¬ (0 = 1); decide)
    · exact absurd hi (Nat.not_lt_zero _)
    · exact absurd hi (Nat.not_lt_zero _)
    · exact absurd hi (Nat.not_lt_zero _)
    · exact absurd hi (Nat.not_lt_zero _)
def fV0 (r k : Nat) : Int32 := if r = 4 ∧ k = 325 then 1 else if r = 5 ∧ k = 481 then -1 else if r = 6 ∧ k = 288 then 99 else 0
theorem zlv_c3 {c : Nat → Nat} {s : Nat} (hb : zBnd c) (hl : zlv (cset c 3 1) s) (hn : ¬ zlv c s) : (1 ≤ s ∧ s ≤ 15) ∨ s = 17 ∨ s = 19 := by
  have hc : ∀ k, k ≠ 3 → cset c 3 1 k = c k := fun k h1 => cset_ne h1
  rcases hl with h | h
  · rcases h with ⟨-, h⟩ | ⟨i, hi, h⟩ | ⟨i, hi, h⟩ | ⟨i, hi, h⟩ | ⟨i, k, hi, hk, h⟩
    · exact h
    · rw [hc _ (by omega)] at hi
      exact absurd (Or.inl (Or.inr (Or.inl ⟨i, hi, h⟩))) hn
    · rw [hc _ (by omega)] at hi
      exact absurd (Or.inl (Or.inr (Or.inr (Or.inl ⟨i, hi, h⟩)))) hn
    · rw [hc _ (by omega)] at hi
      exact absurd (Or.inl (Or.inr (Or.inr (Or.inr (Or.inl ⟨i, hi, h⟩))))) hn
    · rw [hc _ (by omega)] at hi hk
      exact absurd (Or.inl (Or.inr (Or.inr (Or.inr (Or.inr ⟨i, k, hi, hk, h⟩))))) hn
  · rcases h with ⟨h4, h⟩ | ⟨i, hi, h⟩ | ⟨i, hi, h⟩ | ⟨i, hi, h⟩ | ⟨i, k, hi, hk, h⟩
    · rw [hc _ (by omega)] at h4
      exact absurd (Or.inr (Or.inl ⟨h4, h⟩)) hn
    · rw [hc _ (by omega)] at hi
      exact absurd (Or.inr (Or.inr (Or.inl ⟨i, hi, h⟩))) hn
    · rw [hc _ (by omega)] at hi
      exact absurd (Or.inr (Or.inr (Or.inr (Or.inl ⟨i, hi, h⟩)))) hn
    · rw [hc _ (by omega)] at hi
      exact absurd (Or.inr (Or.inr (Or.inr (Or.inr (Or.inl ⟨i, hi, h⟩))))) hn
    · rw [hc _ (by omega)] at hi hk
      exact absurd (Or.inr (Or.inr (Or.inr (Or.inr (Or.inr ⟨i, k, hi, hk, h⟩))))) hn
theorem zpt_1 {k : Nat} (h : zpt 1 k ≠ 0) : k = 512 ∨ k = 513 ∨ k = 514 ∨ k = 515 ∨ k = 516 ∨ k = 517 ∨ k = 518 := by
  unfold zpt at h
  simp at h
  omega
theorem zpt_2 {k : Nat} (h : zpt 2 k ≠ 0) : k = 384 ∨ k = 385 := by
  apply Classical.byContradiction
  intro hne
  apply h
  simp only [not_or] at hne
  obtain ⟨a384, a385⟩ := hne
  unfold zpt
  simp [a384, a385]
theorem zpt_3 {k : Nat} (h : zpt 3 k ≠ 0) : k = 192 ∨ k = 193 := by
  apply Classical.byContradiction
  intro hne
  apply h
  simp only [not_or] at hne
  obtain ⟨a192, a193⟩ := hne
  unfold zpt
  simp [a192, a193]
theorem zpt_4 {k : Nat} (h : zpt 4 k ≠ 0) : k = 320 ∨ k = 321 ∨ k = 322 := by
  apply Classical.byContradiction
  intro hne
  apply h
  simp only [not_or] at hne
  obtain ⟨a320, a321, a322⟩ := hne
  unfold zpt
  simp [a320, a321, a322]
theorem zpt_7 {k : Nat} (h : zpt 7 k ≠ 0) : k = 224 ∨ k = 225 ∨ k = 226 ∨ k = 227 := by
  apply Classical.byContradiction
  intro hne
  apply h
  simp only [not_or] at hne
  obtain ⟨a224, a225, a226, a227⟩ := hne
  unfold zpt
  simp [a224, a225, a226, a227]
theorem zpt_8 {k : Nat} (h : zpt 8 k ≠ 0) : k = 256 := by
  unfold zpt at h
  simp at h
  omega
set_option maxHeartbeats 4000000 in
set_option maxRecDepth 20000 in
theorem z_newX {q q0 q1 q2 q3 q4 q5 q6 q7 q8 q9 q10 q11 q12 q13 q14 q15 : Nat} (hR : zRp Z Λ S M0) (hP : zPic M0 (u1 (u1 (u1 (u1 (u1 (u1 (u1 (u1 (u1 (u1 (u1 (u1 (u1 (u1 (u1 (u1 (u1 Λ 1 q) 2 q0) 15 q1) 17 q2) 3 q3) 9 q4) 10 q5) 4 q6) 11 q7) 12 q8) 13 q9) 5 q10) 6 q11) 7 q12) 19 q13) 8 q14) 14 q15) (pSR (pSR (pNew (pNew (pSR (pSR (pSR (pSI (pNew (pSR (pSR (pSR (pNew (pSR (pSI (pNew (pSR (pSI (pNew (pSR (pSI (pSR (pNew (pSR (pNew (pSR (pNew (pNew (pSR (pSR (pNew (pSR (pNew (pNew (pSR (pSR (pSR (pSI (pNew (pSR (pSR (pSI (pNew (pNew (pNew p0 1 26 0) 2 22 0) 15 14 0) 15 128 0) 15 129 (some (zPe Z))) 2 384 (some q1)) 17 14 0) 17 128 0) 17 129 (some (zPe Z))) 2 385 (some q2)) 1 512 (some q0)) 3 16 0) 9 1 8) 3 192 (some q4)) 10 1 256) 3 193 (some q5)) 1 513 (some q3)) 4 20 0) 11 1 8) 4 320 (some q7)) 12 1 8) 4 321 (some q8)) 13 1 8) 4 322 (some q9)) 4 325 1) 1 514 (some q6)) 5 25 0) 5 481 (-1)) 1 515 (some q10)) 6 19 0) 6 288 99) 1 516 (some q11)) 7 17 0) 7 224 (some q0)) 7 225 (some q10)) 7 226 (some q11)) 19 14 0) 19 128 0) 19 129 (some (zPe Z))) 7 227 (some q13)) 1 517 (some q12)) 8 18 0) 14 1 10) 8 256 (some q15)) 1 518 (some q14)) M) (h3 : sc S 3 = 0) (h0 : sc S 0 = 0) (h1 : sc S 1 = 0) (h2 : sc S 2 = 0) (hlow : ∀ s, zlv (sc S) s → 100 ≤ s) : zRp Z (u1 (u1 (u1 (u1 (u1 (u1 (u1 (u1 (u1 (u1 (u1 (u1 (u1 (u1 (u1 (u1 (u1 (u1 (u1 (u1 Λ 1 q) 2 q0) 15 q1) 17 q2) 3 q3) 9 q4) 10 q5) 4 q6) 11 q7) 12 q8) 13 q9) 5 q10) 6 q11) 7 q12) 19 q13) 8 q14) 14 q15) 16 (zPe Z)) 18 (zPe Z)) 20 (zPe Z)) (cset (sc S) 3 1, (fun r k => if r < 20 then fV0 r k else sV S r k), (fun r k => if r < 20 then 0 else sW S r k), sT S, sP S) M := by
  have hb := hR.bnd
  have hus : ∀ s, zus (sc S) s → 20 < s := by
    intro s hs
    rcases hs with hs | ⟨i, hi, h⟩ | ⟨i, hi, h⟩
    · have := hlow s hs
      omega
    · omega
    · omega
  have hG : zRp Z (u1 (u1 (u1 (u1 (u1 (u1 (u1 (u1 (u1 (u1 (u1 (u1 (u1 (u1 (u1 (u1 (u1 (u1 (u1 (u1 Λ 1 q) 2 q0) 15 q1) 17 q2) 3 q3) 9 q4) 10 q5) 4 q6) 11 q7) 12 q8) 13 q9) 5 q10) 6 q11) 7 q12) 19 q13) 8 q14) 14 q15) 16 (zPe Z)) 18 (zPe Z)) 20 (zPe Z)) S M := by
    refine hR.grow (fun s hs => ?_) ⟨rfl, rfl⟩ (fun r hr hk => ?_) hP.1
    · have := hus s hs
      simp only [u1, show ∀ j, j ≤ 20 → (s = j) = False from fun j hj => by simp; omega, Nat.le_refl, Nat.reduceLeDiff, if_false]
    · have h1 := hlow r hr
      have h2 := zrw_val (zlr_of hk)
      have h3 : 100 ≤ zrw r := by
        unfold zrw
        split <;> omega
      simp only [u1, show ∀ j, j ≤ 20 → (zrw r = j) = False from fun j hj => by simp; omega, Nat.le_refl, Nat.reduceLeDiff, if_false]
  refine zRp_live (Or.inl rfl) hG (fun s hs hns => ?_) (fun s hs k _ _ => ?_) (fun s hs j => ?_) (hG.ints.same (show cset (sc S) 3 1 1003 = sc S 1003 from cset_ne (by decide)) (show cset (sc S) 3 1 6 = sc S 6 from cset_ne (by decide)) (fun s hs => if_neg (by omega)))
  · have h9 := zlv_c3 hb hs hns
    have hc3 : ∀ k, k ≠ 3 → cset (sc S) 3 1 k = sc S k := fun k h1 => cset_ne h1
    have hl0 : zct (cset (sc S) 3 1) 15 = 0 ∧ zct (cset (sc S) 3 1) 17 = 0 ∧ zct (cset (sc S) 3 1) 19 = 0 := ⟨(hc3 0 (by decide)).trans h0, (hc3 1 (by decide)).trans h1, (hc3 2 (by decide)).trans h2⟩
    have hs20 : s < 20 := by omega
    rcases (show s = 1 ∨ s = 2 ∨ s = 3 ∨ s = 4 ∨ s = 5 ∨ s = 6 ∨ s = 7 ∨ s = 8 ∨ s = 9 ∨ s = 10 ∨ s = 11 ∨ s = 12 ∨ s = 13 ∨ s = 14 ∨ s = 15 ∨ s = 17 ∨ s = 19 from by omega) with rfl | rfl | rfl | rfl | rfl | rfl | rfl | rfl | rfl | rfl | rfl | rfl | rfl | rfl | rfl | rfl | rfl
    · have hp := hP.2 1 rfl
      obtain ⟨⟨-, -, p1, p2, p3⟩, p4, p5, p6, -⟩ := hp
      refine ⟨⟨p1, p3⟩, ⟨fun _ => p2, fun k hk => ?_⟩, fun h => ?_, fun h => absurd h (by decide), ⟨fun k h1 h2 => (congrFun p4 k).trans ?_, fun j => (congrFun p6 j).trans ?_⟩, fun i k _ _ h => absurd h (by omega), fun j _ h => absurd h (by omega)⟩
      · rcases zpt_1 hk with rfl | rfl | rfl | rfl | rfl | rfl | rfl
        · exact congrFun p5 512
        · exact congrFun p5 513
        · exact congrFun p5 514
        · exact congrFun p5 515
        · exact congrFun p5 516
        · exact congrFun p5 517
        · exact congrFun p5 518
      · exact absurd h (by decide)
      · show _ = (if 1 < 20 then fV0 1 k else sV S 1 k)
        simp [u1, u2, fV0, h1, h2]
      · show _ = (if 1 < 20 then (0 : Int32) else sW S 1 j)
        simp [u1, u2]
    · have hp := hP.2 2 rfl
      obtain ⟨⟨-, -, p1, p2, p3⟩, p4, p5, p6, -⟩ := hp
      refine ⟨⟨p1, p3⟩, ⟨fun _ => p2, fun k hk => ?_⟩, fun h => ?_, fun h => absurd h (by decide), ⟨fun k h1 h2 => (congrFun p4 k).trans ?_, fun j => (congrFun p6 j).trans ?_⟩, fun i k _ _ h => absurd h (by omega), fun j _ h => absurd h (by omega)⟩
      · rcases zpt_2 hk with rfl | rfl
        · exact congrFun p5 384
        · exact congrFun p5 385
      · exact absurd h (by decide)
      · show _ = (if 2 < 20 then fV0 2 k else sV S 2 k)
        simp [u1, u2, fV0, h1, h2]
      · show _ = (if 2 < 20 then (0 : Int32) else sW S 2 j)
        simp [u1, u2]
    · have hp := hP.2 3 rfl
      obtain ⟨⟨-, -, p1, p2, p3⟩, p4, p5, p6, -⟩ := hp
      refine ⟨⟨p1, p3⟩, ⟨fun _ => p2, fun k hk => ?_⟩, fun h => ?_, fun h => absurd h (by decide), ⟨fun k h1 h2 => (congrFun p4 k).trans ?_, fun j => (congrFun p6 j).trans ?_⟩, fun i k _ _ h => absurd h (by omega), fun j _ h => absurd h (by omega)⟩
      · rcases zpt_3 hk with rfl | rfl
        · exact congrFun p5 192
        · exact congrFun p5 193
      · exact absurd h (by decide)
      · show _ = (if 3 < 20 then fV0 3 k else sV S 3 k)
        simp [u1, u2, fV0, h1, h2]
      · show _ = (if 3 < 20 then (0 : Int32) else sW S 3 j)
        simp [u1, u2]
    · have hp := hP.2 4 rfl
      obtain ⟨⟨-, -, p1, p2, p3⟩, p4, p5, p6, -⟩ := hp
      refine ⟨⟨p1, p3⟩, ⟨fun _ => p2, fun k hk => ?_⟩, fun h => ?_, fun h => absurd h (by decide), ⟨fun k h1 h2 => (congrFun p4 k).trans ?_, fun j => (congrFun p6 j).trans ?_⟩, fun i k _ _ h => absurd h (by omega), fun j _ h => absurd h (by omega)⟩
      · rcases zpt_4 hk with rfl | rfl | rfl
        · exact congrFun p5 320
        · exact congrFun p5 321
        · exact congrFun p5 322
      · exact absurd h (by decide)
      · show _ = (if 4 < 20 then fV0 4 k else sV S 4 k)
        simp [u1, u2, fV0, h1, h2]
      · show _ = (if 4 < 20 then (0 : Int32) else sW S 4 j)
        simp [u1, u2]
    · have hp := hP.2 5 rfl
      obtain ⟨⟨-, -, p1, p2, p3⟩, p4, p5, p6, -⟩ := hp
      refine ⟨⟨p1, p3⟩, ⟨fun _ => p2, fun k hk => ?_⟩, fun h => ?_, fun h => absurd h (by decide), ⟨fun k h1 h2 => (congrFun p4 k).trans ?_, fun j => (congrFun p6 j).trans ?_⟩, fun i k _ _ h => absurd h (by omega), fun j _ h => absurd h (by omega)⟩
      · exact absurd (by unfold zpt; simp) hk
      · exact absurd h (by decide)
      · show _ = (if 5 < 20 then fV0 5 k else sV S 5 k)
        simp [u1, u2, fV0, h1, h2]
      · show _ = (if 5 < 20 then (0 : Int32) else sW S 5 j)
        simp [u1, u2]
    · have hp := hP.2 6 rfl
      obtain ⟨⟨-, -, p1, p2, p3⟩, p4, p5, p6, -⟩ := hp
      refine ⟨⟨p1, p3⟩, ⟨fun _ => p2, fun k hk => ?_⟩, fun h => ?_, fun h => absurd h (by decide), ⟨fun k h1 h2 => (congrFun p4 k).trans ?_, fun j => (congrFun p6 j).trans ?_⟩, fun i k _ _ h => absurd h (by omega), fun j _ h => absurd h (by omega)⟩
      · exact absurd (by unfold zpt; simp) hk
      · exact absurd h (by decide)
      · show _ = (if 6 < 20 then fV0 6 k else sV S 6 k)
        simp [u1, u2, fV0, h1, h2]
      · show _ = (if 6 < 20 then (0 : Int32) else sW S 6 j)
        simp [u1, u2]
    · have hp := hP.2 7 rfl
      obtain ⟨⟨-, -, p1, p2, p3⟩, p4, p5, p6, -⟩ := hp
      refine ⟨⟨p1, p3⟩, ⟨fun _ => p2, fun k hk => ?_⟩, fun h => ?_, fun h => absurd h (by decide), ⟨fun k h1 h2 => (congrFun p4 k).trans ?_, fun j => (congrFun p6 j).trans ?_⟩, fun i k _ _ h => absurd h (by omega), fun j _ h => absurd h (by omega)⟩
      · rcases zpt_7 hk with rfl | rfl | rfl | rfl
        · exact congrFun p5 224
        · exact congrFun p5 225
        · exact congrFun p5 226
        · exact congrFun p5 227
      · exact absurd h (by decide)
      · show _ = (if 7 < 20 then fV0 7 k else sV S 7 k)
        simp [u1, u2, fV0, h1, h2]
      · show _ = (if 7 < 20 then (0 : Int32) else sW S 7 j)
        simp [u1, u2]
    · have hp := hP.2 8 rfl
      obtain ⟨⟨-, -, p1, p2, p3⟩, p4, p5, p6, -⟩ := hp
      refine ⟨⟨p1, p3⟩, ⟨fun _ => p2, fun k hk => ?_⟩, fun h => ?_, fun h => absurd h (by decide), ⟨fun k h1 h2 => (congrFun p4 k).trans ?_, fun j => (congrFun p6 j).trans ?_⟩, fun i k _ _ h => absurd h (by omega), fun j _ h => absurd h (by omega)⟩
      · obtain rfl := zpt_8 hk
        exact congrFun p5 256
      · exact absurd h (by decide)
      · show _ = (if 8 < 20 then fV0 8 k else sV S 8 k)
        simp [u1, u2, fV0, h1, h2]
      · show _ = (if 8 < 20 then (0 : Int32) else sW S 8 j)
        simp [u1, u2]
    · have hp := hP.2 9 rfl
      obtain ⟨⟨-, -, p1, p2, p3⟩, p4, p5, p6, -⟩ := hp
      refine ⟨⟨p1, p3⟩, ⟨fun _ => p2, fun k hk => ?_⟩, fun h => ?_, fun h => absurd h (by decide), ⟨fun k h1 h2 => (congrFun p4 k).trans ?_, fun j => (congrFun p6 j).trans ?_⟩, fun i k _ _ h => absurd h (by omega), fun j _ h => absurd h (by omega)⟩
      · have := zpt_dom hk
        omega
      · exact absurd h (by decide)
      · show _ = (if 9 < 20 then fV0 9 k else sV S 9 k)
        simp [u1, u2, fV0, h1, h2]
      · show _ = (if 9 < 20 then (0 : Int32) else sW S 9 j)
        simp [u1, u2]
    · have hp := hP.2 10 rfl
      obtain ⟨⟨-, -, p1, p2, p3⟩, p4, p5, p6, -⟩ := hp
      refine ⟨⟨p1, p3⟩, ⟨fun _ => p2, fun k hk => ?_⟩, fun h => ?_, fun h => absurd h (by decide), ⟨fun k h1 h2 => (congrFun p4 k).trans ?_, fun j => (congrFun p6 j).trans ?_⟩, fun i k _ _ h => absurd h (by omega), fun j _ h => absurd h (by omega)⟩
      · have := zpt_dom hk
        omega
      · exact absurd h (by decide)
      · show _ = (if 10 < 20 then fV0 10 k else sV S 10 k)
        simp [u1, u2, fV0, h1, h2]
      · show _ = (if 10 < 20 then (0 : Int32) else sW S 10 j)
        simp [u1, u2]
    · have hp := hP.2 11 rfl
      obtain ⟨⟨-, -, p1, p2, p3⟩, p4, p5, p6, -⟩ := hp
      refine ⟨⟨p1, p3⟩, ⟨fun _ => p2, fun k hk => ?_⟩, fun h => ?_, fun h => absurd h (by decide), ⟨fun k h1 h2 => (congrFun p4 k).trans ?_, fun j => (congrFun p6 j).trans ?_⟩, fun i k _ _ h => absurd h (by omega), fun j _ h => absurd h (by omega)⟩
      · have := zpt_dom hk
        omega
      · exact absurd h (by decide)
      · show _ = (if 11 < 20 then fV0 11 k else sV S 11 k)
        simp [u1, u2, fV0, h1, h2]
      · show _ = (if 11 < 20 then (0 : Int32) else sW S 11 j)
        simp [u1, u2]
    · have hp := hP.2 12 rfl
      obtain ⟨⟨-, -, p1, p2, p3⟩, p4, p5, p6, -⟩ := hp
      refine ⟨⟨p1, p3⟩, ⟨fun _ => p2, fun k hk => ?_⟩, fun h => ?_, fun h => absurd h (by decide), ⟨fun k h1 h2 => (congrFun p4 k).trans ?_, fun j => (congrFun p6 j).trans ?_⟩, fun i k _ _ h => absurd h (by omega), fun j _ h => absurd h (by omega)⟩
      · have := zpt_dom hk
        omega
      · exact absurd h (by decide)
      · show _ = (if 12 < 20 then fV0 12 k else sV S 12 k)
        simp [u1, u2, fV0, h1, h2]
      · show _ = (if 12 < 20 then (0 : Int32) else sW S 12 j)
        simp [u1, u2]
    · have hp := hP.2 13 rfl
      obtain ⟨⟨-, -, p1, p2, p3⟩, p4, p5, p6, -⟩ := hp
      refine ⟨⟨p1, p3⟩, ⟨fun _ => p2, fun k hk => ?_⟩, fun h => ?_, fun h => absurd h (by decide), ⟨fun k h1 h2 => (congrFun p4 k).trans ?_, fun j => (congrFun p6 j).trans ?_⟩, fun i k _ _ h => absurd h (by omega), fun j _ h => absurd h (by omega)⟩
      · have := zpt_dom hk
        omega
      · exact absurd h (by decide)
      · show _ = (if 13 < 20 then fV0 13 k else sV S 13 k)
        simp [u1, u2, fV0, h1, h2]
      · show _ = (if 13 < 20 then (0 : Int32) else sW S 13 j)
        simp [u1, u2]
    · have hp := hP.2 14 rfl
      obtain ⟨⟨-, -, p1, p2, p3⟩, p4, p5, p6, -⟩ := hp
      refine ⟨⟨p1, p3⟩, ⟨fun _ => p2, fun k hk => ?_⟩, fun h => ?_, fun h => absurd h (by decide), ⟨fun k h1 h2 => (congrFun p4 k).trans ?_, fun j => (congrFun p6 j).trans ?_⟩, fun i k _ _ h => absurd h (by omega), fun j _ h => absurd h (by omega)⟩
      · have := zpt_dom hk
        omega
      · exact absurd h (by decide)
      · show _ = (if 14 < 20 then fV0 14 k else sV S 14 k)
        simp [u1, u2, fV0, h1, h2]
      · show _ = (if 14 < 20 then (0 : Int32) else sW S 14 j)
        simp [u1, u2]
    · have hp := hP.2 15 rfl
      obtain ⟨⟨-, -, p1, p2, p3⟩, p4, p5, p6, -⟩ := hp
      refine ⟨⟨p1, p3⟩, ⟨fun _ => p2, fun k hk => ?_⟩, fun h => ?_, fun h => absurd h (by decide), ⟨fun k h1 h2 => (congrFun p4 k).trans ?_, fun j => (congrFun p6 j).trans ?_⟩, fun i k _ _ h => absurd h (by omega), fun j _ h => absurd h (by omega)⟩
      · have := zpt_dom hk
        omega
      · refine ⟨⟨p1, ?_, congrFun p5 129, Or.inl ⟨hG.emp.1, hG.emp.2.1, ?_, rfl⟩, fun i hi => ?_⟩, fun h3 => absurd (hG.emp.1.symm.trans h3) (by decide)⟩
        · rw [show zct (sc (cset (sc S) 3 1, (fun r k => if r < 20 then fV0 r k else sV S r k), (fun r k => if r < 20 then 0 else sW S r k), sT S, sP S)) 15 = 0 from hl0.1]
          exact congrFun p4 130
        · exact hl0.1
        · rw [show zct (sc (cset (sc S) 3 1, (fun r k => if r < 20 then fV0 r k else sV S r k), (fun r k => if r < 20 then 0 else sW S r k), sT S, sP S)) 15 = 0 from hl0.1] at hi
          exact absurd hi (Nat.not_lt_zero _)
      · show _ = (if 15 < 20 then fV0 15 k else sV S 15 k)
        simp [u1, u2, fV0, h1, h2]
      · show _ = (if 15 < 20 then (0 : Int32) else sW S 15 j)
        simp [u1, u2]
    · have hp := hP.2 17 rfl
      obtain ⟨⟨-, -, p1, p2, p3⟩, p4, p5, p6, -⟩ := hp
      refine ⟨⟨p1, p3⟩, ⟨fun _ => p2, fun k hk => ?_⟩, fun h => ?_, fun h => absurd h (by decide), ⟨fun k h1 h2 => (congrFun p4 k).trans ?_, fun j => (congrFun p6 j).trans ?_⟩, fun i k _ _ h => absurd h (by omega), fun j _ h => absurd h (by omega)⟩
      · have := zpt_dom hk
        omega
      · refine ⟨⟨p1, ?_, congrFun p5 129, Or.inl ⟨hG.emp.1, hG.emp.2.1, ?_, rfl⟩, fun i hi => ?_⟩, fun h3 => absurd (hG.emp.1.symm.trans h3) (by decide)⟩
        · rw [show zct (sc (cset (sc S) 3 1, (fun r k => if r < 20 then fV0 r k else sV S r k), (fun r k => if r < 20 then 0 else sW S r k), sT S, sP S)) 17 = 0 from hl0.2.1]
          exact congrFun p4 130
        · exact hl0.2.1
        · rw [show zct (sc (cset (sc S) 3 1, (fun r k => if r < 20 then fV0 r k else sV S r k), (fun r k => if r < 20 then 0 else sW S r k), sT S, sP S)) 17 = 0 from hl0.2.1] at hi
          exact absurd hi (Nat.not_lt_zero _)
      · show _ = (if 17 < 20 then fV0 17 k else sV S 17 k)
        simp [u1, u2, fV0, h1, h2]
      · show _ = (if 17 < 20 then (0 : Int32) else sW S 17 j)
        simp [u1, u2]
    · have hp := hP.2 19 rfl
      obtain ⟨⟨-, -, p1, p2, p3⟩, p4, p5, p6, -⟩ := hp
      refine ⟨⟨p1, p3⟩, ⟨fun _ => p2, fun k hk => ?_⟩, fun h => ?_, fun h => absurd h (by decide), ⟨fun k h1 h2 => (congrFun p4 k).trans ?_, fun j => (congrFun p6 j).trans ?_⟩, fun i k _ _ h => absurd h (by omega), fun j _ h => absurd h (by omega)⟩
      · have := zpt_dom hk
        omega
      · refine ⟨⟨p1, ?_, congrFun p5 129, Or.inl ⟨hG.emp.1, hG.emp.2.1, ?_, rfl⟩, fun i hi => ?_⟩, fun h3 => absurd (hG.emp.1.symm.trans h3) (by decide)⟩
        · rw [show zct (sc (cset (sc S) 3 1, (fun r k => if r < 20 then fV0 r k else sV S r k), (fun r k => if r < 20 then 0 else sW S r k), sT S, sP S)) 19 = 0 from hl0.2.2]
          exact congrFun p4 130
        · exact hl0.2.2
        · rw [show zct (sc (cset (sc S) 3 1, (fun r k => if r < 20 then fV0 r k else sV S r k), (fun r k => if r < 20 then 0 else sW S r k), sT S, sP S)) 19 = 0 from hl0.2.2] at hi
          exact absurd hi (Nat.not_lt_zero _)
      · show _ = (if 19 < 20 then fV0 19 k else sV S 19 k)
        simp [u1, u2, fV0, h1, h2]
      · show _ = (if 19 < 20 then (0 : Int32) else sW S 19 j)
        simp [u1, u2]
  · have := hlow s hs
    exact if_neg (by omega)
  · have := hlow s hs
    exact if_neg (by omega)
end ZNEW
