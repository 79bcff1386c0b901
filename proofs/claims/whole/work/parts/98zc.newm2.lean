/-! THE REFERENCE'S CONSTRUCTOR 3: its new object -/
def fM0 (r k : Nat) : Int32 := if r = 1001 ∧ k = 681 then 1 else if r = 1001 ∧ k = 683 then -1 else if r = 1001 ∧ k = 685 then 99 else 0
section ZNEWM2
variable {Z : zPar} {l : Launch} {M0 M : zMem} {Λ Λ' r : Nat → Nat} {S : zSt}
theorem zlv_c4 {c : Nat → Nat} {s : Nat} (hl : zlv (cset c 4 1) s) (hn : ¬ zlv c s) : s = 1001 ∨ s = 1015 ∨ s = 1017 ∨ s = 1019 ∨ s = 1021 ∨ s = 1023 ∨ s = 1025 ∨ (1030 ≤ s ∧ s < 1038) := by
  have hc : ∀ k, k ≠ 4 → cset c 4 1 k = c k := fun k h1 => cset_ne h1
  rcases hl with h | h
  · rcases h with ⟨h3, h⟩ | ⟨i, hi, h⟩ | ⟨i, hi, h⟩ | ⟨i, hi, h⟩ | ⟨i, k, hi, hk, h⟩
    · rw [hc _ (by omega)] at h3
      exact absurd (Or.inl (Or.inl ⟨h3, h⟩)) hn
    · rw [hc _ (by omega)] at hi
      exact absurd (Or.inl (Or.inr (Or.inl ⟨i, hi, h⟩))) hn
    · rw [hc _ (by omega)] at hi
      exact absurd (Or.inl (Or.inr (Or.inr (Or.inl ⟨i, hi, h⟩)))) hn
    · rw [hc _ (by omega)] at hi
      exact absurd (Or.inl (Or.inr (Or.inr (Or.inr (Or.inl ⟨i, hi, h⟩))))) hn
    · rw [hc _ (by omega)] at hi hk
      exact absurd (Or.inl (Or.inr (Or.inr (Or.inr (Or.inr ⟨i, k, hi, hk, h⟩))))) hn
  · rcases h with ⟨-, h⟩ | ⟨i, hi, h⟩ | ⟨i, hi, h⟩ | ⟨i, hi, h⟩ | ⟨i, k, hi, hk, h⟩
    · exact h
    · rw [hc _ (by omega)] at hi
      exact absurd (Or.inr (Or.inr (Or.inl ⟨i, hi, h⟩))) hn
    · rw [hc _ (by omega)] at hi
      exact absurd (Or.inr (Or.inr (Or.inr (Or.inl ⟨i, hi, h⟩)))) hn
    · rw [hc _ (by omega)] at hi
      exact absurd (Or.inr (Or.inr (Or.inr (Or.inr (Or.inl ⟨i, hi, h⟩))))) hn
    · rw [hc _ (by omega)] at hi hk
      exact absurd (Or.inr (Or.inr (Or.inr (Or.inr (Or.inr ⟨i, k, hi, hk, h⟩))))) hn
theorem zpt_M {k : Nat} (h : zpt 1001 k ≠ 0) : k = 673 ∨ k = 674 ∨ k = 675 ∨ k = 676 ∨ k = 677 ∨ k = 678 := by
  have h9 : ∀ k, 673 ≤ k → k ≤ 678 → k = 673 ∨ k = 674 ∨ k = 675 ∨ k = 676 ∨ k = 677 ∨ k = 678 := fun k _ _ => by omega
  apply Classical.byContradiction
  intro hne
  apply h
  have hk : ¬ (673 ≤ k ∧ k ≤ 678) := fun q => hne (h9 k q.1 q.2)
  unfold zpt
  simp [hk]
theorem zpt_Mn {s k : Nat} (h1 : 1001 < s) (h2 : s < 1040) : zpt s k = 0 := by
  apply Classical.byContradiction
  intro h
  have := zpt_dom h
  omega
set_option maxHeartbeats 4000000 in
set_option maxRecDepth 20000 in
theorem z_newM {q q0 q1 q2 q3 q4 q5 : Nat} (hR : zRp Z Λ S M0) (hP : zPic M0 (lamM (u1 (u1 (u1 (u1 (u1 (u1 Λ 1001 q) 1015 q0) 1017 q1) 1019 q2) 1021 q3) 1023 q4) q5 r) (pSI (pSI (pSI (pSI (pSR (pMna (pSR (pSR (pSI (pNew (pSR (pSR (pSI (pNew (pSR (pSR (pSI (pNew (pSR (pSR (pSI (pNew (pSR (pSR (pSI (pNew (pNew p0 1001 31 0) 1015 14 0) 1015 128 0) 1015 129 (some (zPe Z))) 1001 673 (some q0)) 1017 14 0) 1017 128 0) 1017 129 (some (zPe Z))) 1001 674 (some q1)) 1019 14 0) 1019 128 0) 1019 129 (some (zPe Z))) 1001 675 (some q2)) 1021 14 0) 1021 128 0) 1021 129 (some (zPe Z))) 1001 676 (some q3)) 1023 14 0) 1023 128 0) 1023 129 (some (zPe Z))) 1001 677 (some q4)) (fun i => if i < 8 then some (r i) else none)) 1001 678 (some q5)) 1001 681 1) 1001 683 (-1)) 1001 685 99) 1001 672 0) M) (h4 : sc S 4 = 0) (h0 : sc S 1000 = 0) (h1 : sc S 1001 = 0) (h2 : sc S 1002 = 0) (h3 : sc S 1003 = 0) (h6 : sc S 6 = 0) (hlow : ∀ s, zlv (sc S) s → s < 1000) : zRp Z (u1 (u1 (u1 (u1 (u1 (lamM (u1 (u1 (u1 (u1 (u1 (u1 Λ 1001 q) 1015 q0) 1017 q1) 1019 q2) 1021 q3) 1023 q4) q5 r) 1016 (zPe Z)) 1018 (zPe Z)) 1020 (zPe Z)) 1022 (zPe Z)) 1024 (zPe Z)) (cset (sc S) 4 1, (fun r k => if 1000 ≤ r then fM0 r k else sV S r k), (fun r k => if 1000 ≤ r then 0 else sW S r k), sT S, sP S) M := by
  have hb := hR.bnd
  have hus : ∀ s, zus (sc S) s → s < 1000 := by
    intro s hs
    rcases hs with hs | ⟨i, hi, h⟩ | ⟨i, hi, h⟩
    · exact hlow s hs
    · omega
    · omega
  have hΛ : ∀ s, s < 1000 → (u1 (u1 (u1 (u1 (u1 (lamM (u1 (u1 (u1 (u1 (u1 (u1 Λ 1001 q) 1015 q0) 1017 q1) 1019 q2) 1021 q3) 1023 q4) q5 r) 1016 (zPe Z)) 1018 (zPe Z)) 1020 (zPe Z)) 1022 (zPe Z)) 1024 (zPe Z)) s = Λ s := fun s hs => (u1_ne (by omega)).trans ((u1_ne (by omega)).trans ((u1_ne (by omega)).trans ((u1_ne (by omega)).trans ((u1_ne (by omega)).trans ((lM (by omega) rfl).trans ((u1_ne (by omega)).trans ((u1_ne (by omega)).trans ((u1_ne (by omega)).trans ((u1_ne (by omega)).trans ((u1_ne (by omega)).trans (u1_ne (by omega))))))))))))
  have hG : zRp Z (u1 (u1 (u1 (u1 (u1 (lamM (u1 (u1 (u1 (u1 (u1 (u1 Λ 1001 q) 1015 q0) 1017 q1) 1019 q2) 1021 q3) 1023 q4) q5 r) 1016 (zPe Z)) 1018 (zPe Z)) 1020 (zPe Z)) 1022 (zPe Z)) 1024 (zPe Z)) S M := by
    refine hR.grow (fun s hs => hΛ s (hus s hs)) ⟨hΛ 40 (by omega), hΛ 41 (by omega)⟩ (fun t ht hk => ?_) hP.1
    have h1 := hlow t ht
    have h2 := zlr_of hk
    refine hΛ _ ?_
    unfold zlr at h2
    unfold zrw
    split <;> omega
  refine zRp_live (Or.inr rfl) hG (fun s hs hns => ?_) (fun s hs k _ _ => ?_) (fun s hs j => ?_) ⟨fun i hi => ?_, fun i hi => ?_⟩
  · have h9 := zlv_c4 hs hns
    have hc4 : ∀ k, k ≠ 4 → cset (sc S) 4 1 k = sc S k := fun k h1 => cset_ne h1
    have hl0 : zct (cset (sc S) 4 1) 1015 = 0 ∧ zct (cset (sc S) 4 1) 1017 = 0 ∧ zct (cset (sc S) 4 1) 1019 = 0 ∧ zct (cset (sc S) 4 1) 1021 = 0 ∧ zct (cset (sc S) 4 1) 1023 = 0 := ⟨(hc4 1000 (by decide)).trans h0, (hc4 1001 (by decide)).trans h1, (hc4 1002 (by decide)).trans h2, (hc4 1003 (by decide)).trans h3, (hc4 6 (by decide)).trans h6⟩
    have hb1 : sc S 0 ≤ 6 := hb.1.1
    have hbk : ∀ i, sc S (10 + i) ≤ 8 := hb.1.2.2.2
    have hc0 : sc (cset (sc S) 4 1, (fun r k => if 1000 ≤ r then fM0 r k else sV S r k), (fun r k => if 1000 ≤ r then 0 else sW S r k), sT S, sP S) 0 = sc S 0 := hc4 0 (by decide)
    have hck : ∀ i, sc (cset (sc S) 4 1, (fun r k => if 1000 ≤ r then fM0 r k else sV S r k), (fun r k => if 1000 ≤ r then 0 else sW S r k), sT S, sP S) (10 + i) = sc S (10 + i) ∨ sc (cset (sc S) 4 1, (fun r k => if 1000 ≤ r then fM0 r k else sV S r k), (fun r k => if 1000 ≤ r then 0 else sW S r k), sT S, sP S) (10 + i) = 1 := fun i => by
      show cset (sc S) 4 1 (10 + i) = _ ∨ _
      exact Or.inl (hc4 _ (by omega))
    have hc2 : sc (cset (sc S) 4 1, (fun r k => if 1000 ≤ r then fM0 r k else sV S r k), (fun r k => if 1000 ≤ r then 0 else sW S r k), sT S, sP S) 2 = sc S 2 := hc4 2 (by decide)
    have hb2 : sc S 2 ≤ 6 := hb.1.2.2.1
    have hT9 : ∀ s, 1000 ≤ s → ∀ i k, i < sc (cset (sc S) 4 1, (fun r k => if 1000 ≤ r then fM0 r k else sV S r k), (fun r k => if 1000 ≤ r then 0 else sW S r k), sT S, sP S) 0 → k < sc (cset (sc S) 4 1, (fun r k => if 1000 ≤ r then fM0 r k else sV S r k), (fun r k => if 1000 ≤ r then 0 else sW S r k), sT S, sP S) (10 + i) → s = 160 + 8 * i + k → False := fun s hs i k hi hk e => by
      rw [hc0] at hi
      have := hbk i
      rcases hck i with g | g <;> omega
    have hV9 : ∀ s, 1000 ≤ s → ∀ j, j < sc (cset (sc S) 4 1, (fun r k => if 1000 ≤ r then fM0 r k else sV S r k), (fun r k => if 1000 ≤ r then 0 else sW S r k), sT S, sP S) 2 → s = 150 + j → False := fun s hs j hj e => by
      rw [hc2] at hj
      omega
    rcases (show s = 1001 ∨ s = 1015 ∨ s = 1017 ∨ s = 1019 ∨ s = 1021 ∨ s = 1023 ∨ s = 1025 ∨ s = 1030 ∨ s = 1031 ∨ s = 1032 ∨ s = 1033 ∨ s = 1034 ∨ s = 1035 ∨ s = 1036 ∨ s = 1037 from by omega) with rfl | rfl | rfl | rfl | rfl | rfl | rfl | rfl | rfl | rfl | rfl | rfl | rfl | rfl | rfl
    · have hp := hP.2 1001 rfl
      obtain ⟨⟨-, -, p1, p2, p3⟩, p4, p5, p6, p7⟩ := hp
      refine ⟨⟨p1, p3⟩, ⟨fun _ => p2, fun k hk => ?_⟩, fun h => ?_, fun h => ?_, ⟨fun k h1 h2 => (congrFun p4 k).trans ?_, fun j => (congrFun p6 j).trans ?_⟩, fun i k hi hk h => absurd h (fun e => hT9 1001 (by omega) i k hi hk e), fun j hj h => absurd h (fun e => hV9 1001 (by omega) j hj e)⟩
      · rcases zpt_M hk with rfl | rfl | rfl | rfl | rfl | rfl
        · exact congrFun p5 673
        · exact congrFun p5 674
        · exact congrFun p5 675
        · exact congrFun p5 676
        · exact congrFun p5 677
        · exact congrFun p5 678
      · exact absurd h (by decide)
      · exact absurd h (by decide)
      · show _ = (if 1000 ≤ 1001 then fM0 1001 k else sV S 1001 k)
        simp [zit, u1, u2, fM0]
        repeat' split
        all_goals first | rfl | omega
      · show _ = (if 1000 ≤ 1001 then (0 : Int32) else sW S 1001 j)
        simp [zit, u1, u2]
    · have hp := hP.2 1015 rfl
      obtain ⟨⟨-, -, p1, p2, p3⟩, p4, p5, p6, p7⟩ := hp
      refine ⟨⟨p1, p3⟩, ⟨fun _ => p2, fun k hk => ?_⟩, fun h => ?_, fun h => ?_, ⟨fun k h1 h2 => (congrFun p4 k).trans ?_, fun j => (congrFun p6 j).trans ?_⟩, fun i k hi hk h => absurd h (fun e => hT9 1015 (by omega) i k hi hk e), fun j hj h => absurd h (fun e => hV9 1015 (by omega) j hj e)⟩
      · exact absurd (zpt_Mn (by omega) (by omega)) hk
      · refine ⟨⟨p1, ?_, congrFun p5 129, Or.inl ⟨hG.emp.1, hG.emp.2.1, ?_, rfl⟩, fun i hi => ?_⟩, fun h3 => absurd (hG.emp.1.symm.trans h3) (by decide)⟩
        · rw [show zct (sc (cset (sc S) 4 1, (fun r k => if 1000 ≤ r then fM0 r k else sV S r k), (fun r k => if 1000 ≤ r then 0 else sW S r k), sT S, sP S)) 1015 = 0 from hl0.1]
          exact congrFun p4 130
        · exact hl0.1
        · rw [show zct (sc (cset (sc S) 4 1, (fun r k => if 1000 ≤ r then fM0 r k else sV S r k), (fun r k => if 1000 ≤ r then 0 else sW S r k), sT S, sP S)) 1015 = 0 from hl0.1] at hi
          exact absurd hi (Nat.not_lt_zero _)
      · exact absurd h (by decide)
      · show _ = (if 1000 ≤ 1015 then fM0 1015 k else sV S 1015 k)
        simp [zit, u1, u2, fM0, h1, h2]
      · show _ = (if 1000 ≤ 1015 then (0 : Int32) else sW S 1015 j)
        simp [zit, u1, u2]
    · have hp := hP.2 1017 rfl
      obtain ⟨⟨-, -, p1, p2, p3⟩, p4, p5, p6, p7⟩ := hp
      refine ⟨⟨p1, p3⟩, ⟨fun _ => p2, fun k hk => ?_⟩, fun h => ?_, fun h => ?_, ⟨fun k h1 h2 => (congrFun p4 k).trans ?_, fun j => (congrFun p6 j).trans ?_⟩, fun i k hi hk h => absurd h (fun e => hT9 1017 (by omega) i k hi hk e), fun j hj h => absurd h (fun e => hV9 1017 (by omega) j hj e)⟩
      · exact absurd (zpt_Mn (by omega) (by omega)) hk
      · refine ⟨⟨p1, ?_, congrFun p5 129, Or.inl ⟨hG.emp.1, hG.emp.2.1, ?_, rfl⟩, fun i hi => ?_⟩, fun h3 => absurd (hG.emp.1.symm.trans h3) (by decide)⟩
        · rw [show zct (sc (cset (sc S) 4 1, (fun r k => if 1000 ≤ r then fM0 r k else sV S r k), (fun r k => if 1000 ≤ r then 0 else sW S r k), sT S, sP S)) 1017 = 0 from hl0.2.1]
          exact congrFun p4 130
        · exact hl0.2.1
        · rw [show zct (sc (cset (sc S) 4 1, (fun r k => if 1000 ≤ r then fM0 r k else sV S r k), (fun r k => if 1000 ≤ r then 0 else sW S r k), sT S, sP S)) 1017 = 0 from hl0.2.1] at hi
          exact absurd hi (Nat.not_lt_zero _)
      · exact absurd h (by decide)
      · show _ = (if 1000 ≤ 1017 then fM0 1017 k else sV S 1017 k)
        simp [zit, u1, u2, fM0, h1, h2]
      · show _ = (if 1000 ≤ 1017 then (0 : Int32) else sW S 1017 j)
        simp [zit, u1, u2]
    · have hp := hP.2 1019 rfl
      obtain ⟨⟨-, -, p1, p2, p3⟩, p4, p5, p6, p7⟩ := hp
      refine ⟨⟨p1, p3⟩, ⟨fun _ => p2, fun k hk => ?_⟩, fun h => ?_, fun h => ?_, ⟨fun k h1 h2 => (congrFun p4 k).trans ?_, fun j => (congrFun p6 j).trans ?_⟩, fun i k hi hk h => absurd h (fun e => hT9 1019 (by omega) i k hi hk e), fun j hj h => absurd h (fun e => hV9 1019 (by omega) j hj e)⟩
      · exact absurd (zpt_Mn (by omega) (by omega)) hk
      · refine ⟨⟨p1, ?_, congrFun p5 129, Or.inl ⟨hG.emp.1, hG.emp.2.1, ?_, rfl⟩, fun i hi => ?_⟩, fun h3 => absurd (hG.emp.1.symm.trans h3) (by decide)⟩
        · rw [show zct (sc (cset (sc S) 4 1, (fun r k => if 1000 ≤ r then fM0 r k else sV S r k), (fun r k => if 1000 ≤ r then 0 else sW S r k), sT S, sP S)) 1019 = 0 from hl0.2.2.1]
          exact congrFun p4 130
        · exact hl0.2.2.1
        · rw [show zct (sc (cset (sc S) 4 1, (fun r k => if 1000 ≤ r then fM0 r k else sV S r k), (fun r k => if 1000 ≤ r then 0 else sW S r k), sT S, sP S)) 1019 = 0 from hl0.2.2.1] at hi
          exact absurd hi (Nat.not_lt_zero _)
      · exact absurd h (by decide)
      · show _ = (if 1000 ≤ 1019 then fM0 1019 k else sV S 1019 k)
        simp [zit, u1, u2, fM0, h1, h2]
      · show _ = (if 1000 ≤ 1019 then (0 : Int32) else sW S 1019 j)
        simp [zit, u1, u2]
    · have hp := hP.2 1021 rfl
      obtain ⟨⟨-, -, p1, p2, p3⟩, p4, p5, p6, p7⟩ := hp
      refine ⟨⟨p1, p3⟩, ⟨fun _ => p2, fun k hk => ?_⟩, fun h => ?_, fun h => ?_, ⟨fun k h1 h2 => (congrFun p4 k).trans ?_, fun j => (congrFun p6 j).trans ?_⟩, fun i k hi hk h => absurd h (fun e => hT9 1021 (by omega) i k hi hk e), fun j hj h => absurd h (fun e => hV9 1021 (by omega) j hj e)⟩
      · exact absurd (zpt_Mn (by omega) (by omega)) hk
      · refine ⟨⟨p1, ?_, congrFun p5 129, Or.inl ⟨hG.emp.1, hG.emp.2.1, ?_, rfl⟩, fun i hi => ?_⟩, fun h3 => absurd (hG.emp.1.symm.trans h3) (by decide)⟩
        · rw [show zct (sc (cset (sc S) 4 1, (fun r k => if 1000 ≤ r then fM0 r k else sV S r k), (fun r k => if 1000 ≤ r then 0 else sW S r k), sT S, sP S)) 1021 = 0 from hl0.2.2.2.1]
          exact congrFun p4 130
        · exact hl0.2.2.2.1
        · rw [show zct (sc (cset (sc S) 4 1, (fun r k => if 1000 ≤ r then fM0 r k else sV S r k), (fun r k => if 1000 ≤ r then 0 else sW S r k), sT S, sP S)) 1021 = 0 from hl0.2.2.2.1] at hi
          exact absurd hi (Nat.not_lt_zero _)
      · exact absurd h (by decide)
      · show _ = (if 1000 ≤ 1021 then fM0 1021 k else sV S 1021 k)
        simp [zit, u1, u2, fM0, h1, h2]
      · show _ = (if 1000 ≤ 1021 then (0 : Int32) else sW S 1021 j)
        simp [zit, u1, u2]
    · have hp := hP.2 1023 rfl
      obtain ⟨⟨-, -, p1, p2, p3⟩, p4, p5, p6, p7⟩ := hp
      refine ⟨⟨p1, p3⟩, ⟨fun _ => p2, fun k hk => ?_⟩, fun h => ?_, fun h => ?_, ⟨fun k h1 h2 => (congrFun p4 k).trans ?_, fun j => (congrFun p6 j).trans ?_⟩, fun i k hi hk h => absurd h (fun e => hT9 1023 (by omega) i k hi hk e), fun j hj h => absurd h (fun e => hV9 1023 (by omega) j hj e)⟩
      · exact absurd (zpt_Mn (by omega) (by omega)) hk
      · refine ⟨⟨p1, ?_, congrFun p5 129, Or.inl ⟨hG.emp.1, hG.emp.2.1, ?_, rfl⟩, fun i hi => ?_⟩, fun h3 => absurd (hG.emp.1.symm.trans h3) (by decide)⟩
        · rw [show zct (sc (cset (sc S) 4 1, (fun r k => if 1000 ≤ r then fM0 r k else sV S r k), (fun r k => if 1000 ≤ r then 0 else sW S r k), sT S, sP S)) 1023 = 0 from hl0.2.2.2.2]
          exact congrFun p4 130
        · exact hl0.2.2.2.2
        · rw [show zct (sc (cset (sc S) 4 1, (fun r k => if 1000 ≤ r then fM0 r k else sV S r k), (fun r k => if 1000 ≤ r then 0 else sW S r k), sT S, sP S)) 1023 = 0 from hl0.2.2.2.2] at hi
          exact absurd hi (Nat.not_lt_zero _)
      · exact absurd h (by decide)
      · show _ = (if 1000 ≤ 1023 then fM0 1023 k else sV S 1023 k)
        simp [zit, u1, u2, fM0, h1, h2]
      · show _ = (if 1000 ≤ 1023 then (0 : Int32) else sW S 1023 j)
        simp [zit, u1, u2]
    · have hp := hP.2 1025 rfl
      obtain ⟨⟨-, -, p1, p2, p3⟩, p4, p5, p6, p7⟩ := hp
      refine ⟨⟨p1, p3⟩, ⟨fun _ => p2, fun k hk => ?_⟩, fun h => ?_, fun h => ?_, ⟨fun k h1 h2 => (congrFun p4 k).trans ?_, fun j => (congrFun p6 j).trans ?_⟩, fun i k hi hk h => absurd h (fun e => hT9 1025 (by omega) i k hi hk e), fun j hj h => absurd h (fun e => hV9 1025 (by omega) j hj e)⟩
      · exact absurd (zpt_Mn (by omega) (by omega)) hk
      · exact absurd h (by decide)
      · intro i hi
        refine (congrFun p7 i).trans ?_
        show (if i < 8 then some (r i) else none) = _
        rw [if_pos hi]
        rcases (show i = 0 ∨ i = 1 ∨ i = 2 ∨ i = 3 ∨ i = 4 ∨ i = 5 ∨ i = 6 ∨ i = 7 from by omega) with rfl | rfl | rfl | rfl | rfl | rfl | rfl | rfl <;> rfl
      · show _ = (if 1000 ≤ 1025 then fM0 1025 k else sV S 1025 k)
        simp [zit, u1, u2, fM0, h1, h2]
      · show _ = (if 1000 ≤ 1025 then (0 : Int32) else sW S 1025 j)
        simp [zit, u1, u2]
    · have hp := hP.2 1030 rfl
      obtain ⟨⟨-, -, p1, p2, p3⟩, p4, p5, p6, p7⟩ := hp
      refine ⟨⟨p1, p3⟩, ⟨fun _ => p2, fun k hk => ?_⟩, fun h => ?_, fun h => ?_, ⟨fun k h1 h2 => (congrFun p4 k).trans ?_, fun j => (congrFun p6 j).trans ?_⟩, fun i k hi hk h => absurd h (fun e => hT9 1030 (by omega) i k hi hk e), fun j hj h => absurd h (fun e => hV9 1030 (by omega) j hj e)⟩
      · exact absurd (zpt_Mn (by omega) (by omega)) hk
      · exact absurd h (by decide)
      · exact absurd h (by decide)
      · show _ = (if 1000 ≤ 1030 then fM0 1030 k else sV S 1030 k)
        simp [zit, u1, u2, fM0, h1, h2]
      · show _ = (if 1000 ≤ 1030 then (0 : Int32) else sW S 1030 j)
        simp [zit, u1, u2]
    · have hp := hP.2 1031 rfl
      obtain ⟨⟨-, -, p1, p2, p3⟩, p4, p5, p6, p7⟩ := hp
      refine ⟨⟨p1, p3⟩, ⟨fun _ => p2, fun k hk => ?_⟩, fun h => ?_, fun h => ?_, ⟨fun k h1 h2 => (congrFun p4 k).trans ?_, fun j => (congrFun p6 j).trans ?_⟩, fun i k hi hk h => absurd h (fun e => hT9 1031 (by omega) i k hi hk e), fun j hj h => absurd h (fun e => hV9 1031 (by omega) j hj e)⟩
      · exact absurd (zpt_Mn (by omega) (by omega)) hk
      · exact absurd h (by decide)
      · exact absurd h (by decide)
      · show _ = (if 1000 ≤ 1031 then fM0 1031 k else sV S 1031 k)
        simp [zit, u1, u2, fM0, h1, h2]
      · show _ = (if 1000 ≤ 1031 then (0 : Int32) else sW S 1031 j)
        simp [zit, u1, u2]
    · have hp := hP.2 1032 rfl
      obtain ⟨⟨-, -, p1, p2, p3⟩, p4, p5, p6, p7⟩ := hp
      refine ⟨⟨p1, p3⟩, ⟨fun _ => p2, fun k hk => ?_⟩, fun h => ?_, fun h => ?_, ⟨fun k h1 h2 => (congrFun p4 k).trans ?_, fun j => (congrFun p6 j).trans ?_⟩, fun i k hi hk h => absurd h (fun e => hT9 1032 (by omega) i k hi hk e), fun j hj h => absurd h (fun e => hV9 1032 (by omega) j hj e)⟩
      · exact absurd (zpt_Mn (by omega) (by omega)) hk
      · exact absurd h (by decide)
      · exact absurd h (by decide)
      · show _ = (if 1000 ≤ 1032 then fM0 1032 k else sV S 1032 k)
        simp [zit, u1, u2, fM0, h1, h2]
      · show _ = (if 1000 ≤ 1032 then (0 : Int32) else sW S 1032 j)
        simp [zit, u1, u2]
    · have hp := hP.2 1033 rfl
      obtain ⟨⟨-, -, p1, p2, p3⟩, p4, p5, p6, p7⟩ := hp
      refine ⟨⟨p1, p3⟩, ⟨fun _ => p2, fun k hk => ?_⟩, fun h => ?_, fun h => ?_, ⟨fun k h1 h2 => (congrFun p4 k).trans ?_, fun j => (congrFun p6 j).trans ?_⟩, fun i k hi hk h => absurd h (fun e => hT9 1033 (by omega) i k hi hk e), fun j hj h => absurd h (fun e => hV9 1033 (by omega) j hj e)⟩
      · exact absurd (zpt_Mn (by omega) (by omega)) hk
      · exact absurd h (by decide)
      · exact absurd h (by decide)
      · show _ = (if 1000 ≤ 1033 then fM0 1033 k else sV S 1033 k)
        simp [zit, u1, u2, fM0, h1, h2]
      · show _ = (if 1000 ≤ 1033 then (0 : Int32) else sW S 1033 j)
        simp [zit, u1, u2]
    · have hp := hP.2 1034 rfl
      obtain ⟨⟨-, -, p1, p2, p3⟩, p4, p5, p6, p7⟩ := hp
      refine ⟨⟨p1, p3⟩, ⟨fun _ => p2, fun k hk => ?_⟩, fun h => ?_, fun h => ?_, ⟨fun k h1 h2 => (congrFun p4 k).trans ?_, fun j => (congrFun p6 j).trans ?_⟩, fun i k hi hk h => absurd h (fun e => hT9 1034 (by omega) i k hi hk e), fun j hj h => absurd h (fun e => hV9 1034 (by omega) j hj e)⟩
      · exact absurd (zpt_Mn (by omega) (by omega)) hk
      · exact absurd h (by decide)
      · exact absurd h (by decide)
      · show _ = (if 1000 ≤ 1034 then fM0 1034 k else sV S 1034 k)
        simp [zit, u1, u2, fM0, h1, h2]
      · show _ = (if 1000 ≤ 1034 then (0 : Int32) else sW S 1034 j)
        simp [zit, u1, u2]
    · have hp := hP.2 1035 rfl
      obtain ⟨⟨-, -, p1, p2, p3⟩, p4, p5, p6, p7⟩ := hp
      refine ⟨⟨p1, p3⟩, ⟨fun _ => p2, fun k hk => ?_⟩, fun h => ?_, fun h => ?_, ⟨fun k h1 h2 => (congrFun p4 k).trans ?_, fun j => (congrFun p6 j).trans ?_⟩, fun i k hi hk h => absurd h (fun e => hT9 1035 (by omega) i k hi hk e), fun j hj h => absurd h (fun e => hV9 1035 (by omega) j hj e)⟩
      · exact absurd (zpt_Mn (by omega) (by omega)) hk
      · exact absurd h (by decide)
      · exact absurd h (by decide)
      · show _ = (if 1000 ≤ 1035 then fM0 1035 k else sV S 1035 k)
        simp [zit, u1, u2, fM0, h1, h2]
      · show _ = (if 1000 ≤ 1035 then (0 : Int32) else sW S 1035 j)
        simp [zit, u1, u2]
    · have hp := hP.2 1036 rfl
      obtain ⟨⟨-, -, p1, p2, p3⟩, p4, p5, p6, p7⟩ := hp
      refine ⟨⟨p1, p3⟩, ⟨fun _ => p2, fun k hk => ?_⟩, fun h => ?_, fun h => ?_, ⟨fun k h1 h2 => (congrFun p4 k).trans ?_, fun j => (congrFun p6 j).trans ?_⟩, fun i k hi hk h => absurd h (fun e => hT9 1036 (by omega) i k hi hk e), fun j hj h => absurd h (fun e => hV9 1036 (by omega) j hj e)⟩
      · exact absurd (zpt_Mn (by omega) (by omega)) hk
      · exact absurd h (by decide)
      · exact absurd h (by decide)
      · show _ = (if 1000 ≤ 1036 then fM0 1036 k else sV S 1036 k)
        simp [zit, u1, u2, fM0, h1, h2]
      · show _ = (if 1000 ≤ 1036 then (0 : Int32) else sW S 1036 j)
        simp [zit, u1, u2]
    · have hp := hP.2 1037 rfl
      obtain ⟨⟨-, -, p1, p2, p3⟩, p4, p5, p6, p7⟩ := hp
      refine ⟨⟨p1, p3⟩, ⟨fun _ => p2, fun k hk => ?_⟩, fun h => ?_, fun h => ?_, ⟨fun k h1 h2 => (congrFun p4 k).trans ?_, fun j => (congrFun p6 j).trans ?_⟩, fun i k hi hk h => absurd h (fun e => hT9 1037 (by omega) i k hi hk e), fun j hj h => absurd h (fun e => hV9 1037 (by omega) j hj e)⟩
      · exact absurd (zpt_Mn (by omega) (by omega)) hk
      · exact absurd h (by decide)
      · exact absurd h (by decide)
      · show _ = (if 1000 ≤ 1037 then fM0 1037 k else sV S 1037 k)
        simp [zit, u1, u2, fM0, h1, h2]
      · show _ = (if 1000 ≤ 1037 then (0 : Int32) else sW S 1037 j)
        simp [zit, u1, u2]
  · have := hlow s hs
    exact if_neg (by omega)
  · have := hlow s hs
    exact if_neg (by omega)
  · have hi : i < cset (sc S) 4 1 1003 := hi
    rw [show cset (sc S) 4 1 1003 = sc S 1003 from if_neg (by decide), h3] at hi
    exact absurd hi (Nat.not_lt_zero _)
  · have hi : i < cset (sc S) 4 1 6 := hi
    rw [show cset (sc S) 4 1 6 = sc S 6 from if_neg (by decide), h6] at hi
    exact absurd hi (Nat.not_lt_zero _)
end ZNEWM2
