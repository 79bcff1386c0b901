/-! A PITCH ADDED -/
section ZPITCH
variable {Z : zPar} {l : Launch} {Λ : Nat → Nat} {S : zSt} {M M2 : zMem} {q q0 q1 q2 : Nat} {y e sh : Int32}
theorem zpt_P {n k : Nat} (hn : n < 10) (h : zpt (100 + n) k ≠ 0) : (k = 355 ∧ zpt (100 + n) k = 110 + n) ∨ (k = 356 ∧ zpt (100 + n) k = 120 + n) := by
  by_cases e1 : k = 355
  · subst e1
    exact Or.inl ⟨rfl, (if_pos (show 100 ≤ 100 + n ∧ 100 + n < 110 from by omega)).trans (by omega)⟩
  by_cases e2 : k = 356
  · subst e2
    exact Or.inr ⟨rfl, (if_pos (show 100 ≤ 100 + n ∧ 100 + n < 110 from by omega)).trans (by omega)⟩
  exfalso
  apply h
  generalize er : 100 + n = r
  unfold zpt
  simp only [e1, e2, if_false, show ¬ r = 2 from by omega, show ¬ r = 3 from by omega, show ¬ r = 4 from by omega, show ¬ r = 7 from by omega, show ¬ r = 8 from by omega, show ¬ r = 1 from by omega, show ¬ r = 1001 from by omega, show ¬ (1100 ≤ r ∧ r < 1110) from by omega, ite_self]
theorem zpt_Pm {n k : Nat} (hn : n < 10) (h : zpt (1100 + n) k ≠ 0) : (k = 579 ∧ zpt (1100 + n) k = 1110 + n) ∨ (k = 580 ∧ zpt (1100 + n) k = 1120 + n) := by
  by_cases e1 : k = 579
  · subst e1
    exact Or.inl ⟨rfl, (if_pos (show 1100 ≤ 1100 + n ∧ 1100 + n < 1110 from by omega)).trans (by omega)⟩
  by_cases e2 : k = 580
  · subst e2
    exact Or.inr ⟨rfl, (if_pos (show 1100 ≤ 1100 + n ∧ 1100 + n < 1110 from by omega)).trans (by omega)⟩
  exfalso
  apply h
  generalize er : 1100 + n = r
  unfold zpt
  simp only [e1, e2, if_false, show ¬ r = 2 from by omega, show ¬ r = 3 from by omega, show ¬ r = 4 from by omega, show ¬ r = 7 from by omega, show ¬ r = 8 from by omega, show ¬ r = 1 from by omega, show ¬ r = 1001 from by omega, show ¬ (100 ≤ r ∧ r < 110) from by omega, ite_self]
theorem zki_P {n : Nat} (hn : n < 10) : zki (100 + n) = 21 ∧ zki (110 + n) = 1 ∧ zki (120 + n) = 14 ∧ zki (1100 + n) = 28 ∧ zki (1110 + n) = 1 ∧ zki (1120 + n) = 14 := by
  have h : ∀ n : Fin 10, zki (100 + n) = 21 ∧ zki (110 + n) = 1 ∧ zki (120 + n) = 14 ∧ zki (1100 + n) = 28 ∧ zki (1110 + n) = 1 ∧ zki (1120 + n) = 14 := by decide +kernel
  exact h ⟨n, hn⟩
theorem zle_P {n : Nat} (hn : n < 10) : zle (100 + n) = 0 ∧ zle (110 + n) = 10 ∧ zle (120 + n) = 0 ∧ zle (1100 + n) = 0 ∧ zle (1110 + n) = 10 ∧ zle (1120 + n) = 0 := by
  have h : ∀ n : Fin 10, zle (100 + n) = 0 ∧ zle (110 + n) = 10 ∧ zle (120 + n) = 0 ∧ zle (1100 + n) = 0 ∧ zle (1110 + n) = 10 ∧ zle (1120 + n) = 0 := by decide +kernel
  exact h ⟨n, hn⟩
theorem zlvP_no {n s : Nat} {c : Nat → Nat} (hb : zBnd c) (h : (c 0 ≤ n ∧ n < 6 ∧ (s = 100 + n ∨ s = 110 + n ∨ s = 120 + n)) ∨ (c 1000 ≤ n ∧ n < 6 ∧ (s = 1100 + n ∨ s = 1110 + n ∨ s = 1120 + n))) : ¬ zlv c s := by
  have b0 := hb.1.1
  have b1 := hb.1.2.1
  have b2 := hb.1.2.2.1
  have b3 := hb.2.1.1
  have b4 := hb.2.1.2.1
  have b5 := hb.2.1.2.2.1
  intro hl
  rcases hl with h9 | h9
  · rcases h9 with ⟨-, h9⟩ | ⟨i2, hi2, h9⟩ | ⟨i2, hi2, h9⟩ | ⟨i2, hi2, h9⟩ | ⟨i2, k2, hi2, hk2, h9⟩
    · omega
    · omega
    · omega
    · omega
    · have := hb.1.2.2.2 i2
      omega
  · rcases h9 with ⟨-, h9⟩ | ⟨i2, hi2, h9⟩ | ⟨i2, hi2, h9⟩ | ⟨i2, hi2, h9⟩ | ⟨i2, k2, hi2, hk2, h9⟩
    · omega
    · omega
    · omega
    · omega
    · have := hb.2.2 i2
      omega
theorem zrw_val {r : Nat} (hr : zlr r) : zrw r < 40 ∨ (130 ≤ zrw r ∧ zrw r < 140) ∨ (1016 ≤ zrw r ∧ zrw r < 1030) ∨ (1130 ≤ zrw r ∧ zrw r < 1140) := by
  unfold zlr at hr
  by_cases h : r < 100 ∨ (1000 ≤ r ∧ r < 1100)
  · rw [show zrw r = r + 1 from if_pos h]
    omega
  · rw [show zrw r = r + 10 from if_neg h]
    omega
abbrev zL4 (Z : zPar) (Λ : Nat → Nat) (b n q0 q1 q2 : Nat) : Nat → Nat := u1 (u1 (u1 (u1 Λ (b + n) q0) (b + 10 + n) q1) (b + 20 + n) q2) (b + 30 + n) (zPe Z)
def fPV (V : Nat → Nat → Int32) (b n k0 : Nat) (y e sh : Int32) : Nat → Nat → Int32 := u1 (u1 (u1 V (b + n) (fun k => if k = k0 + 2 then sh else if k = k0 + 1 then e else if k = k0 then y else 0)) (b + 10 + n) (fun _ => 0)) (b + 20 + n) (fun _ => 0)
def fPW (W : Nat → Nat → Int32) (b n : Nat) : Nat → Nat → Int32 := u1 (u1 (u1 W (b + n) (fun _ => 0)) (b + 10 + n) (fun _ => 0)) (b + 20 + n) (fun _ => 0)
theorem zRp_pit (h : zRp Z Λ S M) (hn : sc S 0 < 6) (hP : zPic M (u1 (u1 (u1 Λ (100 + sc S 0) q0) (110 + sc S 0) q1) (120 + sc S 0) q2) ((pSR (pSR (pSI (pNew (pSR (pNew (pSI (pSI (pSI (pNew p0 (100 + sc S 0) 21 0) (100 + sc S 0) 352 y) (100 + sc S 0) 353 e) (100 + sc S 0) 354 sh) (110 + sc S 0) 1 10) (100 + sc S 0) 355 (some q1)) (120 + sc S 0) 14 0) (120 + sc S 0) 128 0) (120 + sc S 0) 129 (some (zPe Z))) (100 + sc S 0) 356 (some q2))) M2) : zRp Z (zL4 Z Λ 100 (sc S 0) q0 q1 q2) S M2 := by
  have hb := h.bnd
  have hr : ∀ r, zlr r → 120 + sc S 0 ≠ r → zrw r ≠ 130 + sc S 0 := by
    intro r hr e1 e2
    refine e1 (zrw_inj (r := 120 + sc S 0) (s := r) (by unfold zlr; omega) hr ?_)
    rw [e2]
    unfold zrw
    rw [if_neg (by omega)]
    omega
  have hne : ∀ s, zus (sc S) s → s ≠ 100 + sc S 0 ∧ s ≠ 110 + sc S 0 ∧ s ≠ 120 + sc S 0 ∧ s ≠ 130 + sc S 0 := by
    intro s hs
    have g1 := zus_ne hb (zlvP_no (n := sc S 0) (s := 100 + sc S 0) hb (by omega)) (by omega) s hs
    have g2 := zus_ne hb (zlvP_no (n := sc S 0) (s := 110 + sc S 0) hb (by omega)) (by omega) s hs
    have g3 := zus_ne hb (zlvP_no (n := sc S 0) (s := 120 + sc S 0) hb (by omega)) (by omega) s hs
    refine ⟨g1, g2, g3, fun e => ?_⟩
    rcases hs with hs | ⟨i, hi, e9⟩ | ⟨i, hi, e9⟩
    · exact (hs.nrow hb (r := 120 + sc S 0) (by unfold zlr; omega)) (e.trans (by unfold zrw; rw [if_neg (by omega)]; omega))
    · omega
    · omega
  refine h.grow (fun s hs => ?_) ⟨?_, ?_⟩ (fun r hr2 hk => ?_) hP.1
  · obtain ⟨g1, g2, g3, g4⟩ := hne s hs
    exact (u1_ne g4).trans ((u1_ne g3).trans ((u1_ne g2).trans (u1_ne g1)))
  · exact (u1_ne (by omega)).trans ((u1_ne (by omega)).trans ((u1_ne (by omega)).trans (u1_ne (by omega))))
  · exact (u1_ne (by omega)).trans ((u1_ne (by omega)).trans ((u1_ne (by omega)).trans (u1_ne (by omega))))
  · have h1 := zrw_val (zlr_of hk)
    have h2 := hne r (Or.inl hr2)
    exact (u1_ne (hr r (zlr_of hk) (Ne.symm h2.2.2.1))).trans ((u1_ne (by omega)).trans ((u1_ne (by omega)).trans (u1_ne (by omega))))
theorem zOne_pit {s : Nat} {c' : Nat → Nat} {T' : Nat → Nat → Nat} {P' : Nat → Nat} (hG : zRp Z (zL4 Z Λ 100 (sc S 0) q0 q1 q2) S M2) (hn : sc S 0 < 6) (h0 : c' (10 + sc S 0) = 0) (hb' : zBnd c') (hP : zPic M (u1 (u1 (u1 Λ (100 + sc S 0) q0) (110 + sc S 0) q1) (120 + sc S 0) q2) ((pSR (pSR (pSI (pNew (pSR (pNew (pSI (pSI (pSI (pNew p0 (100 + sc S 0) 21 0) (100 + sc S 0) 352 y) (100 + sc S 0) 353 e) (100 + sc S 0) 354 sh) (110 + sc S 0) 1 10) (100 + sc S 0) 355 (some q1)) (120 + sc S 0) 14 0) (120 + sc S 0) 128 0) (120 + sc S 0) 129 (some (zPe Z))) (100 + sc S 0) 356 (some q2))) M2) (hs : s = 100 + sc S 0 ∨ s = 110 + sc S 0 ∨ s = 120 + sc S 0) : zOne Z (zL4 Z Λ 100 (sc S 0) q0 q1 q2) (c', fPV (sV S) 100 (sc S 0) 352 y e sh, fPW (sW S) 100 (sc S 0), T', P') M2 s := by
  have hb := hG.bnd
  have e0 : zL4 Z Λ 100 (sc S 0) q0 q1 q2 (100 + sc S 0) = q0 := (u1_ne (by omega)).trans ((u1_ne (by omega)).trans ((u1_ne (by omega)).trans u1_at))
  have e1 : zL4 Z Λ 100 (sc S 0) q0 q1 q2 (110 + sc S 0) = q1 := (u1_ne (by omega)).trans ((u1_ne (by omega)).trans u1_at)
  have e2 : zL4 Z Λ 100 (sc S 0) q0 q1 q2 (120 + sc S 0) = q2 := (u1_ne (by omega)).trans u1_at
  have e3 : zL4 Z Λ 100 (sc S 0) q0 q1 q2 (130 + sc S 0) = zPe Z := u1_at
  have f0 : (u1 (u1 (u1 Λ (100 + sc S 0) q0) (110 + sc S 0) q1) (120 + sc S 0) q2) (100 + sc S 0) = q0 := (u1_ne (by omega)).trans ((u1_ne (by omega)).trans u1_at)
  have f1 : (u1 (u1 (u1 Λ (100 + sc S 0) q0) (110 + sc S 0) q1) (120 + sc S 0) q2) (110 + sc S 0) = q1 := (u1_ne (by omega)).trans u1_at
  have f2 : (u1 (u1 (u1 Λ (100 + sc S 0) q0) (110 + sc S 0) q1) (120 + sc S 0) q2) (120 + sc S 0) = q2 := u1_at
  have b2 := hb'.1.2.2.1
  have b6 := hb'.1.1
  have bk := hb'.1.2.2.2
  have n1 : ¬ 100 + sc S 0 = 110 + sc S 0 := by omega
  have n2 : ¬ 100 + sc S 0 = 120 + sc S 0 := by omega
  have n3 : ¬ 110 + sc S 0 = 100 + sc S 0 := by omega
  have n4 : ¬ 110 + sc S 0 = 120 + sc S 0 := by omega
  have n5 : ¬ 120 + sc S 0 = 100 + sc S 0 := by omega
  have n6 : ¬ 120 + sc S 0 = 110 + sc S 0 := by omega
  rcases hs with rfl | rfl | rfl
  · have hp := hP.2 (100 + sc S 0) (qRn (qRn (qIn (qNn (by omega) (qRn (qNn (by omega) (qIn (qIn (qIn qNa)))))))))
    rw [f0] at hp
    obtain ⟨⟨-, -, p1, p2, p3⟩, p4, p5, p6, -⟩ := hp
    refine ⟨⟨?_, ?_⟩, ⟨fun h => absurd (zle_P (n := sc S 0) (by omega)).1 h, fun k hk => ?_⟩, fun h => ?_, fun h => ?_, ⟨fun k h1 h2 => ?_, fun j => ?_⟩, fun i k hi hk h => ?_, fun j hj h => ?_⟩
    · rw [e0, (zki_P (n := sc S 0) (by omega)).1]
      exact p1.trans (kRn (kRn (kIn (kNn (by omega) (kRn (kNn (by omega) (kIn (kIn (kIn kNa)))))))))
    · rw [e0]
      exact p3
    · rcases zpt_P (by omega) hk with ⟨rfl, g⟩ | ⟨rfl, g⟩
      · rw [g, e0, e1, p5]
        exact (rRk (by decide) (rRk (by decide) (rIn (rNn (by omega) rRa))))
      · rw [g, e0, e2, p5]
        exact rRa
    · rw [(zki_P (n := sc S 0) (by omega)).1] at h
      exact absurd h (by decide)
    · omega
    · rw [e0, p4]
      show _ = fPV (sV S) 100 (sc S 0) 352 y e sh (100 + sc S 0) k
      simp only [fPV, u1, u2, n1, n2, n3, n4, n5, n6, if_true, if_false, and_true, and_false]
    · rw [e0, p6]
      show _ = fPW (sW S) 100 (sc S 0) (100 + sc S 0) j
      simp only [fPW, u1, u2, n1, n2, n3, n4, n5, n6, if_true, if_false]
    · have := bk i
      have hi : i < c' 0 := hi
      have hk : k < c' (10 + i) := hk
      omega
    · have : j < c' 2 := hj
      omega
  · have hp := hP.2 (110 + sc S 0) (qRn (qRn (qIn (qNn (by omega) (qRn qNa)))))
    rw [f1] at hp
    obtain ⟨⟨-, -, p1, p2, p3⟩, p4, p5, p6, -⟩ := hp
    refine ⟨⟨?_, ?_⟩, ⟨fun _ => ?_, fun k hk => ?_⟩, fun h => ?_, fun h => ?_, ⟨fun k h1 h2 => ?_, fun j => ?_⟩, fun i k hi hk h => ?_, fun j hj h => ?_⟩
    · rw [e1, (zki_P (n := sc S 0) (by omega)).2.1]
      exact p1.trans (kRn (kRn (kIn (kNn (by omega) (kRn kNa)))))
    · rw [e1]
      exact p3
    · rw [e1, p2, (zle_P (n := sc S 0) (by omega)).2.1]
      exact (u1_ne (f := u1 (u1 p0.2.2.1 (100 + sc S 0) 0) (110 + sc S 0) 10) n4).trans u1_at
    · have := zpt_dom hk
      omega
    · rw [(zki_P (n := sc S 0) (by omega)).2.1] at h
      exact absurd h (by decide)
    · omega
    · rw [e1, p4]
      show _ = fPV (sV S) 100 (sc S 0) 352 y e sh (110 + sc S 0) k
      simp only [fPV, u1, u2, n1, n2, n3, n4, n5, n6, if_true, if_false, and_true, and_false]
    · rw [e1, p6]
      show _ = fPW (sW S) 100 (sc S 0) (110 + sc S 0) j
      simp only [fPW, u1, u2, n1, n2, n3, n4, n5, n6, if_true, if_false]
    · have := bk i
      have hi : i < c' 0 := hi
      have hk : k < c' (10 + i) := hk
      omega
    · have : j < c' 2 := hj
      omega
  · have hp := hP.2 (120 + sc S 0) (qRn (qRn (qIn qNa)))
    rw [f2] at hp
    obtain ⟨⟨-, -, p1, p2, p3⟩, p4, p5, p6, -⟩ := hp
    have erw : zrw (120 + sc S 0) = 130 + sc S 0 := by
      unfold zrw
      rw [if_neg (by omega)]
      omega
    have hE := hG.emp
    refine ⟨⟨?_, ?_⟩, ⟨fun h => absurd (zle_P (n := sc S 0) (by omega)).2.2.1 h, fun k hk => ?_⟩, fun h => ⟨⟨?_, ?_, ?_, Or.inl ⟨?_, ?_, ?_, ?_⟩, fun i hi => ?_⟩, fun h3 => ?_⟩, fun h => ?_, ⟨fun k h1 h2 => ?_, fun j => ?_⟩, fun i k hi hk h => ?_, fun j hj h => ?_⟩
    · rw [e2, (zki_P (n := sc S 0) (by omega)).2.2.1]
      exact p1.trans (kRn (kRn (kIn kNa)))
    · rw [e2]
      exact p3
    · have := zpt_dom hk
      omega
    · rw [e2]
      exact p1.trans (kRn (kRn (kIn kNa)))
    · rw [e2, p4, show zct c' (120 + sc S 0) = 0 from (zct_T (by omega)).trans h0]
      simp only [u1, u2, n1, n2, n3, n4, n5, n6, if_true, if_false, and_true, and_false]
      decide
    · rw [e2, p5, erw, e3]
      exact (rRk (by decide) rRa)
    · rw [erw, e3]
      exact hE.1
    · rw [erw, e3]
      exact hE.2.1
    · exact (zct_T (by omega)).trans h0
    · rw [erw, e3]
    · have h9 : i < zct c' (120 + sc S 0) := hi
      rw [zct_T (by omega), h0] at h9
      exact absurd h9 (Nat.not_lt_zero i)
    · rw [erw, e3, hE.1] at h3
      exact absurd h3 (by decide)
    · omega
    · rw [e2, p4]
      show _ = fPV (sV S) 100 (sc S 0) 352 y e sh (120 + sc S 0) k
      simp only [fPV, u1, u2, n1, n2, n3, n4, n5, n6, if_true, if_false, and_true, and_false]
      rw [if_neg h1]
    · rw [e2, p6]
      show _ = fPW (sW S) 100 (sc S 0) (120 + sc S 0) j
      simp only [fPW, u1, u2, n1, n2, n3, n4, n5, n6, if_true, if_false]
    · have := bk i
      have hi : i < c' 0 := hi
      have hk : k < c' (10 + i) := hk
      omega
    · have : j < c' 2 := hj
      omega
theorem zRp_pitm (h : zRp Z Λ S M) (hn : sc S 1000 < 6) (hP : zPic M (u1 (u1 (u1 Λ (1100 + sc S 1000) q0) (1110 + sc S 1000) q1) (1120 + sc S 1000) q2) ((pSI (pSI (pSI (pSR (pSR (pSI (pNew (pSR (pNew (pNew p0 (1100 + sc S 1000) 28 0) (1110 + sc S 1000) 1 10) (1100 + sc S 1000) 579 (some q1)) (1120 + sc S 1000) 14 0) (1120 + sc S 1000) 128 0) (1120 + sc S 1000) 129 (some (zPe Z))) (1100 + sc S 1000) 580 (some q2)) (1100 + sc S 1000) 576 y) (1100 + sc S 1000) 577 e) (1100 + sc S 1000) 578 sh)) M2) : zRp Z (zL4 Z Λ 1100 (sc S 1000) q0 q1 q2) S M2 := by
  have hb := h.bnd
  have hr : ∀ r, zlr r → 1120 + sc S 1000 ≠ r → zrw r ≠ 1130 + sc S 1000 := by
    intro r hr e1 e2
    refine e1 (zrw_inj (r := 1120 + sc S 1000) (s := r) (by unfold zlr; omega) hr ?_)
    rw [e2]
    unfold zrw
    rw [if_neg (by omega)]
    omega
  have hne : ∀ s, zus (sc S) s → s ≠ 1100 + sc S 1000 ∧ s ≠ 1110 + sc S 1000 ∧ s ≠ 1120 + sc S 1000 ∧ s ≠ 1130 + sc S 1000 := by
    intro s hs
    have g1 := zus_ne hb (zlvP_no (n := sc S 1000) (s := 1100 + sc S 1000) hb (by omega)) (by omega) s hs
    have g2 := zus_ne hb (zlvP_no (n := sc S 1000) (s := 1110 + sc S 1000) hb (by omega)) (by omega) s hs
    have g3 := zus_ne hb (zlvP_no (n := sc S 1000) (s := 1120 + sc S 1000) hb (by omega)) (by omega) s hs
    refine ⟨g1, g2, g3, fun e => ?_⟩
    rcases hs with hs | ⟨i, hi, e9⟩ | ⟨i, hi, e9⟩
    · exact (hs.nrow hb (r := 1120 + sc S 1000) (by unfold zlr; omega)) (e.trans (by unfold zrw; rw [if_neg (by omega)]; omega))
    · omega
    · omega
  refine h.grow (fun s hs => ?_) ⟨?_, ?_⟩ (fun r hr2 hk => ?_) hP.1
  · obtain ⟨g1, g2, g3, g4⟩ := hne s hs
    exact (u1_ne g4).trans ((u1_ne g3).trans ((u1_ne g2).trans (u1_ne g1)))
  · exact (u1_ne (by omega)).trans ((u1_ne (by omega)).trans ((u1_ne (by omega)).trans (u1_ne (by omega))))
  · exact (u1_ne (by omega)).trans ((u1_ne (by omega)).trans ((u1_ne (by omega)).trans (u1_ne (by omega))))
  · have h1 := zrw_val (zlr_of hk)
    have h2 := hne r (Or.inl hr2)
    exact (u1_ne (hr r (zlr_of hk) (Ne.symm h2.2.2.1))).trans ((u1_ne (by omega)).trans ((u1_ne (by omega)).trans (u1_ne (by omega))))
theorem zOne_pitm {s : Nat} {c' : Nat → Nat} {T' : Nat → Nat → Nat} {P' : Nat → Nat} (hG : zRp Z (zL4 Z Λ 1100 (sc S 1000) q0 q1 q2) S M2) (hn : sc S 1000 < 6) (h0 : c' (1010 + sc S 1000) = 0) (hb' : zBnd c') (hP : zPic M (u1 (u1 (u1 Λ (1100 + sc S 1000) q0) (1110 + sc S 1000) q1) (1120 + sc S 1000) q2) ((pSI (pSI (pSI (pSR (pSR (pSI (pNew (pSR (pNew (pNew p0 (1100 + sc S 1000) 28 0) (1110 + sc S 1000) 1 10) (1100 + sc S 1000) 579 (some q1)) (1120 + sc S 1000) 14 0) (1120 + sc S 1000) 128 0) (1120 + sc S 1000) 129 (some (zPe Z))) (1100 + sc S 1000) 580 (some q2)) (1100 + sc S 1000) 576 y) (1100 + sc S 1000) 577 e) (1100 + sc S 1000) 578 sh)) M2) (hs : s = 1100 + sc S 1000 ∨ s = 1110 + sc S 1000 ∨ s = 1120 + sc S 1000) : zOne Z (zL4 Z Λ 1100 (sc S 1000) q0 q1 q2) (c', fPV (sV S) 1100 (sc S 1000) 576 y e sh, fPW (sW S) 1100 (sc S 1000), T', P') M2 s := by
  have hb := hG.bnd
  have e0 : zL4 Z Λ 1100 (sc S 1000) q0 q1 q2 (1100 + sc S 1000) = q0 := (u1_ne (by omega)).trans ((u1_ne (by omega)).trans ((u1_ne (by omega)).trans u1_at))
  have e1 : zL4 Z Λ 1100 (sc S 1000) q0 q1 q2 (1110 + sc S 1000) = q1 := (u1_ne (by omega)).trans ((u1_ne (by omega)).trans u1_at)
  have e2 : zL4 Z Λ 1100 (sc S 1000) q0 q1 q2 (1120 + sc S 1000) = q2 := (u1_ne (by omega)).trans u1_at
  have e3 : zL4 Z Λ 1100 (sc S 1000) q0 q1 q2 (1130 + sc S 1000) = zPe Z := u1_at
  have f0 : (u1 (u1 (u1 Λ (1100 + sc S 1000) q0) (1110 + sc S 1000) q1) (1120 + sc S 1000) q2) (1100 + sc S 1000) = q0 := (u1_ne (by omega)).trans ((u1_ne (by omega)).trans u1_at)
  have f1 : (u1 (u1 (u1 Λ (1100 + sc S 1000) q0) (1110 + sc S 1000) q1) (1120 + sc S 1000) q2) (1110 + sc S 1000) = q1 := (u1_ne (by omega)).trans u1_at
  have f2 : (u1 (u1 (u1 Λ (1100 + sc S 1000) q0) (1110 + sc S 1000) q1) (1120 + sc S 1000) q2) (1120 + sc S 1000) = q2 := u1_at
  have b2 := hb'.1.2.2.1
  have b6 := hb'.1.1
  have bk := hb'.1.2.2.2
  have n1 : ¬ 1100 + sc S 1000 = 1110 + sc S 1000 := by omega
  have n2 : ¬ 1100 + sc S 1000 = 1120 + sc S 1000 := by omega
  have n3 : ¬ 1110 + sc S 1000 = 1100 + sc S 1000 := by omega
  have n4 : ¬ 1110 + sc S 1000 = 1120 + sc S 1000 := by omega
  have n5 : ¬ 1120 + sc S 1000 = 1100 + sc S 1000 := by omega
  have n6 : ¬ 1120 + sc S 1000 = 1110 + sc S 1000 := by omega
  rcases hs with rfl | rfl | rfl
  · have hp := hP.2 (1100 + sc S 1000) (qIn (qIn (qIn (qRn (qRn (qIn (qNn (by omega) (qRn (qNn (by omega) qNa)))))))))
    rw [f0] at hp
    obtain ⟨⟨-, -, p1, p2, p3⟩, p4, p5, p6, -⟩ := hp
    refine ⟨⟨?_, ?_⟩, ⟨fun h => absurd (zle_P (n := sc S 1000) (by omega)).2.2.2.1 h, fun k hk => ?_⟩, fun h => ?_, fun h => ?_, ⟨fun k h1 h2 => ?_, fun j => ?_⟩, fun i k hi hk h => ?_, fun j hj h => ?_⟩
    · rw [e0, (zki_P (n := sc S 1000) (by omega)).2.2.2.1]
      exact p1.trans (kIn (kIn (kIn (kRn (kRn (kIn (kNn (by omega) (kRn (kNn (by omega) kNa)))))))))
    · rw [e0]
      exact p3
    · rcases zpt_Pm (by omega) hk with ⟨rfl, g⟩ | ⟨rfl, g⟩
      · rw [g, e0, e1, p5]
        exact (rIn (rIn (rIn (rRk (by decide) (rRk (by decide) (rIn (rNn (by omega) rRa)))))))
      · rw [g, e0, e2, p5]
        exact (rIn (rIn (rIn rRa)))
    · rw [(zki_P (n := sc S 1000) (by omega)).2.2.2.1] at h
      exact absurd h (by decide)
    · omega
    · rw [e0, p4]
      show _ = fPV (sV S) 1100 (sc S 1000) 576 y e sh (1100 + sc S 1000) k
      simp only [fPV, u1, u2, n1, n2, n3, n4, n5, n6, if_true, if_false, and_true, and_false]
    · rw [e0, p6]
      show _ = fPW (sW S) 1100 (sc S 1000) (1100 + sc S 1000) j
      simp only [fPW, u1, u2, n1, n2, n3, n4, n5, n6, if_true, if_false]
    · have := bk i
      have hi : i < c' 0 := hi
      have hk : k < c' (10 + i) := hk
      omega
    · have : j < c' 2 := hj
      omega
  · have hp := hP.2 (1110 + sc S 1000) (qIn (qIn (qIn (qRn (qRn (qIn (qNn (by omega) (qRn qNa))))))))
    rw [f1] at hp
    obtain ⟨⟨-, -, p1, p2, p3⟩, p4, p5, p6, -⟩ := hp
    refine ⟨⟨?_, ?_⟩, ⟨fun _ => ?_, fun k hk => ?_⟩, fun h => ?_, fun h => ?_, ⟨fun k h1 h2 => ?_, fun j => ?_⟩, fun i k hi hk h => ?_, fun j hj h => ?_⟩
    · rw [e1, (zki_P (n := sc S 1000) (by omega)).2.2.2.2.1]
      exact p1.trans (kIn (kIn (kIn (kRn (kRn (kIn (kNn (by omega) (kRn kNa))))))))
    · rw [e1]
      exact p3
    · rw [e1, p2, (zle_P (n := sc S 1000) (by omega)).2.2.2.2.1]
      exact (u1_ne (f := u1 (u1 p0.2.2.1 (1100 + sc S 1000) 0) (1110 + sc S 1000) 10) n4).trans u1_at
    · have := zpt_dom hk
      omega
    · rw [(zki_P (n := sc S 1000) (by omega)).2.2.2.2.1] at h
      exact absurd h (by decide)
    · omega
    · rw [e1, p4]
      show _ = fPV (sV S) 1100 (sc S 1000) 576 y e sh (1110 + sc S 1000) k
      simp only [fPV, u1, u2, n1, n2, n3, n4, n5, n6, if_true, if_false, and_true, and_false]
    · rw [e1, p6]
      show _ = fPW (sW S) 1100 (sc S 1000) (1110 + sc S 1000) j
      simp only [fPW, u1, u2, n1, n2, n3, n4, n5, n6, if_true, if_false]
    · have := bk i
      have hi : i < c' 0 := hi
      have hk : k < c' (10 + i) := hk
      omega
    · have : j < c' 2 := hj
      omega
  · have hp := hP.2 (1120 + sc S 1000) (qIn (qIn (qIn (qRn (qRn (qIn qNa))))))
    rw [f2] at hp
    obtain ⟨⟨-, -, p1, p2, p3⟩, p4, p5, p6, -⟩ := hp
    have erw : zrw (1120 + sc S 1000) = 1130 + sc S 1000 := by
      unfold zrw
      rw [if_neg (by omega)]
      omega
    have hE := hG.emp
    refine ⟨⟨?_, ?_⟩, ⟨fun h => absurd (zle_P (n := sc S 1000) (by omega)).2.2.2.2.2 h, fun k hk => ?_⟩, fun h => ⟨⟨?_, ?_, ?_, Or.inl ⟨?_, ?_, ?_, ?_⟩, fun i hi => ?_⟩, fun h3 => ?_⟩, fun h => ?_, ⟨fun k h1 h2 => ?_, fun j => ?_⟩, fun i k hi hk h => ?_, fun j hj h => ?_⟩
    · rw [e2, (zki_P (n := sc S 1000) (by omega)).2.2.2.2.2]
      exact p1.trans (kIn (kIn (kIn (kRn (kRn (kIn kNa))))))
    · rw [e2]
      exact p3
    · have := zpt_dom hk
      omega
    · rw [e2]
      exact p1.trans (kIn (kIn (kIn (kRn (kRn (kIn kNa))))))
    · rw [e2, p4, show zct c' (1120 + sc S 1000) = 0 from (zct_T' (by omega)).trans h0]
      simp only [u1, u2, n1, n2, n3, n4, n5, n6, if_true, if_false, and_true, and_false]
      decide
    · rw [e2, p5, erw, e3]
      exact (rIn (rIn (rIn (rRk (by decide) rRa))))
    · rw [erw, e3]
      exact hE.1
    · rw [erw, e3]
      exact hE.2.1
    · exact (zct_T' (by omega)).trans h0
    · rw [erw, e3]
    · have h9 : i < zct c' (1120 + sc S 1000) := hi
      rw [zct_T' (by omega), h0] at h9
      exact absurd h9 (Nat.not_lt_zero i)
    · rw [erw, e3, hE.1] at h3
      exact absurd h3 (by decide)
    · omega
    · rw [e2, p4]
      show _ = fPV (sV S) 1100 (sc S 1000) 576 y e sh (1120 + sc S 1000) k
      simp only [fPV, u1, u2, n1, n2, n3, n4, n5, n6, if_true, if_false, and_true, and_false]
      rw [if_neg h1]
    · rw [e2, p6]
      show _ = fPW (sW S) 1100 (sc S 1000) (1120 + sc S 1000) j
      simp only [fPW, u1, u2, n1, n2, n3, n4, n5, n6, if_true, if_false]
    · have := bk i
      have hi : i < c' 0 := hi
      have hk : k < c' (10 + i) := hk
      omega
    · have : j < c' 2 := hj
      omega
end ZPITCH
