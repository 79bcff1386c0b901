/-! THE MODEL PLAYS: one minute -/
section ZMOD15
variable {Z : zPar} {l : Launch} {Λ : Nat → Nat} {S : zSt} {M M0 : zMem} {d d' : Nat} {mm : zMeth} {pc n nc ns ix nc1 ns1 : Nat} {L : List (Nat × Value)} {st : List Value} {Q : zO → zMem → Prop}
def mM1 (S : zSt) (A : Nat → Nat → Nat) (m : Nat) : zSt := fB1 S A m (sc S 1000)
def mM2 (S : zSt) (A : Nat → Nat → Nat) (B : Nat → Nat) (m : Nat) : zSt := fVsA (mM1 S A m) A B m (sc S 1002)
def mM3 (S : zSt) (A : Nat → Nat → Nat) (B : Nat → Nat) (m : Nat) : zSt := (sc S, sV (mM2 S A B m), sW (mM2 S A B m), sT (mM2 S A B m), fDP (mM2 S A B m) A m (sc S 1000))
def mM4 (S : zSt) (A : Nat → Nat → Nat) (B : Nat → Nat) (m k : Nat) : zSt := fG3 (mM3 S A B m) A (fDrk (mM2 S A B m) A m) m k
theorem mM1_c {A : Nat → Nat → Nat} {m : Nat} : sc (mM1 S A m) = sc S := fB1_c _
theorem mM2_c {A : Nat → Nat → Nat} {B : Nat → Nat} {m : Nat} : sc (mM2 S A B m) = sc S := (fVsA_c _).trans mM1_c
theorem fVsA_P {A : Nat → Nat → Nat} {B : Nat → Nat} {m : Nat} : ∀ n, sP (fVsA S A B m n) = sP S
  | 0 => rfl
  | n + 1 => fVsA_P n
theorem mM2_P {A : Nat → Nat → Nat} {B : Nat → Nat} {m : Nat} : sP (mM2 S A B m) = sP S := (fVsA_P _).trans (fB1_P _)
theorem k_min {q m : Nat} {A : Nat → Nat → Nat} {B : Nat → Nat} {C : Nat → Nat} {nc0 ns0 : Nat} (hR : zRp Z Λ S M) (h4 : sc S 4 = 1) (hA : zActs S A) (hB : zViss S B) (h9 : sP S 1010 = 1) (hq : sP S 1002 = q) (h6 : 600 ≤ m) (h12 : m < 1200)
    (hC : ∀ k, k < sc S 1000 → C (k + 1) ≤ C k ∧ (fAtM (mM4 S A B m k) k (nI m) < sc (mM4 S A B m k) (1010 + k) → fGivM (wV (mM4 S A B m k) (fGoM (mM4 S A B m k) k (1160 + 8 * k + fAtM (mM4 S A B m k) k (nI m)) (A k (fAtM (mM4 S A B m k) k (nI m))) m (fWetM (mM4 S A B m k) k m) (fDrk (mM2 S A B m) A m k))) (1160 + 8 * k + fAtM (mM4 S A B m k) k (nI m)) m → C (k + 1) + 1 ≤ C k))
    (kk : ∀ M', zRp Z Λ (mM4 S A B m (sc S 1000)) M' → zX Z l 6 mth_X16_play 44 [(0, .ref (Λ 1001)), (1, .ref q), (2, .int (nI (m + 1)))] [] M' (nc0 + 3 * C (sc S 1000)) (ns0 + 12 * C (sc S 1000)) Q) :
    zX Z l 6 mth_X16_play 44 [(0, .ref (Λ 1001)), (1, .ref q), (2, .int (nI m))] [] M (nc0 + 3 * C 0 + cVis (mM1 S A m) m (sc S 1002)) (ns0 + 12 * C 0 + 4 * cVis (mM1 S A m) m (sc S 1002)) Q := by
  have hb6 : sc S 1000 ≤ 6 := hR.bnd.2.1.1
  refine zs_iload_n (n := 45) dX16_play_44 rfl rfl ?_
  refine zs_sipush (v := 1199) (n := 48) dX16_play_45 (by decide) rfl ?_
  refine zs_icmp_gt (tgt := 242) (n := 51) dX16_play_48 (by decide) rfl (fun h => absurd h (nI_nlt (a := 1199) (b := m) (by omega) (by decide))) (fun _ => ?_)
  refine zs_iconst (v := 0) (n := 52) dX16_play_51 (by decide) rfl ?_
  refine zs_istore_n (n := 53) dX16_play_52 (by decide) rfl ?_
  refine zX.sub (L' := [(0, .ref (Λ 1001)), (1, .ref q), (2, .int (nI m)), (3, .int (nI 0))]) ⟨rfl, rfl, rfl, rfl, trivial⟩ ?_
  refine k_rnd1 hR h4 hA (fun M hR => ?_)
  have hR : zRp Z Λ (mM1 S A m) M := hR
  have h41 : sc (mM1 S A m) 4 = 1 := by rw [mM1_c]; exact h4
  have hA1 : zActs (mM1 S A m) A := hA.to mM1_c (fun r => fB1_k (by decide) (by decide) _)
  have hB1 : zViss (mM1 S A m) B := hB.to mM1_c (fun r => fB1_k (by decide) (by decide) _)
  refine zs_aload_n (n := 87) dX16_play_86 rfl rfl ?_
  refine zs_iload_n (n := 88) dX16_play_87 rfl rfl ?_
  refine zs_invV (d' := 5) (ci := 21) (As := [.int (nI m)]) (mc := cVis (mM1 S A m) m (sc (mM1 S A m) 1002)) (ms := 4 * cVis (mM1 S A m) m (sc (mM1 S A m) 1002)) (nc1 := nc0 + 3 * C 0) (ns1 := ns0 + 12 * C 0) (n := 91) (Post := fun o M1 => o = .inl none ∧ zRp Z Λ (mM2 S A B m) M1) dX16_play_88 ok_X16_visits ⟨ml_X16_297, im_X16_visits, sl_X16_visits⟩ rfl (hR.kd (lvM h41 (by omega))) rfl (Nat.le_of_ble_eq_true rfl) (by simp) rfl (by rw [mM1_c]; exact Nat.le_refl _) (by rw [mM1_c]; exact Nat.le_refl _) rfl rfl (k_visits hR h41 hA1 hB1 (fun M' hR' => ⟨rfl, by rw [mM1_c] at hR'; exact hR'⟩)) (fun k9 M1 h => nomatch h.1) (fun v M1 h => ?_)
  obtain ⟨h8, hR⟩ := h
  cases h8
  have h42 : sc (mM2 S A B m) 4 = 1 := by rw [mM2_c]; exact h4
  have hA2 : zActs (mM2 S A B m) A := hA1.to (fVsA_c _) (fun r => fVsA_k (by decide) (by decide) (by decide) (by decide) _)
  refine zs_iconst (v := 0) (n := 92) dX16_play_91 (by decide) rfl ?_
  refine zs_istore_n (n := 93) dX16_play_92 (by decide) rfl ?_
  refine zX.sub (L' := [(0, .ref (Λ 1001)), (1, .ref q), (2, .int (nI m)), (3, .int (nI 0))]) ⟨rfl, rfl, rfl, rfl, trivial⟩ ?_
  refine k_rnd2 hR h42 hA2 (by rw [mM2_P]; exact h9) (by rw [mM2_P]; exact hq) (fun M hR => ?_)
  rw [mM2_c] at hR
  have hR : zRp Z Λ (mM3 S A B m) M := hR
  refine zs_iconst (v := 0) (n := 175) dX16_play_174 (by decide) rfl ?_
  refine zs_istore_n (n := 176) dX16_play_175 (by decide) rfl ?_
  refine zX.sub (L' := [(0, .ref (Λ 1001)), (1, .ref q), (2, .int (nI m)), (3, .int (nI 0))]) ⟨rfl, rfl, rfl, rfl, trivial⟩ ?_
  have p9 : sP (mM3 S A B m) 1010 = 1 := (fDP_lo (Or.inr (by decide)) _ hb6).trans (by rw [mM2_P]; exact h9)
  have p2 : sP (mM3 S A B m) 1002 = q := (fDP_lo (Or.inl (by decide)) _ hb6).trans (by rw [mM2_P]; exact hq)
  refine k_rnd3 (C := C) (D := fDrk (mM2 S A B m) A m) hR h4 (hA2.to (S' := mM3 S A B m) (mM2_c (S := S) (A := A) (B := B) (m := m)).symm (fun _ => rfl)) p9 p2 h6 h12 (fun k hk => fDP_at _ hk) hC (fun M hR => ?_)
  refine zs_iinc (v := nI (m + 1)) (n := 239) dX16_play_236 rfl (nI_1 _) (by decide) rfl ?_
  refine zs_goto (tgt := 44) dX16_play_239 (by decide) ?_
  refine zX.sub (L' := [(0, .ref (Λ 1001)), (1, .ref q), (2, .int (nI (m + 1)))]) ⟨rfl, rfl, rfl, trivial⟩ ?_
  exact kk M hR
end ZMOD15
