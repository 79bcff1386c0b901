/-! OPERATIONS 10: the day is played on both sides -/
abbrev wp (T : zSt) (P : Nat → Nat) : zSt := (sc T, sV T, sW T, sT T, P)
section ZOP10A
variable {T : zSt} {P : Nat → Nat} {m k j : Nat} {A : Nat → Nat → Nat} {B : Nat → Nat} {D : Nat → Bool}
theorem fB1_wp : ∀ k, fB1 (wp T P) A m k = wp (fB1 T A m k) P
  | 0 => rfl
  | k + 1 => by
    show wV (fB1 (wp T P) A m k) (fBgM (fB1 (wp T P) A m k) A k (nI m)) = wp (wV (fB1 T A m k) (fBgM (fB1 T A m k) A k (nI m))) P
    rw [fB1_wp k]
    rfl
theorem fVsA_wp : ∀ k, fVsA (wp T P) A B m k = wp (fVsA T A B m k) P
  | 0 => rfl
  | k + 1 => by
    show wV (fVsA (wp T P) A B m k) (fV1M (fVsA (wp T P) A B m k) A B m k) = wp (wV (fVsA T A B m k) (fV1M (fVsA T A B m k) A B m k)) P
    rw [fVsA_wp k]
    rfl
theorem fG3_wp : ∀ k, fG3 (wp T P) A D m k = wp (fG3 T A D m k) P
  | 0 => rfl
  | k + 1 => by
    have e : ∀ X : zSt, fG3 X A D m (k + 1) = if fAtM (fG3 X A D m k) k (nI m) < sc (fG3 X A D m k) (1010 + k) then wV (fG3 X A D m k) (fGoes (fG3 X A D m k) k (1160 + 8 * k + fAtM (fG3 X A D m k) k (nI m)) (A k (fAtM (fG3 X A D m k) k (nI m))) m (D k)) else fG3 X A D m k := fun X => rfl
    rw [e, e, fG3_wp k]
    generalize fG3 T A D m k = U
    by_cases g : fAtM U k (nI m) < sc U (1010 + k)
    · rw [if_pos g, if_pos (show fAtM (wp U P) k (nI m) < sc (wp U P) (1010 + k) from g)]
      rfl
    · rw [if_neg g, if_neg (show ¬ fAtM (wp U P) k (nI m) < sc (wp U P) (1010 + k) from g)]
theorem mM2_wp : mM2 (wp T P) A B m = wp (mM2 T A B m) P := by
  show fVsA (fB1 (wp T P) A m (sc T 1000)) A B m (sc T 1002) = wp (fVsA (fB1 T A m (sc T 1000)) A B m (sc T 1002)) P
  rw [fB1_wp, fVsA_wp]
theorem mM4_wp : ∃ P', mM4 (wp T P) A B m k = wp (mM4 T A B m k) P' := by
  refine ⟨fDP (wp (mM2 T A B m) P) A m (sc T 1000), ?_⟩
  unfold mM4 mM3
  rw [mM2_wp]
  exact fG3_wp (T := (sc T, sV (mM2 T A B m), sW (mM2 T A B m), sT (mM2 T A B m), fDP (mM2 T A B m) A m (sc T 1000))) (P := fDP (wp (mM2 T A B m) P) A m (sc T 1000)) (D := fDrk (mM2 T A B m) A m) k
theorem mPl_wp : ∃ P', mPl (wp T P) A B j = wp (mPl T A B j) P' := by
  induction j with
  | zero => exact ⟨P, rfl⟩
  | succ j ih =>
    obtain ⟨P1, h1⟩ := ih
    show ∃ P', mM4 (mPl (wp T P) A B j) A B (600 + j) (sc T 1000) = wp (mM4 (mPl T A B j) A B (600 + j) (sc T 1000)) P'
    rw [h1]
    exact mM4_wp
end ZOP10A
section ZOP10
variable {Z : zPar} {l : Launch} {x m o od : Nat} {S : zSt}
abbrev sPl (S : zSt) : zSt := wP (wV S (gDay S)) 1000 (oN (cvI (gDay S 7 230)))
abbrev sPm (S : zSt) : zSt := mPl (mP0 (sPl S) 0) (sT S) (sP S) 600
theorem pl_base (hS : rRel S) (h0 : sV S 7 228 = 0) (q : Nat) : pRel S 600 (gDay0 S) (mP0 (sPl S) q) := by
  have b := day_rel hS (base_ok (T0 := mP0 S 0) hS h0 rfl rfl (fun r k _ h1 h2 h3 => by
    show u2 (u2 (u2 (sV S) 1001 672 0) 1001 688 0) 1001 680 1 r k = _
    rw [u2_k h3, u2_k h2, u2_k h1]) (by
    show u2 (u2 (u2 (sV S) 1001 672 0) 1001 688 0) 1001 680 1 1001 688 = 0
    rw [u2_k (by decide), u2_at])) 600 (Nat.le_refl _)
  refine base_ok hS h0 rfl rfl (fun r k h5 h1 h2 h3 => ?_) ?_
  · show u2 (u2 (u2 (gDay S) 1001 672 0) 1001 688 0) 1001 680 1 r k = _
    rw [u2_k h3, u2_k h2, u2_k h1]
    unfold gDay
    rw [u2_k (by omega), run_eq hS]
    exact b.1.1.1 r k (by unfold dC; omega)
  · show u2 (u2 (u2 (gDay S) 1001 672 0) 1001 688 0) 1001 680 1 1001 688 = 0
    rw [u2_k (by decide), u2_at]
theorem gDay_hi (hS : rRel S) (h0 : sV S 7 228 = 0) {r k : Nat} (h5 : 544 ≤ k) : gDay S r k = sV S r k := by
  have b := day_rel hS (pl_base hS h0 0) 600 (Nat.le_refl _)
  unfold gDay
  rw [u2_k (by omega), run_eq hS]
  exact b.1.1.1 r k (by unfold dC; omega)
theorem pl_end (hS : rRel S) (h0 : sV S 7 228 = 0) : rRel (wV S (sV (sPm S))) ∧ sV (sPm S) 1001 672 = 0 ∧ sV (sPm S) 1001 688 = gDay S 7 230 := by
  have b := day_rel hS (pl_base hS h0 0) 600 (Nat.le_refl _)
  have k680 : sV (sPm S) 1001 680 = 1 := by
    rw [mPl_k (by unfold dP; omega)]
    show u2 (u2 (u2 (gDay S) 1001 672 0) 1001 688 0) 1001 680 1 1001 680 = 1
    exact u2_at
  have k672 : sV (sPm S) 1001 672 = 0 := by
    rw [mPl_k (by unfold dP; omega)]
    show u2 (u2 (u2 (gDay S) 1001 672 0) 1001 688 0) 1001 680 1 1001 672 = 0
    rw [u2_k (by decide), u2_k (by decide), u2_at]
  have lo : ∀ r k, k < 544 → sV (sPm S) r k = gDay S r k := fun r k hk => by
    rw [mPl_k (by unfold dP; omega)]
    show u2 (u2 (u2 (gDay S) 1001 672 0) 1001 688 0) 1001 680 1 r k = _
    rw [u2_k (by omega), u2_k (by omega), u2_k (by omega)]
  refine ⟨day_end (t := gTj S 600) (T := sPm S) hS b (fun r k hk => ?_) (fun r k hk => rfl) k680, k672, ?_⟩
  · rw [lo r k hk]
    unfold gDay
    rw [u2_if, run_eq hS]
  · rw [b.2.2.2.1.2.1.1]
    unfold gDay
    rw [u2_k (by decide), run_eq hS]
theorem op_play (hS : rRel S) : zOp Z l x m o od mth_L_play mth_X16_play [.ref x, .ref o] [.ref m] cvI S := by
  have c0 := hS.c0
  have c1 := hS.c1
  have c2 := hS.c2
  have h3 := hS.h3
  have h4 := hS.h4
  have h5 := hS.h5
  have b0 := hS.b0
  have b1 := hS.b1
  have b2 := hS.b2
  have hd := hS.da.1.1
  by_cases hp : ¬ sV S 7 228 = 0
  · skip
    exact op_ex hS (wr_tw wr_L_play h3 (by omega) (by omega) (by omega) (fun Λ M hR => f_play_0 hR h3 hp) rfl)
      (md_g (by omega) (by omega) (by omega) (fun Λ M hR => k_play_1 hR h4 (by rw [hd]; exact hp))) (by decide)
  have h0 : sV S 7 228 = 0 := Decidable.byContradiction hp
  obtain ⟨e1, e2, e3⟩ := pl_end hS h0
  have hT : ∀ q j, j ≤ 600 → pRel S (600 + j) (gTj S j) (mPl (mP0 (sPl S) q) (sT S) (sP S) j) := fun q => day_rel hS (pl_base hS h0 q)
  have hg : pGf S 0 ≤ 48 := pot_le hS
  have hv : pVr S 0 ≤ sc S 2 := cnt_le _
  refine ⟨0, sV (sPm S) 1001 688, sPl S, wp (sPm S) (sP (sPl S)), wr_okG wr_L_play h3 h5 (by omega) (by omega) (by omega) (fun Λ M hR => f_play hR h3 h0 (fun j hj => (hS.vi j hj).2.2.1.2)), ?_, e2, fun _ => ?_, ?_⟩
  · refine md_c (d := 6) (mc := 3 * pGf S 0 + pVr S 0 + 1) (ms := 12 * pGf S 0 + 4 * pVr S 0 + 6) (by omega) (by omega) (by omega) (fun Λ M Q hR hQ => ?_)
    refine k_play (S := sPl S) (A := sT S) (B := sP S) (Cf := pCf S) (Gf := pGf S) (Vr := pVr S) hR h4 ?_ (fun i k hi hk => ?_) (fun j hj => ?_) ?_ (fun q => room_C hS rfl rfl (hT q) rfl) (room_G hS (hT 0)) (fun q => room_V hS (hT q)) (fun q M' hR' => ?_)
    · show gDay S 1001 680 = 0
      rw [gDay_hi hS h0 (by omega), hd]
      exact h0
    · have hi : i < sc S 1000 := hi
      have hk : k < sc S (1010 + i) := hk
      rw [c0] at hi
      rw [hS.ck hi] at hk
      show gDay S (1160 + 8 * i + k) 608 = _ ∧ _ < sc S 1001
      rw [gDay_hi hS h0 (by omega), c1]
      have g := (hS.tu i k hi hk).1
      exact ⟨g.2, g.1⟩
    · have hj : j < sc S 1002 := hj
      rw [c2] at hj
      show gDay S (1150 + j) 640 = _ ∧ _ < sc S 1000
      rw [gDay_hi hS h0 (by omega), c0]
      have g := (hS.vi j hj).1
      exact ⟨g.2, g.1⟩
    · show u1 (sP S) 1000 (oN (cvI (gDay S 7 230))) 1010 ≠ 1
      rw [u1_ne (by decide)]
      exact hS.p10
    · obtain ⟨P', hP⟩ := mPl_wp (T := mP0 (sPl S) 0) (P := bzP (sP (sPl S)) q) (A := sT S) (B := sP S) (j := 600)
      have hP : mPl (mP0 (sPl S) q) (sT S) (sP S) 600 = wp (sPm S) P' := hP
      rw [hP] at hR'
      rw [hP]
      exact hQ Λ M' hR' ⟨rfl, rfl, rfl, rfl⟩
  · show lN (u1 (sP S) 1000 (oN (cvI (gDay S 7 230))) 1000) = cvI (sV (sPm S) 1001 688)
    rw [u1_at, lN_oN, e3]
  · have hsm := (hT 0 600 (Nat.le_refl _)).1.2
    have hc : sc (sPm S) = sc S := hsm.1
    have hTW := mPl_TW (T := mP0 (sPl S) 0) (A := sT S) (B := sP S) 600
    refine e1.to hc hTW.1 hTW.2 (fun j hj => ?_) (fun r k _ => rfl)
    exact u1_ne (by omega)
end ZOP10
