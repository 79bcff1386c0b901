/-! THE MODEL PLAYS: all minutes -/
section ZMOD16
variable {Z : zPar} {l : Launch} {Λ : Nat → Nat} {S : zSt} {M M0 : zMem} {d d' : Nat} {mm : zMeth} {pc n nc ns ix nc1 ns1 : Nat} {L : List (Nat × Value)} {st : List Value} {Q : zO → zMem → Prop}
/-- a key that no minute writes -/
def zKq (key : Nat) : Prop := key = 608 ∨ key = 640 ∨ key = 641
theorem fGoes_q {i t a m r key : Nat} {dr : Bool} (h : zKq key) : fGoes S i t a m dr r key = sV S r key := by
  unfold zKq at h
  have e : sV (wV S (fGoM S i t a m (fWetM S i m) dr)) r key = sV S r key := by
    show fGoM S i t a m (fWetM S i m) dr r key = _
    unfold fGoM
    rw [u2_k (by omega), u2_k (by omega), u2_k (by omega)]
  unfold fGoes fEndM
  split
  · rw [u2_k (by omega), u2_k (by omega)]
    exact e
  · split
    · rw [fGv_k (by omega) (by omega) (by omega)]
      exact e
    · exact e
theorem fG3_q {A : Nat → Nat → Nat} {D : Nat → Bool} {m r key : Nat} (hq : zKq key) : ∀ k, sV (fG3 S A D m k) r key = sV S r key
  | 0 => rfl
  | k + 1 => by
    have h := fG3_q (A := A) (D := D) (m := m) (r := r) hq k
    have e : fG3 S A D m (k + 1) = if fAtM (fG3 S A D m k) k (nI m) < sc (fG3 S A D m k) (1010 + k) then wV (fG3 S A D m k) (fGoes (fG3 S A D m k) k (1160 + 8 * k + fAtM (fG3 S A D m k) k (nI m)) (A k (fAtM (fG3 S A D m k) k (nI m))) m (D k)) else fG3 S A D m k := rfl
    rw [e]
    split
    · exact (fGoes_q hq).trans h
    · exact h
theorem mM4_q {A : Nat → Nat → Nat} {B : Nat → Nat} {m r k key : Nat} (hq : zKq key) : sV (mM4 S A B m k) r key = sV S r key := by
  have h := hq
  unfold zKq at h
  refine (fG3_q hq k).trans ?_
  show sV (mM2 S A B m) r key = _
  exact (fVsA_k (by omega) (by omega) (by omega) (by omega) _).trans (fB1_k (by omega) (by omega) _)
theorem mM4_c {A : Nat → Nat → Nat} {B : Nat → Nat} {m k : Nat} : sc (mM4 S A B m k) = sc S := (fG3_s k).1
theorem mM4_P {A : Nat → Nat → Nat} {B : Nat → Nat} {m k j : Nat} (h6 : sc S 1000 ≤ 6) (hj : j < 1003 ∨ 1009 ≤ j) : sP (mM4 S A B m k) j = sP S j := by
  show sP (fG3 (mM3 S A B m) A (fDrk (mM2 S A B m) A m) m k) j = _
  rw [(fG3_s k).2]
  exact (fDP_lo hj _ h6).trans (by rw [mM2_P])
def mPl (S : zSt) (A : Nat → Nat → Nat) (B : Nat → Nat) (j : Nat) : zSt := zit (fun j T => mM4 T A B (600 + j) (sc S 1000)) j S
theorem mPl_c {A : Nat → Nat → Nat} {B : Nat → Nat} : ∀ j, sc (mPl S A B j) = sc S
  | 0 => rfl
  | j + 1 => mM4_c.trans (mPl_c j)
theorem mPl_q {A : Nat → Nat → Nat} {B : Nat → Nat} {r key : Nat} (hq : zKq key) : ∀ j, sV (mPl S A B j) r key = sV S r key
  | 0 => rfl
  | j + 1 => (mM4_q hq).trans (mPl_q hq j)
theorem mPl_P {A : Nat → Nat → Nat} {B : Nat → Nat} {i : Nat} (h6 : sc S 1000 ≤ 6) (hi : i < 1003 ∨ 1009 ≤ i) : ∀ j, sP (mPl S A B j) i = sP S i
  | 0 => rfl
  | j + 1 => (mM4_P (S := mPl S A B j) (by rw [mPl_c]; exact h6) hi).trans (mPl_P h6 hi j)
theorem k_plL {q : Nat} {A : Nat → Nat → Nat} {B : Nat → Nat} {Gf Vr : Nat → Nat} {Cf : Nat → Nat → Nat} (hR : zRp Z Λ S M) (h4 : sc S 4 = 1) (hA : zActs S A) (hB : zViss S B) (h9 : sP S 1010 = 1) (hq : sP S 1002 = q)
    (hC : ∀ j, j < 600 → ∀ k, k < sc S 1000 → Cf j (k + 1) ≤ Cf j k ∧ (fAtM (mM4 (mPl S A B j) A B (600 + j) k) k (nI (600 + j)) < sc S (1010 + k) → fGivM (wV (mM4 (mPl S A B j) A B (600 + j) k) (fGoM (mM4 (mPl S A B j) A B (600 + j) k) k (1160 + 8 * k + fAtM (mM4 (mPl S A B j) A B (600 + j) k) k (nI (600 + j))) (A k (fAtM (mM4 (mPl S A B j) A B (600 + j) k) k (nI (600 + j)))) (600 + j) (fWetM (mM4 (mPl S A B j) A B (600 + j) k) k (600 + j)) (fDrk (mM2 (mPl S A B j) A B (600 + j)) A (600 + j) k))) (1160 + 8 * k + fAtM (mM4 (mPl S A B j) A B (600 + j) k) k (nI (600 + j))) (600 + j) → Cf j (k + 1) + 1 ≤ Cf j k))
    (hG : ∀ j, j < 600 → Cf j 0 ≤ Gf j ∧ Gf (j + 1) ≤ Cf j (sc S 1000)) (hV : ∀ j, j < 600 → cVis (mM1 (mPl S A B j) A (600 + j)) (600 + j) (sc S 1002) + Vr (j + 1) ≤ Vr j)
    (hQ : ∀ M', zRp Z Λ (mPl S A B 600) M' → Q (.inl (some (.int (sV (mPl S A B 600) 1001 688)))) M') : zX Z l 6 mth_X16_play 44 [(0, .ref (Λ 1001)), (1, .ref q), (2, .int (nI (600 + 0)))] [] M (3 * Gf 0 + Vr 0) (12 * Gf 0 + 4 * Vr 0) Q := by
  have hb6 : sc S 1000 ≤ 6 := hR.bnd.2.1.1
  refine zloop (n := 600) (X := fun j => ∀ M, zRp Z Λ (mPl S A B j) M → zX Z l 6 mth_X16_play 44 [(0, .ref (Λ 1001)), (1, .ref q), (2, .int (nI (600 + j)))] [] M (3 * Gf j + Vr j) (12 * Gf j + 4 * Vr j) Q) (fun j hj ih => ?_) ?_ 0 (Nat.zero_le _) M hR
  · intro M hR
    have g1 := hG j hj
    have g2 := hV j hj
    have e0 : sc (mPl S A B j) = sc S := mPl_c j
    have h4j : sc (mPl S A B j) 4 = 1 := by rw [e0]; exact h4
    refine zX.more (k_min (S := mPl S A B j) (q := q) (m := 600 + j) (A := A) (B := B) (C := Cf j) (nc0 := Vr (j + 1)) (ns0 := 4 * Vr (j + 1)) hR h4j (hA.to e0 (fun r => mPl_q (Or.inl rfl) j)) (hB.to e0 (fun r => mPl_q (Or.inr (Or.inl rfl)) j)) ((mPl_P hb6 (Or.inr (by decide)) j).trans h9) ((mPl_P hb6 (Or.inl (by decide)) j).trans hq) (by omega) (by omega) (fun k hk => ?_) (fun M hR => ?_)) ?_ ?_
    · rw [e0] at hk
      have := hC j hj k hk
      rw [show sc (mM4 (mPl S A B j) A B (600 + j) k) = sc S from mM4_c.trans e0]
      exact this
    · rw [e0] at hR
      refine zX.more (ih M hR) ?_ ?_
      · rw [e0]
        omega
      · rw [e0]
        omega
    · rw [e0]
      omega
    · rw [e0]
      omega
  · intro M hR
    have h4j : sc (mPl S A B 600) 4 = 1 := by rw [mPl_c]; exact h4
    have hlM : zlv (sc (mPl S A B 600)) 1001 := lvM h4j (by omega)
    refine zs_iload_n (n := 45) dX16_play_44 rfl rfl ?_
    refine zs_sipush (v := 1199) (n := 48) dX16_play_45 (by decide) rfl ?_
    refine zs_icmp_gt (tgt := 242) (n := 51) dX16_play_48 (by decide) rfl (fun _ => ?_) (fun h => absurd (by decide) h)
    refine zs_aload_n (n := 243) dX16_play_242 rfl rfl ?_
    refine zs_getv (x := sV (mPl S A B 600) 1001 688) (n := 246) dX16_play_243 gf_X16_269 (hR.kd hlM) (hR.iv hlM (by decide) (by decide)) rfl ?_
    refine zs_ireturn dX16_play_246 ⟨_, rfl, rfl⟩ ?_
    exact hQ M hR
/-- the state as the minutes begin, and as they end -/
def mP0 (S : zSt) (q : Nat) : zSt := (sc S, u2 (u2 (u2 (sV S) 1001 672 0) 1001 688 0) 1001 680 1, sW S, sT S, bzP (sP S) q)
theorem k_pl0 {nc9 ns9 : Nat} (hR : zRp Z Λ S M) (h4 : sc S 4 = 1) (hp : sV S 1001 680 = 0) (kk : ∀ q M', zRp Z Λ (mP0 S q) M' → zX Z l 6 mth_X16_play 44 [(0, .ref (Λ 1001)), (1, .ref q), (2, .int (nI (600 + 0)))] [] M' nc9 ns9 Q) : zX Z l 6 mth_X16_play 0 (lv_args 0 [.ref (Λ 1001)]) [] M (nc9 + 1) (ns9 + 6) Q := by
  show zX Z l 6 mth_X16_play 0 [(0, .ref (Λ 1001))] [] M (nc9 + 1) (ns9 + 6) Q
  refine zs_aload_n (n := 1) dX16_play_0 rfl rfl ?_
  refine zs_aload_n (n := 2) dX16_play_1 rfl rfl ?_
  refine zs_getv (x := (sV S 1001 680)) (n := 5) dX16_play_2 gf_X16_161 (hR.kd (lvM h4 (by omega))) (hR.iv (lvM h4 (by omega)) (by decide) (by decide)) rfl ?_
  refine zs_if_eq (tgt := 12) (n := 8) dX16_play_5 (by decide) rfl (fun _ => ?_) (fun h => absurd hp h)
  refine zs_iconst (v := 0) (n := 13) dX16_play_12 (by decide) rfl ?_
  refine zw_i (r := 1001) (n := 16) dX16_play_13 pf_X16_play_43 hR (lvM h4 (by omega)) (hR.kd (lvM h4 (by omega))) ⟨rfl, rfl⟩ (by decide) rfl ?_
  intro M hR hv
  refine zs_aload_n (n := 17) dX16_play_16 rfl rfl ?_
  refine zs_getv (x := (0 : Int32)) (n := 20) dX16_play_17 gf_X16_43 (hR.kd (lvM h4 (by omega))) (hR.iv (lvM h4 (by omega)) (by decide) (by decide)) rfl ?_
  refine zs_if_le (tgt := 25) (n := 23) dX16_play_20 (by decide) rfl (fun _ => ?_) (fun h => absurd (by decide) h)
  refine zs_aload_n (n := 26) dX16_play_25 rfl rfl ?_
  refine zs_iconst (v := 0) (n := 27) dX16_play_26 (by decide) rfl ?_
  refine zw_i (r := 1001) (n := 30) dX16_play_27 pf_X16_play_269 hR (lvM h4 (by omega)) (hR.kd (lvM h4 (by omega))) ⟨rfl, rfl⟩ (by decide) rfl ?_
  intro M hR hv
  refine zs_aload_n (n := 31) dX16_play_30 rfl rfl ?_
  refine zs_iconst (v := 1) (n := 32) dX16_play_31 (by decide) rfl ?_
  refine zw_i (r := 1001) (n := 35) dX16_play_32 pf_X16_play_161 hR (lvM h4 (by omega)) (hR.kd (lvM h4 (by omega))) ⟨rfl, rfl⟩ (by decide) rfl ?_
  intro M hR hv
  refine zs_bipush (v := 6) (n := 37) dX16_play_35 (by decide) rfl ?_
  refine zb_new (nc1 := nc9) (ns1 := ns9) (n := 39) dX16_play_37 w_ac_boolean hR rfl (by omega) (by omega) (fun q M hR => ?_)
  refine zs_astore_n (n := 40) dX16_play_39 (by decide) rfl ?_
  refine zs_sipush (v := 600) (n := 43) dX16_play_40 (by decide) rfl ?_
  refine zs_istore_n (n := 44) dX16_play_43 (by decide) rfl ?_
  refine zX.sub (L' := [(0, .ref (Λ 1001)), (1, .ref q), (2, .int (nI (600 + 0)))]) ⟨rfl, rfl, rfl, trivial⟩ ?_
  exact kk q M hR
theorem bzP_lo {P : Nat → Nat} {q j : Nat} (hj : j < 1002) : bzP P q j = P j := by
  unfold bzP
  rw [if_neg (by omega), if_neg (by omega), if_neg (by omega)]
theorem bzP_10 {P : Nat → Nat} {q : Nat} : bzP P q 1010 = 1 := by
  unfold bzP
  rw [if_pos rfl]
theorem bzP_2 {P : Nat → Nat} {q : Nat} : bzP P q 1002 = q := by
  unfold bzP
  rw [if_neg (by decide), if_pos rfl]
theorem k_play {A : Nat → Nat → Nat} {B : Nat → Nat} {Gf Vr : Nat → Nat} {Cf : Nat → Nat → Nat} (hR : zRp Z Λ S M) (h4 : sc S 4 = 1) (hp : sV S 1001 680 = 0) (hA : zActs S A) (hB : zViss S B) (hoff : sP S 1010 ≠ 1)
    (hC : ∀ q j, j < 600 → ∀ k, k < sc S 1000 → Cf j (k + 1) ≤ Cf j k ∧ (fAtM (mM4 (mPl (mP0 S q) A B j) A B (600 + j) k) k (nI (600 + j)) < sc S (1010 + k) → fGivM (wV (mM4 (mPl (mP0 S q) A B j) A B (600 + j) k) (fGoM (mM4 (mPl (mP0 S q) A B j) A B (600 + j) k) k (1160 + 8 * k + fAtM (mM4 (mPl (mP0 S q) A B j) A B (600 + j) k) k (nI (600 + j))) (A k (fAtM (mM4 (mPl (mP0 S q) A B j) A B (600 + j) k) k (nI (600 + j)))) (600 + j) (fWetM (mM4 (mPl (mP0 S q) A B j) A B (600 + j) k) k (600 + j)) (fDrk (mM2 (mPl (mP0 S q) A B j) A B (600 + j)) A (600 + j) k))) (1160 + 8 * k + fAtM (mM4 (mPl (mP0 S q) A B j) A B (600 + j) k) k (nI (600 + j))) (600 + j) → Cf j (k + 1) + 1 ≤ Cf j k))
    (hG : ∀ j, j < 600 → Cf j 0 ≤ Gf j ∧ Gf (j + 1) ≤ Cf j (sc S 1000)) (hV : ∀ q j, j < 600 → cVis (mM1 (mPl (mP0 S q) A B j) A (600 + j)) (600 + j) (sc S 1002) + Vr (j + 1) ≤ Vr j)
    (hQ : ∀ q M', zRp Z Λ (sc (mPl (mP0 S q) A B 600), sV (mPl (mP0 S q) A B 600), sW (mPl (mP0 S q) A B 600), sT (mPl (mP0 S q) A B 600), sP S) M' → Q (.inl (some (.int (sV (mPl (mP0 S q) A B 600) 1001 688)))) M') : zX Z l 6 mth_X16_play 0 (lv_args 0 [.ref (Λ 1001)]) [] M (3 * Gf 0 + Vr 0 + 1) (12 * Gf 0 + 4 * Vr 0 + 6) Q := by
  have hb6 : sc S 1000 ≤ 6 := hR.bnd.2.1.1
  have hk : ∀ q r key, key ≠ 672 → key ≠ 688 → key ≠ 680 → sV (mP0 S q) r key = sV S r key := fun q r key h1 h2 h3 => by
    show u2 (u2 (u2 (sV S) 1001 672 0) 1001 688 0) 1001 680 1 r key = _
    rw [u2_k h3, u2_k h2, u2_k h1]
  refine k_pl0 hR h4 hp (fun q M1 hR1 => ?_)
  refine k_plL (S := mP0 S q) hR1 h4 (hA.to rfl (fun r => hk q r 608 (by decide) (by decide) (by decide))) (hB.to rfl (fun r => hk q r 640 (by decide) (by decide) (by decide))) (bzP_10 (P := sP S) (q := q)) (bzP_2 (P := sP S) (q := q)) (hC q) hG (hV q) (fun M' hR' => hQ q M' ?_)
  refine zRp_bz hR' (fun j hj => ?_) (fun h => absurd h hoff)
  have e := mPl_P (S := mP0 S q) (A := A) (B := B) (i := j) hb6 (Or.inl (by omega)) 600
  rw [e]
  exact (bzP_lo (P := sP S) (q := q) hj).symm
theorem k_play_1  (hR : zRp Z Λ S M) (h4 : sc S 4 = 1) (hp : ¬ sV S 1001 680 = 0) : zG Z l 2 mth_X16_play [.ref (Λ 1001)] M 0 0 (some (.int 0)) ((zRp Z Λ (mT S 1))) := by
  intro Q hQ
  show zX Z l 2 mth_X16_play 0 [(0, .ref (Λ 1001))] [] M 0 0 Q
  refine zs_aload_n (n := 1) dX16_play_0 rfl rfl ?_
  refine zs_aload_n (n := 2) dX16_play_1 rfl rfl ?_
  refine zs_getv (x := (sV S 1001 680)) (n := 5) dX16_play_2 gf_X16_161 (hR.kd (lvM h4 (by omega))) (hR.iv (lvM h4 (by omega)) (by decide) (by decide)) rfl ?_
  refine zs_if_eq (tgt := 12) (n := 8) dX16_play_5 (by decide) rfl (fun h => absurd h hp) (fun _ => ?_)
  refine zs_iconst (v := 1) (n := 9) dX16_play_8 (by decide) rfl ?_
  refine zs_goto (tgt := 13) dX16_play_9 (by decide) ?_
  refine zw_i (r := 1001) (n := 16) dX16_play_13 pf_X16_play_43 hR (lvM h4 (by omega)) (hR.kd (lvM h4 (by omega))) ⟨rfl, rfl⟩ (by decide) rfl ?_
  intro M hR hv
  refine zs_aload_n (n := 17) dX16_play_16 rfl rfl ?_
  refine zs_getv (x := (1 : Int32)) (n := 20) dX16_play_17 gf_X16_43 (hR.kd (lvM h4 (by omega))) (hR.iv (lvM h4 (by omega)) (by decide) (by decide)) rfl ?_
  refine zs_if_le (tgt := 25) (n := 23) dX16_play_20 (by decide) rfl (fun h => absurd h (by decide)) (fun _ => ?_)
  refine zs_iconst (v := 0) (n := 24) dX16_play_23 (by decide) rfl ?_
  refine zs_ireturn dX16_play_24 ⟨_, rfl, rfl⟩ ?_
  exact hQ _ hR
end ZMOD16
