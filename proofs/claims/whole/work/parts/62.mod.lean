/-! THE MODEL: leaves, what sets and what tells -/
section ZMOD
variable {Z : zPar} {l : Launch} {Λ : Nat → Nat} {S : zSt} {M : zMem} {d d' : Nat} {mm : zMeth} {pc n nc ns ix : Nat} {L : List (Nat × Value)} {st : List Value} {Q : zO → zMem → Prop}
def fIn (x a b : Int32) : Bool := decide (¬ x < a) && decide (¬ b < x)
theorem znb (b : Bool) : narrow .boolean (.int (zb b)) = .int (zb b) := by cases b <;> rfl
theorem fIn_t {x a b : Int32} (h1 : ¬ x < a) (h2 : x ≤ b) : fIn x a b = true := by
  unfold fIn
  rw [decide_eq_true h1, decide_eq_true (Int32.not_lt.mpr h2)]
  rfl
theorem fIn_f {x a b : Int32} (h : x < a ∨ ¬ x ≤ b) : fIn x a b = false := by
  unfold fIn
  rcases h with h | h
  · rw [decide_eq_false (fun e => e h)]
    rfl
  · rw [decide_eq_false (fun e => h (Int32.not_lt.mp e)), Bool.and_false]
theorem fIn_ix {i n : Nat} (h : i < n) (hn : n < 2 ^ 31) : fIn (nI i) 0 (nI n - 1) = true := by
  refine fIn_t (nI_pos (by omega)) ?_
  obtain ⟨k, rfl⟩ : ∃ k, n = k + 1 := ⟨n - 1, by omega⟩
  rw [nI_pred]
  exact nI_le (by omega) (by omega)
theorem fIn_no {p : Int32} {n : Nat} (hn : n < 2 ^ 30) (h : ¬ (¬ p < 0 ∧ ¬ nI n ≤ p)) : fIn p 0 (nI n - 1) = false := by
  refine fIn_f ?_
  by_cases h0 : p < 0
  · exact Or.inl h0
  · refine Or.inr (fun h9 => h ⟨h0, fun h8 => ?_⟩)
    obtain ⟨j, hj, rfl⟩ := nI_of h0
    have h7 := (nI_leI (by omega) hj).mp h8
    cases n with
    | zero =>
      have e : (nI 0 : Int32) - 1 = -1 := by decide
      rw [e] at h9
      have : ¬ (nI j ≤ -1) := fun h6 => absurd (Int32.lt_of_le_of_lt h6 (show (-1 : Int32) < 0 by decide)) (nI_pos hj)
      exact this h9
    | succ k =>
      rw [nI_pred] at h9
      have := (nI_leI hj (by omega)).mp h9
      omega
theorem zlc (x y : Int32) : lg_cmp x.toInt64 y.toInt64 < 0 ↔ x < y := by
  rw [lg_cmp_lt, Int64.lt_iff_toInt_lt, Int32.lt_iff_toInt_lt, Int32.toInt_toInt64, Int32.toInt_toInt64]
theorem zgc (x y : Int32) : 0 < lg_cmp x.toInt64 y.toInt64 ↔ y < x := by
  rw [lg_cmp_gt, Int64.lt_iff_toInt_lt, Int32.lt_iff_toInt_lt, Int32.toInt_toInt64, Int32.toInt_toInt64]
theorem m_in {v a b : Int64} {x lo hi : Int32} (h1 : v = x.toInt64) (h2 : a = lo.toInt64) (h3 : b = hi.toInt64) : zD Z l 0 mth_X16_in [.long v, .long a, .long b] M 0 0 (some (.int (zb (fIn x lo hi)))) M := by
  intro Q hQ
  subst h1 h2 h3
  show zX Z l 0 mth_X16_in 0 [(0, .long x.toInt64), (2, .long lo.toInt64), (4, .long hi.toInt64)] [] M 0 0 Q
  unfold fIn at hQ
  refine zs_lload_n (n := 1) dX16_in_0 rfl rfl ?_
  refine zs_lload_n (n := 2) dX16_in_1 rfl rfl ?_
  refine zs_lcmp (n := 3) dX16_in_2 rfl ?_
  refine zs_if_lt (tgt := 17) (n := 6) dX16_in_3 (by decide) rfl (fun h => ?_) (fun h => ?_)
  · refine zs_iconst (v := 0) (n := 18) dX16_in_17 (by decide) rfl ?_
    refine zs_ireturn dX16_in_18 ⟨_, rfl, rfl⟩ ?_
    rw [decide_eq_false (fun e => e ((zlc _ _).mp h))] at hQ
    exact hQ
  refine zs_lload_n (n := 7) dX16_in_6 rfl rfl ?_
  refine zs_lload (n := 9) dX16_in_7 rfl rfl ?_
  refine zs_lcmp (n := 10) dX16_in_9 rfl ?_
  refine zs_if_gt (tgt := 17) (n := 13) dX16_in_10 (by decide) rfl (fun h2 => ?_) (fun h2 => ?_)
  · refine zs_iconst (v := 0) (n := 18) dX16_in_17 (by decide) rfl ?_
    refine zs_ireturn dX16_in_18 ⟨_, rfl, rfl⟩ ?_
    rw [decide_eq_false (p := ¬ hi < x) (fun e => e ((zgc _ _).mp h2)), Bool.and_false] at hQ
    exact hQ
  · refine zs_iconst (v := 1) (n := 14) dX16_in_13 (by decide) rfl ?_
    refine zs_goto (tgt := 18) dX16_in_14 (by decide) ?_
    refine zs_ireturn dX16_in_18 ⟨_, rfl, rfl⟩ ?_
    rw [decide_eq_true (p := ¬ x < lo) (fun e => h ((zlc _ _).mpr e)), decide_eq_true (p := ¬ hi < x) (fun e => h2 ((zgc _ _).mpr e))] at hQ
    exact hQ
theorem zki_C : ∀ i, i < 8 → zki (1030 + i) = 2 ∧ zle (1030 + i) = 8 := by decide +kernel
theorem zRp.kC {i : Nat} (hR : zRp Z Λ S M) (h4 : sc S 4 = 1) (hi : i < 8) : mK M (Λ (1030 + i)) = 2 := (hR.kd (lvM h4 (by omega))).trans (zki_C i hi).1
theorem zRp.nC {i : Nat} (hR : zRp Z Λ S M) (h4 : sc S 4 = 1) (hi : i < 8) : mN M (Λ (1030 + i)) = 8 := hR.ln (lvM h4 (by omega)) (zki_C i hi).2 (by decide)
theorem m_isEmpty {p e c : Nat} {f : Nat → Nat} (h : zL Z M p e c f) : zD Z l 0 mth_Jx4a65c_isEmpty_aae02 [.ref p] M 0 0 (some (.int (zb (decide (c = 0))))) M := by
  intro Q hQ
  have hc := h.lt
  show zX Z l 0 mth_Jx4a65c_isEmpty_aae02 0 [(0, .ref p)] [] M 0 0 Q
  refine zs_aload_n (n := 1) dJx4a65c_isEmpty_aae02_0 rfl rfl ?_
  refine zs_getv (x := nI c) (n := 4) dJx4a65c_isEmpty_aae02_1 gf_Jx4a65c_48 h.1 h.2.1 rfl ?_
  refine zs_if_ne (tgt := 11) (n := 7) dJx4a65c_isEmpty_aae02_4 (by decide) rfl (fun h9 => ?_) (fun h9 => ?_)
  · refine zs_iconst (v := 0) (n := 12) dJx4a65c_isEmpty_aae02_11 (by decide) rfl ?_
    refine zs_ireturn dJx4a65c_isEmpty_aae02_12 ⟨_, rfl, rfl⟩ ?_
    rw [decide_eq_false (fun e => h9 (by rw [e]; decide))] at hQ
    exact hQ
  · refine zs_iconst (v := 1) (n := 8) dJx4a65c_isEmpty_aae02_7 (by decide) rfl ?_
    refine zs_goto (tgt := 12) dJx4a65c_isEmpty_aae02_8 (by decide) ?_
    refine zs_ireturn dJx4a65c_isEmpty_aae02_12 ⟨_, rfl, rfl⟩ ?_
    rw [decide_eq_true ((nI_eq (b := 0) (by omega) (by decide)).mp h9)] at hQ
    exact hQ
theorem zc_isEmpty {p e c : Nat} {f : Nat → Nat} (hd : decode (zMC mm) pc = .ok (.invokevirtual ix, 3)) (hw : zwd (.methodLink (zMY mm).cls ix yJx4a65c_isEmpty_aae02)) (hL : zL Z M p e c f) (hst : st.length ≤ 4) (hdd : 0 < d) (hn : pc + 3 = n) (kk : zX Z l d mm n L (.int (zb (decide (c = 0))) :: st) M nc ns Q) : zX Z l d mm pc L (.ref p :: st) M nc ns Q :=
  zc_V (ci := 4) (As := []) (mc := 0) (ms := 0) hd ok_Jx4a65c_isEmpty_aae02 ⟨hw, im_Jx4a65c_isEmpty_aae02, sl_Jx4a65c_isEmpty_aae02⟩ rfl hL.1 rfl (Nat.le_of_ble_eq_true rfl) hst hdd (Nat.le_refl _) (Nat.le_refl _) rfl hn (m_isEmpty hL) kk
/-- what was thrown is told -/
abbrev mT (S : zSt) (k : Int32) : zSt := (sc S, u2 (sV S) 1001 672 k, sW S, sT S, sP S)
theorem k_isPitch {p : Int32} (hR : zRp Z Λ S M) (h4 : sc S 4 = 1) : zD Z l 1 mth_X16_isPitch [.ref (Λ 1001), .int p] M 0 0 (some (.int (zb (fIn p (0 : Int32) (nI (sc S 1000) - (1 : Int32)))))) M := by
  intro Q hQ
  show zX Z l 1 mth_X16_isPitch 0 [(0, .ref (Λ 1001)), (1, .int p)] [] M 0 0 Q
  refine zs_iload_n (n := 1) dX16_isPitch_0 rfl rfl ?_
  refine zs_i2l (n := 2) dX16_isPitch_1 rfl ?_
  refine zs_lconst (v := 0) (n := 3) dX16_isPitch_2 (by decide) rfl ?_
  refine zs_aload_n (n := 4) dX16_isPitch_3 rfl rfl ?_
  refine zs_getr (b := (Λ 1015)) (n := 7) dX16_isPitch_4 gf_X16_10 (hR.kd (lvM h4 (by omega))) (hR.pt (lvM h4 (by omega)) rfl (by decide)) rfl ?_
  refine zc_size (c := sc S 1000) (n := 10) dX16_isPitch_7 ml_X16_46 (hR.lP' h4) (by simp) (by omega) rfl ?_
  refine zs_iconst (v := 1) (n := 11) dX16_isPitch_10 (by decide) rfl ?_
  refine zs_isub (n := 12) dX16_isPitch_11 rfl ?_
  refine zs_i2l (n := 13) dX16_isPitch_12 rfl ?_
  refine zc_S (n := 16) (As := [.long p.toInt64, .long (0 : Int64), .long ((nI (sc S 1000)) - (1 : Int32)).toInt64]) (mc := 0) (ms := 0) dX16_isPitch_13 ok_X16_in ⟨ml_X16_50, st_X16_in⟩ rfl (Nat.le_of_ble_eq_true rfl) (by simp) (by omega) (Nat.le_refl _) (Nat.le_refl _) rfl rfl (m_in (x := p) (lo := (0 : Int32)) (hi := ((nI (sc S 1000)) - (1 : Int32))) rfl (by first | rfl | decide) (by first | rfl | decide)) ?_
  refine zs_ireturn dX16_isPitch_16 ⟨_, rfl, (znb _)⟩ ?_
  exact hQ
theorem k_isAct {p : Int32} (hR : zRp Z Λ S M) (h4 : sc S 4 = 1) : zD Z l 1 mth_X16_isAct [.ref (Λ 1001), .int p] M 0 0 (some (.int (zb (fIn p (0 : Int32) (nI (sc S 1001) - (1 : Int32)))))) M := by
  intro Q hQ
  show zX Z l 1 mth_X16_isAct 0 [(0, .ref (Λ 1001)), (1, .int p)] [] M 0 0 Q
  refine zs_iload_n (n := 1) dX16_isAct_0 rfl rfl ?_
  refine zs_i2l (n := 2) dX16_isAct_1 rfl ?_
  refine zs_lconst (v := 0) (n := 3) dX16_isAct_2 (by decide) rfl ?_
  refine zs_aload_n (n := 4) dX16_isAct_3 rfl rfl ?_
  refine zs_getr (b := (Λ 1017)) (n := 7) dX16_isAct_4 gf_X16_16 (hR.kd (lvM h4 (by omega))) (hR.pt (lvM h4 (by omega)) rfl (by decide)) rfl ?_
  refine zc_size (c := sc S 1001) (n := 10) dX16_isAct_7 ml_X16_46 (hR.lA' h4) (by simp) (by omega) rfl ?_
  refine zs_iconst (v := 1) (n := 11) dX16_isAct_10 (by decide) rfl ?_
  refine zs_isub (n := 12) dX16_isAct_11 rfl ?_
  refine zs_i2l (n := 13) dX16_isAct_12 rfl ?_
  refine zc_S (n := 16) (As := [.long p.toInt64, .long (0 : Int64), .long ((nI (sc S 1001)) - (1 : Int32)).toInt64]) (mc := 0) (ms := 0) dX16_isAct_13 ok_X16_in ⟨ml_X16_50, st_X16_in⟩ rfl (Nat.le_of_ble_eq_true rfl) (by simp) (by omega) (Nat.le_refl _) (Nat.le_refl _) rfl rfl (m_in (x := p) (lo := (0 : Int32)) (hi := ((nI (sc S 1001)) - (1 : Int32))) rfl (by first | rfl | decide) (by first | rfl | decide)) ?_
  refine zs_ireturn dX16_isAct_16 ⟨_, rfl, (znb _)⟩ ?_
  exact hQ
theorem k_thrown  (hR : zRp Z Λ S M) (h4 : sc S 4 = 1) : zD Z l 0 mth_X16_thrown [.ref (Λ 1001)] M 0 0 (some (.int (sV S 1001 672))) M := by
  intro Q hQ
  show zX Z l 0 mth_X16_thrown 0 [(0, .ref (Λ 1001))] [] M 0 0 Q
  refine zs_aload_n (n := 1) dX16_thrown_0 rfl rfl ?_
  refine zs_getv (x := (sV S 1001 672)) (n := 4) dX16_thrown_1 gf_X16_43 (hR.kd (lvM h4 (by omega))) (hR.iv (lvM h4 (by omega)) (by decide) (by decide)) rfl ?_
  refine zs_ireturn dX16_thrown_4 ⟨_, rfl, rfl⟩ ?_
  exact hQ
theorem k_fines  (hR : zRp Z Λ S M) (h4 : sc S 4 = 1) : zG Z l 0 mth_X16_fines [.ref (Λ 1001)] M 0 0 (some (.int (sV S 1001 689))) ((zRp Z Λ (mT S 0))) := by
  intro Q hQ
  show zX Z l 0 mth_X16_fines 0 [(0, .ref (Λ 1001))] [] M 0 0 Q
  refine zs_aload_n (n := 1) dX16_fines_0 rfl rfl ?_
  refine zs_iconst (v := 0) (n := 2) dX16_fines_1 (by decide) rfl ?_
  refine zw_i (r := 1001) (n := 5) dX16_fines_2 pf_X16_fines_43 hR (lvM h4 (by omega)) (hR.kd (lvM h4 (by omega))) ⟨rfl, rfl⟩ (by decide) rfl ?_
  intro M hR hv
  refine zs_aload_n (n := 6) dX16_fines_5 rfl rfl ?_
  refine zs_getv (x := (sV S 1001 689)) (n := 9) dX16_fines_6 gf_X16_254 (hR.kd (lvM h4 (by omega))) (hR.iv (lvM h4 (by omega)) (by decide) (by decide)) rfl ?_
  refine zs_ireturn dX16_fines_9 ⟨_, rfl, rfl⟩ ?_
  exact hQ _ hR
theorem k_isSound  (hR : zRp Z Λ S M) (h4 : sc S 4 = 1) : zG Z l 0 mth_X16_isSound [.ref (Λ 1001)] M 0 0 (some (.int 1)) ((zRp Z Λ (mT S 0))) := by
  intro Q hQ
  show zX Z l 0 mth_X16_isSound 0 [(0, .ref (Λ 1001))] [] M 0 0 Q
  refine zs_aload_n (n := 1) dX16_isSound_0 rfl rfl ?_
  refine zs_iconst (v := 0) (n := 2) dX16_isSound_1 (by decide) rfl ?_
  refine zw_i (r := 1001) (n := 5) dX16_isSound_2 pf_X16_isSound_43 hR (lvM h4 (by omega)) (hR.kd (lvM h4 (by omega))) ⟨rfl, rfl⟩ (by decide) rfl ?_
  intro M hR hv
  refine zs_iconst (v := 1) (n := 6) dX16_isSound_5 (by decide) rfl ?_
  refine zs_ireturn dX16_isSound_6 ⟨_, rfl, rfl⟩ ?_
  exact hQ _ hR
theorem k_noAct_1 {p : Int32} (hR : zRp Z Λ S M) (h4 : sc S 4 = 1) (hx9 : ¬ (¬ p < 0 ∧ ¬ nI (sc S 1001) ≤ p)) : zG Z l 2 mth_X16_noAct [.ref (Λ 1001), .int p] M 0 0 (some (.int 1)) ((zRp Z Λ (mT S 1))) := by
  intro Q hQ
  have hb2 : sc S 1001 ≤ 8 := hR.bnd.2.1.2.1
  show zX Z l 2 mth_X16_noAct 0 [(0, .ref (Λ 1001)), (1, .int p)] [] M 0 0 Q
  refine zs_aload_n (n := 1) dX16_noAct_0 rfl rfl ?_
  refine zs_aload_n (n := 2) dX16_noAct_1 rfl rfl ?_
  refine zs_iload_n (n := 3) dX16_noAct_2 rfl rfl ?_
  refine zc_V (n := 6) (As := [.int p]) (ci := 21) (mc := 0) (ms := 0) dX16_noAct_3 ok_X16_isAct ⟨ml_X16_116, im_X16_isAct, sl_X16_isAct⟩ rfl (hR.kd (lvM h4 (by omega))) rfl (Nat.le_of_ble_eq_true rfl) (by simp) (by omega) (Nat.le_refl _) (Nat.le_refl _) rfl rfl (k_isAct hR h4) ?_
  refine zs_if_eq (tgt := 13) (n := 9) dX16_noAct_6 (by decide) rfl (fun _ => ?_) (fun h => absurd (zb0.mpr (fIn_no (by omega) hx9)) h)
  refine zs_iconst (v := 1) (n := 14) dX16_noAct_13 (by decide) rfl ?_
  refine zw_i (r := 1001) (n := 17) dX16_noAct_14 pf_X16_noAct_43 hR (lvM h4 (by omega)) (hR.kd (lvM h4 (by omega))) ⟨rfl, rfl⟩ (by decide) rfl ?_
  intro M hR hv
  refine zs_aload_n (n := 18) dX16_noAct_17 rfl rfl ?_
  refine zs_getv (x := (1 : Int32)) (n := 21) dX16_noAct_18 gf_X16_43 (hR.kd (lvM h4 (by omega))) (hR.iv (lvM h4 (by omega)) (by decide) (by decide)) rfl ?_
  refine zs_if_le (tgt := 28) (n := 24) dX16_noAct_21 (by decide) rfl (fun h => absurd h (by decide)) (fun _ => ?_)
  refine zs_iconst (v := 1) (n := 25) dX16_noAct_24 (by decide) rfl ?_
  refine zs_goto (tgt := 29) dX16_noAct_25 (by decide) ?_
  refine zs_ireturn dX16_noAct_29 ⟨_, rfl, rfl⟩ ?_
  exact hQ _ hR
theorem k_noAct_0 {a : Nat} (hR : zRp Z Λ S M) (h4 : sc S 4 = 1) (ha : a < sc S 1001) : zG Z l 2 mth_X16_noAct [.ref (Λ 1001), .int (nI a)] M 0 0 (some (.int 0)) ((zRp Z Λ (mT S 0))) := by
  intro Q hQ
  have hb2 : sc S 1001 ≤ 8 := hR.bnd.2.1.2.1
  show zX Z l 2 mth_X16_noAct 0 [(0, .ref (Λ 1001)), (1, .int (nI a))] [] M 0 0 Q
  refine zs_aload_n (n := 1) dX16_noAct_0 rfl rfl ?_
  refine zs_aload_n (n := 2) dX16_noAct_1 rfl rfl ?_
  refine zs_iload_n (n := 3) dX16_noAct_2 rfl rfl ?_
  refine zc_V (n := 6) (As := [.int (nI a)]) (ci := 21) (mc := 0) (ms := 0) dX16_noAct_3 ok_X16_isAct ⟨ml_X16_116, im_X16_isAct, sl_X16_isAct⟩ rfl (hR.kd (lvM h4 (by omega))) rfl (Nat.le_of_ble_eq_true rfl) (by simp) (by omega) (Nat.le_refl _) (Nat.le_refl _) rfl rfl (k_isAct hR h4) ?_
  refine zs_if_eq (tgt := 13) (n := 9) dX16_noAct_6 (by decide) rfl (fun h => absurd h (zb1.mpr (fIn_ix ha (by omega)))) (fun _ => ?_)
  refine zs_iconst (v := 0) (n := 10) dX16_noAct_9 (by decide) rfl ?_
  refine zs_goto (tgt := 14) dX16_noAct_10 (by decide) ?_
  refine zw_i (r := 1001) (n := 17) dX16_noAct_14 pf_X16_noAct_43 hR (lvM h4 (by omega)) (hR.kd (lvM h4 (by omega))) ⟨rfl, rfl⟩ (by decide) rfl ?_
  intro M hR hv
  refine zs_aload_n (n := 18) dX16_noAct_17 rfl rfl ?_
  refine zs_getv (x := (0 : Int32)) (n := 21) dX16_noAct_18 gf_X16_43 (hR.kd (lvM h4 (by omega))) (hR.iv (lvM h4 (by omega)) (by decide) (by decide)) rfl ?_
  refine zs_if_le (tgt := 28) (n := 24) dX16_noAct_21 (by decide) rfl (fun _ => ?_) (fun h => absurd (by decide) h)
  refine zs_iconst (v := 0) (n := 29) dX16_noAct_28 (by decide) rfl ?_
  refine zs_ireturn dX16_noAct_29 ⟨_, rfl, rfl⟩ ?_
  exact hQ _ hR
theorem k_setPassers_1 {p q r : Int32} (hR : zRp Z Λ S M) (h4 : sc S 4 = 1) (hx9 : ¬ (¬ p < 0 ∧ ¬ nI (sc S 1000) ≤ p)) : zG Z l 2 mth_X16_setPassers [.ref (Λ 1001), .int p, .int q, .int r] M 0 0 (some (.int 0)) ((zRp Z Λ (mT S 1))) := by
  intro Q hQ
  have hb1 : sc S 1000 ≤ 6 := hR.bnd.2.1.1
  show zX Z l 2 mth_X16_setPassers 0 [(0, .ref (Λ 1001)), (1, .int p), (2, .int q), (3, .int r)] [] M 0 0 Q
  refine zs_aload_n (n := 1) dX16_setPassers_0 rfl rfl ?_
  refine zs_aload_n (n := 2) dX16_setPassers_1 rfl rfl ?_
  refine zs_iload_n (n := 3) dX16_setPassers_2 rfl rfl ?_
  refine zc_V (n := 6) (As := [.int p]) (ci := 21) (mc := 0) (ms := 0) dX16_setPassers_3 ok_X16_isPitch ⟨ml_X16_84, im_X16_isPitch, sl_X16_isPitch⟩ rfl (hR.kd (lvM h4 (by omega))) rfl (Nat.le_of_ble_eq_true rfl) (by simp) (by omega) (Nat.le_refl _) (Nat.le_refl _) rfl rfl (k_isPitch hR h4) ?_
  refine zs_if_ne (tgt := 13) (n := 9) dX16_setPassers_6 (by decide) rfl (fun h => absurd (zb0.mpr (fIn_no (by omega) hx9)) h) (fun _ => ?_)
  refine zs_iconst (v := 1) (n := 10) dX16_setPassers_9 (by decide) rfl ?_
  refine zs_goto (tgt := 44) dX16_setPassers_10 (by decide) ?_
  refine zw_i (r := 1001) (n := 47) dX16_setPassers_44 pf_X16_setPassers_43 hR (lvM h4 (by omega)) (hR.kd (lvM h4 (by omega))) ⟨rfl, rfl⟩ (by decide) rfl ?_
  intro M hR hv
  refine zs_aload_n (n := 48) dX16_setPassers_47 rfl rfl ?_
  refine zs_getv (x := (1 : Int32)) (n := 51) dX16_setPassers_48 gf_X16_43 (hR.kd (lvM h4 (by omega))) (hR.iv (lvM h4 (by omega)) (by decide) (by decide)) rfl ?_
  refine zs_if_le (tgt := 56) (n := 54) dX16_setPassers_51 (by decide) rfl (fun h => absurd h (by decide)) (fun _ => ?_)
  refine zs_iconst (v := 0) (n := 55) dX16_setPassers_54 (by decide) rfl ?_
  refine zs_ireturn dX16_setPassers_55 ⟨_, rfl, rfl⟩ ?_
  exact hQ _ hR
theorem k_setPassers_2 {i : Nat} {q r : Int32} (hR : zRp Z Λ S M) (h4 : sc S 4 = 1) (hi : i < sc S 1000) (hx9 : q < 10 ∨ ¬ q ≤ 19) : zG Z l 2 mth_X16_setPassers [.ref (Λ 1001), .int (nI i), .int q, .int r] M 0 0 (some (.int 0)) ((zRp Z Λ (mT S 2))) := by
  intro Q hQ
  have hb1 : sc S 1000 ≤ 6 := hR.bnd.2.1.1
  show zX Z l 2 mth_X16_setPassers 0 [(0, .ref (Λ 1001)), (1, .int (nI i)), (2, .int q), (3, .int r)] [] M 0 0 Q
  refine zs_aload_n (n := 1) dX16_setPassers_0 rfl rfl ?_
  refine zs_aload_n (n := 2) dX16_setPassers_1 rfl rfl ?_
  refine zs_iload_n (n := 3) dX16_setPassers_2 rfl rfl ?_
  refine zc_V (n := 6) (As := [.int (nI i)]) (ci := 21) (mc := 0) (ms := 0) dX16_setPassers_3 ok_X16_isPitch ⟨ml_X16_84, im_X16_isPitch, sl_X16_isPitch⟩ rfl (hR.kd (lvM h4 (by omega))) rfl (Nat.le_of_ble_eq_true rfl) (by simp) (by omega) (Nat.le_refl _) (Nat.le_refl _) rfl rfl (k_isPitch hR h4) ?_
  refine zs_if_ne (tgt := 13) (n := 9) dX16_setPassers_6 (by decide) rfl (fun _ => ?_) (fun h => absurd h (zb1.mpr (fIn_ix hi (by omega))))
  refine zs_iload_n (n := 14) dX16_setPassers_13 rfl rfl ?_
  refine zs_i2l (n := 15) dX16_setPassers_14 rfl ?_
  refine zs_ldc2 (n := 18) dX16_setPassers_15 ct_X16_88 rfl ?_
  refine zs_ldc2 (n := 21) dX16_setPassers_18 ct_X16_90 rfl ?_
  refine zc_S (n := 24) (As := [.long q.toInt64, .long (10 : Int64), .long (19 : Int64)]) (mc := 0) (ms := 0) dX16_setPassers_21 ok_X16_in ⟨ml_X16_50, st_X16_in⟩ rfl (Nat.le_of_ble_eq_true rfl) (by simp) (by omega) (Nat.le_refl _) (Nat.le_refl _) rfl rfl (m_in (x := q) (lo := (10 : Int32)) (hi := (19 : Int32)) rfl (by first | rfl | decide) (by first | rfl | decide)) ?_
  refine zs_if_eq (tgt := 39) (n := 27) dX16_setPassers_24 (by decide) rfl (fun _ => ?_) (fun h => absurd (zb0.mpr (fIn_f hx9)) h)
  refine zs_iconst (v := 2) (n := 40) dX16_setPassers_39 (by decide) rfl ?_
  refine zs_goto (tgt := 44) dX16_setPassers_40 (by decide) ?_
  refine zw_i (r := 1001) (n := 47) dX16_setPassers_44 pf_X16_setPassers_43 hR (lvM h4 (by omega)) (hR.kd (lvM h4 (by omega))) ⟨rfl, rfl⟩ (by decide) rfl ?_
  intro M hR hv
  refine zs_aload_n (n := 48) dX16_setPassers_47 rfl rfl ?_
  refine zs_getv (x := (2 : Int32)) (n := 51) dX16_setPassers_48 gf_X16_43 (hR.kd (lvM h4 (by omega))) (hR.iv (lvM h4 (by omega)) (by decide) (by decide)) rfl ?_
  refine zs_if_le (tgt := 56) (n := 54) dX16_setPassers_51 (by decide) rfl (fun h => absurd h (by decide)) (fun _ => ?_)
  refine zs_iconst (v := 0) (n := 55) dX16_setPassers_54 (by decide) rfl ?_
  refine zs_ireturn dX16_setPassers_55 ⟨_, rfl, rfl⟩ ?_
  exact hQ _ hR
theorem k_setPassers_3 {i : Nat} {q r : Int32} (hR : zRp Z Λ S M) (h4 : sc S 4 = 1) (hi : i < sc S 1000) (g1 : ¬ q < 10) (g2 : q ≤ 19) (hx9 : r < 0 ∨ ¬ r ≤ 600) : zG Z l 2 mth_X16_setPassers [.ref (Λ 1001), .int (nI i), .int q, .int r] M 0 0 (some (.int 0)) ((zRp Z Λ (mT S 2))) := by
  intro Q hQ
  have hb1 : sc S 1000 ≤ 6 := hR.bnd.2.1.1
  show zX Z l 2 mth_X16_setPassers 0 [(0, .ref (Λ 1001)), (1, .int (nI i)), (2, .int q), (3, .int r)] [] M 0 0 Q
  refine zs_aload_n (n := 1) dX16_setPassers_0 rfl rfl ?_
  refine zs_aload_n (n := 2) dX16_setPassers_1 rfl rfl ?_
  refine zs_iload_n (n := 3) dX16_setPassers_2 rfl rfl ?_
  refine zc_V (n := 6) (As := [.int (nI i)]) (ci := 21) (mc := 0) (ms := 0) dX16_setPassers_3 ok_X16_isPitch ⟨ml_X16_84, im_X16_isPitch, sl_X16_isPitch⟩ rfl (hR.kd (lvM h4 (by omega))) rfl (Nat.le_of_ble_eq_true rfl) (by simp) (by omega) (Nat.le_refl _) (Nat.le_refl _) rfl rfl (k_isPitch hR h4) ?_
  refine zs_if_ne (tgt := 13) (n := 9) dX16_setPassers_6 (by decide) rfl (fun _ => ?_) (fun h => absurd h (zb1.mpr (fIn_ix hi (by omega))))
  refine zs_iload_n (n := 14) dX16_setPassers_13 rfl rfl ?_
  refine zs_i2l (n := 15) dX16_setPassers_14 rfl ?_
  refine zs_ldc2 (n := 18) dX16_setPassers_15 ct_X16_88 rfl ?_
  refine zs_ldc2 (n := 21) dX16_setPassers_18 ct_X16_90 rfl ?_
  refine zc_S (n := 24) (As := [.long q.toInt64, .long (10 : Int64), .long (19 : Int64)]) (mc := 0) (ms := 0) dX16_setPassers_21 ok_X16_in ⟨ml_X16_50, st_X16_in⟩ rfl (Nat.le_of_ble_eq_true rfl) (by simp) (by omega) (Nat.le_refl _) (Nat.le_refl _) rfl rfl (m_in (x := q) (lo := (10 : Int32)) (hi := (19 : Int32)) rfl (by first | rfl | decide) (by first | rfl | decide)) ?_
  refine zs_if_eq (tgt := 39) (n := 27) dX16_setPassers_24 (by decide) rfl (fun h => absurd h (zb1.mpr (fIn_t g1 g2))) (fun _ => ?_)
  refine zs_iload_n (n := 28) dX16_setPassers_27 rfl rfl ?_
  refine zs_i2l (n := 29) dX16_setPassers_28 rfl ?_
  refine zs_lconst (v := 0) (n := 30) dX16_setPassers_29 (by decide) rfl ?_
  refine zs_ldc2 (n := 33) dX16_setPassers_30 ct_X16_92 rfl ?_
  refine zc_S (n := 36) (As := [.long r.toInt64, .long (0 : Int64), .long (600 : Int64)]) (mc := 0) (ms := 0) dX16_setPassers_33 ok_X16_in ⟨ml_X16_50, st_X16_in⟩ rfl (Nat.le_of_ble_eq_true rfl) (by simp) (by omega) (Nat.le_refl _) (Nat.le_refl _) rfl rfl (m_in (x := r) (lo := (0 : Int32)) (hi := (600 : Int32)) rfl (by first | rfl | decide) (by first | rfl | decide)) ?_
  refine zs_if_ne (tgt := 43) (n := 39) dX16_setPassers_36 (by decide) rfl (fun h => absurd (zb0.mpr (fIn_f hx9)) h) (fun _ => ?_)
  refine zs_iconst (v := 2) (n := 40) dX16_setPassers_39 (by decide) rfl ?_
  refine zs_goto (tgt := 44) dX16_setPassers_40 (by decide) ?_
  refine zw_i (r := 1001) (n := 47) dX16_setPassers_44 pf_X16_setPassers_43 hR (lvM h4 (by omega)) (hR.kd (lvM h4 (by omega))) ⟨rfl, rfl⟩ (by decide) rfl ?_
  intro M hR hv
  refine zs_aload_n (n := 48) dX16_setPassers_47 rfl rfl ?_
  refine zs_getv (x := (2 : Int32)) (n := 51) dX16_setPassers_48 gf_X16_43 (hR.kd (lvM h4 (by omega))) (hR.iv (lvM h4 (by omega)) (by decide) (by decide)) rfl ?_
  refine zs_if_le (tgt := 56) (n := 54) dX16_setPassers_51 (by decide) rfl (fun h => absurd h (by decide)) (fun _ => ?_)
  refine zs_iconst (v := 0) (n := 55) dX16_setPassers_54 (by decide) rfl ?_
  refine zs_ireturn dX16_setPassers_55 ⟨_, rfl, rfl⟩ ?_
  exact hQ _ hR
theorem k_setPassers {i hh : Nat} {r : Int32} (hR : zRp Z Λ S M) (h4 : sc S 4 = 1) (hi : i < sc S 1000) (g1 : ¬ nI hh < 10) (g2 : nI hh ≤ 19) (g3 : 10 ≤ hh) (g4 : hh < 20) (g5 : ¬ r < 0) (g6 : r ≤ 600) : zG Z l 3 mth_X16_setPassers [.ref (Λ 1001), .int (nI i), .int (nI hh), .int r] M 0 0 (some (.int (sW S (1110 + i) (hh - 10)))) (zRp Z Λ (sc S, u2 (sV S) 1001 672 0, u2 (sW S) (1110 + i) (hh - 10) r, sT S, sP S)) := by
  intro Q hQ
  have hb1 : sc S 1000 ≤ 6 := hR.bnd.2.1.1
  show zX Z l 3 mth_X16_setPassers 0 [(0, .ref (Λ 1001)), (1, .int (nI i)), (2, .int (nI hh)), (3, .int r)] [] M 0 0 Q
  refine zs_aload_n (n := 1) dX16_setPassers_0 rfl rfl ?_
  refine zs_aload_n (n := 2) dX16_setPassers_1 rfl rfl ?_
  refine zs_iload_n (n := 3) dX16_setPassers_2 rfl rfl ?_
  refine zc_V (n := 6) (As := [.int (nI i)]) (ci := 21) (mc := 0) (ms := 0) dX16_setPassers_3 ok_X16_isPitch ⟨ml_X16_84, im_X16_isPitch, sl_X16_isPitch⟩ rfl (hR.kd (lvM h4 (by omega))) rfl (Nat.le_of_ble_eq_true rfl) (by simp) (by omega) (Nat.le_refl _) (Nat.le_refl _) rfl rfl (k_isPitch hR h4) ?_
  refine zs_if_ne (tgt := 13) (n := 9) dX16_setPassers_6 (by decide) rfl (fun _ => ?_) (fun h => absurd h (zb1.mpr (fIn_ix hi (by omega))))
  refine zs_iload_n (n := 14) dX16_setPassers_13 rfl rfl ?_
  refine zs_i2l (n := 15) dX16_setPassers_14 rfl ?_
  refine zs_ldc2 (n := 18) dX16_setPassers_15 ct_X16_88 rfl ?_
  refine zs_ldc2 (n := 21) dX16_setPassers_18 ct_X16_90 rfl ?_
  refine zc_S (n := 24) (As := [.long (nI hh).toInt64, .long (10 : Int64), .long (19 : Int64)]) (mc := 0) (ms := 0) dX16_setPassers_21 ok_X16_in ⟨ml_X16_50, st_X16_in⟩ rfl (Nat.le_of_ble_eq_true rfl) (by simp) (by omega) (Nat.le_refl _) (Nat.le_refl _) rfl rfl (m_in (x := (nI hh)) (lo := (10 : Int32)) (hi := (19 : Int32)) rfl (by first | rfl | decide) (by first | rfl | decide)) ?_
  refine zs_if_eq (tgt := 39) (n := 27) dX16_setPassers_24 (by decide) rfl (fun h => absurd h (zb1.mpr (fIn_t g1 g2))) (fun _ => ?_)
  refine zs_iload_n (n := 28) dX16_setPassers_27 rfl rfl ?_
  refine zs_i2l (n := 29) dX16_setPassers_28 rfl ?_
  refine zs_lconst (v := 0) (n := 30) dX16_setPassers_29 (by decide) rfl ?_
  refine zs_ldc2 (n := 33) dX16_setPassers_30 ct_X16_92 rfl ?_
  refine zc_S (n := 36) (As := [.long r.toInt64, .long (0 : Int64), .long (600 : Int64)]) (mc := 0) (ms := 0) dX16_setPassers_33 ok_X16_in ⟨ml_X16_50, st_X16_in⟩ rfl (Nat.le_of_ble_eq_true rfl) (by simp) (by omega) (Nat.le_refl _) (Nat.le_refl _) rfl rfl (m_in (x := r) (lo := (0 : Int32)) (hi := (600 : Int32)) rfl (by first | rfl | decide) (by first | rfl | decide)) ?_
  refine zs_if_ne (tgt := 43) (n := 39) dX16_setPassers_36 (by decide) rfl (fun _ => ?_) (fun h => absurd h (zb1.mpr (fIn_t g5 g6)))
  refine zs_iconst (v := 0) (n := 44) dX16_setPassers_43 (by decide) rfl ?_
  refine zw_i (r := 1001) (n := 47) dX16_setPassers_44 pf_X16_setPassers_43 hR (lvM h4 (by omega)) (hR.kd (lvM h4 (by omega))) ⟨rfl, rfl⟩ (by decide) rfl ?_
  intro M hR hv
  refine zs_aload_n (n := 48) dX16_setPassers_47 rfl rfl ?_
  refine zs_getv (x := (0 : Int32)) (n := 51) dX16_setPassers_48 gf_X16_43 (hR.kd (lvM h4 (by omega))) (hR.iv (lvM h4 (by omega)) (by decide) (by decide)) rfl ?_
  refine zs_if_le (tgt := 56) (n := 54) dX16_setPassers_51 (by decide) rfl (fun _ => ?_) (fun h => absurd (by decide) h)
  refine zs_aload_n (n := 57) dX16_setPassers_56 rfl rfl ?_
  refine zs_getr (b := (Λ 1015)) (n := 60) dX16_setPassers_57 gf_X16_10 (hR.kd (lvM h4 (by omega))) (hR.pt (lvM h4 (by omega)) rfl (by decide)) rfl ?_
  refine zs_iload_n (n := 61) dX16_setPassers_60 rfl rfl ?_
  refine zc_getb (c := sc S 1000) (b := (Λ (1100 + i))) (n := 64) dX16_setPassers_61 ml_X16_94 (hR.lP' h4) hi rfl (by simp) (by omega) rfl ?_
  refine zs_castS (ci := 18) (n := 67) dX16_setPassers_64 rfl cl_X16_68 (hR.kP' hi) rfl ?_
  refine zs_getr (b := (Λ (1110 + i))) (n := 70) dX16_setPassers_67 gf_X16_98 (hR.kP' hi) (hR.pQ' hi) rfl ?_
  refine zs_iload_n (n := 71) dX16_setPassers_70 rfl rfl ?_
  refine zs_bipush (v := 10) (n := 73) dX16_setPassers_71 (by decide) rfl ?_
  refine zs_isub (n := 74) dX16_setPassers_73 rfl ?_
  rw [show nI hh - (10 : Int32) = nI (hh - 10) from pk_sub g3]
  refine zs_ialdv (x := (sW (sc S, u2 (sV S) 1001 672 (0 : Int32), sW S, sT S, sP S) (1110 + i) (hh - 10))) (n := 75) dX16_setPassers_74 (hR.kQ' hi) (by rw [show mN M (Λ (1110 + i)) = 10 from (hR.nQ' hi)]; exact vp_in_nI (by first | exact (show hh - 10 < 10 from by omega) | omega) (by omega)) (by rw [nI_clamp (by omega)]; exact hR.av (lvQ' hi)) rfl ?_
  refine zs_istore (n := 77) dX16_setPassers_75 (by decide) rfl ?_
  refine zs_aload_n (n := 78) dX16_setPassers_77 rfl rfl ?_
  refine zs_getr (b := (Λ 1015)) (n := 81) dX16_setPassers_78 gf_X16_10 (hR.kd (lvM h4 (by omega))) (hR.pt (lvM h4 (by omega)) rfl (by decide)) rfl ?_
  refine zs_iload_n (n := 82) dX16_setPassers_81 rfl rfl ?_
  refine zc_getb (c := sc S 1000) (b := (Λ (1100 + i))) (n := 85) dX16_setPassers_82 ml_X16_94 (hR.lP' h4) hi rfl (by simp) (by omega) rfl ?_
  refine zs_castS (ci := 18) (n := 88) dX16_setPassers_85 rfl cl_X16_68 (hR.kP' hi) rfl ?_
  refine zs_getr (b := (Λ (1110 + i))) (n := 91) dX16_setPassers_88 gf_X16_98 (hR.kP' hi) (hR.pQ' hi) rfl ?_
  refine zs_iload_n (n := 92) dX16_setPassers_91 rfl rfl ?_
  refine zs_bipush (v := 10) (n := 94) dX16_setPassers_92 (by decide) rfl ?_
  refine zs_isub (n := 95) dX16_setPassers_94 rfl ?_
  rw [show nI hh - (10 : Int32) = nI (hh - 10) from pk_sub g3]
  refine zs_iload_n (n := 96) dX16_setPassers_95 rfl rfl ?_
  refine zw_ai (r := (1110 + i)) (n := 97) dX16_setPassers_96 hR (lvQ' hi) (hR.kQ' hi) (by rw [show mN M (Λ (1110 + i)) = 10 from (hR.nQ' hi)]; exact vp_in_nI (by first | exact (show hh - 10 < 10 from by omega) | omega) (by omega)) rfl ?_
  rw [nI_clamp (by omega)]
  intro M hR hv
  refine zs_iload (n := 99) dX16_setPassers_97 rfl rfl ?_
  refine zs_ireturn dX16_setPassers_99 ⟨_, rfl, rfl⟩ ?_
  exact hQ _ hR
def fPassM (S : zSt) (i : Nat) (m : Nat) : Int32 := sW S (1110 + i) (m / 60 - 10) * (nI (m % 60) + 1) / 60 - sW S (1110 + i) (m / 60 - 10) * nI (m % 60) / 60
theorem k_passers {i m : Nat} (hR : zRp Z Λ S M) (h4 : sc S 4 = 1) (hi : i < sc S 1000) (h6 : 600 ≤ m) (h12 : m < 1200) : zD Z l 0 mth_X13_passers [.ref (Λ (1100 + i)), .int (nI m)] M 0 0 (some (.int (fPassM S i m))) M := by
  intro Q hQ
  show zX Z l 0 mth_X13_passers 0 [(0, .ref (Λ (1100 + i))), (1, .int (nI m))] [] M 0 0 Q
  refine zs_aload_n (n := 1) dX13_passers_0 rfl rfl ?_
  refine zs_getr (b := (Λ (1110 + i))) (n := 4) dX13_passers_1 gf_X13_9 (hR.kP' hi) (hR.pQ' hi) rfl ?_
  refine zs_iload_n (n := 5) dX13_passers_4 rfl rfl ?_
  refine zs_bipush (v := 60) (n := 7) dX13_passers_5 (by decide) rfl ?_
  refine zs_idiv (n := 8) dX13_passers_7 (by decide) rfl ?_
  rw [show nI m / (60 : Int32) = nI (m / 60) from pk_div (d := 60) (by omega) (by decide) (by decide)]
  refine zs_bipush (v := 10) (n := 10) dX13_passers_8 (by decide) rfl ?_
  refine zs_isub (n := 11) dX13_passers_10 rfl ?_
  rw [show nI (m / 60) - (10 : Int32) = nI (m / 60 - 10) from pk_sub (b := 10) (by omega)]
  refine zs_ialdv (x := (sW S (1110 + i) (m / 60 - 10))) (n := 12) dX13_passers_11 (hR.kQ' hi) (by rw [show mN M (Λ (1110 + i)) = 10 from (hR.nQ' hi)]; exact vp_in_nI (by first | exact (show m / 60 - 10 < 10 from by omega) | omega) (by omega)) (by rw [nI_clamp (by omega)]; exact hR.av (lvQ' hi)) rfl ?_
  refine zs_istore_n (n := 13) dX13_passers_12 (by decide) rfl ?_
  refine zs_iload_n (n := 14) dX13_passers_13 rfl rfl ?_
  refine zs_bipush (v := 60) (n := 16) dX13_passers_14 (by decide) rfl ?_
  refine zs_irem (n := 17) dX13_passers_16 (by decide) rfl ?_
  rw [show nI m - nI m / (60 : Int32) * (60 : Int32) = nI (m % 60) from pk_rem (d := 60) (by omega) (by decide) (by decide)]
  refine zs_istore_n (n := 18) dX13_passers_17 (by decide) rfl ?_
  refine zs_iload_n (n := 19) dX13_passers_18 rfl rfl ?_
  refine zs_iload_n (n := 20) dX13_passers_19 rfl rfl ?_
  refine zs_iconst (v := 1) (n := 21) dX13_passers_20 (by decide) rfl ?_
  refine zs_iadd (n := 22) dX13_passers_21 rfl ?_
  refine zs_imul (n := 23) dX13_passers_22 rfl ?_
  refine zs_bipush (v := 60) (n := 25) dX13_passers_23 (by decide) rfl ?_
  refine zs_idiv (n := 26) dX13_passers_25 (by decide) rfl ?_
  refine zs_iload_n (n := 27) dX13_passers_26 rfl rfl ?_
  refine zs_iload_n (n := 28) dX13_passers_27 rfl rfl ?_
  refine zs_imul (n := 29) dX13_passers_28 rfl ?_
  refine zs_bipush (v := 60) (n := 31) dX13_passers_29 (by decide) rfl ?_
  refine zs_idiv (n := 32) dX13_passers_31 (by decide) rfl ?_
  refine zs_isub (n := 33) dX13_passers_32 rfl ?_
  refine zs_ireturn dX13_passers_33 ⟨_, rfl, rfl⟩ ?_
  exact hQ
theorem k_passersAt_1 {p q : Int32} (hR : zRp Z Λ S M) (h4 : sc S 4 = 1) (hx9 : ¬ (¬ p < 0 ∧ ¬ nI (sc S 1000) ≤ p)) : zG Z l 2 mth_X16_passersAt [.ref (Λ 1001), .int p, .int q] M 0 0 (some (.int 0)) ((zRp Z Λ (mT S 1))) := by
  intro Q hQ
  have hb1 : sc S 1000 ≤ 6 := hR.bnd.2.1.1
  show zX Z l 2 mth_X16_passersAt 0 [(0, .ref (Λ 1001)), (1, .int p), (2, .int q)] [] M 0 0 Q
  refine zs_aload_n (n := 1) dX16_passersAt_0 rfl rfl ?_
  refine zs_aload_n (n := 2) dX16_passersAt_1 rfl rfl ?_
  refine zs_iload_n (n := 3) dX16_passersAt_2 rfl rfl ?_
  refine zc_V (n := 6) (As := [.int p]) (ci := 21) (mc := 0) (ms := 0) dX16_passersAt_3 ok_X16_isPitch ⟨ml_X16_84, im_X16_isPitch, sl_X16_isPitch⟩ rfl (hR.kd (lvM h4 (by omega))) rfl (Nat.le_of_ble_eq_true rfl) (by simp) (by omega) (Nat.le_refl _) (Nat.le_refl _) rfl rfl (k_isPitch hR h4) ?_
  refine zs_if_ne (tgt := 13) (n := 9) dX16_passersAt_6 (by decide) rfl (fun h => absurd (zb0.mpr (fIn_no (by omega) hx9)) h) (fun _ => ?_)
  refine zs_iconst (v := 1) (n := 10) dX16_passersAt_9 (by decide) rfl ?_
  refine zs_goto (tgt := 32) dX16_passersAt_10 (by decide) ?_
  refine zw_i (r := 1001) (n := 35) dX16_passersAt_32 pf_X16_passersAt_43 hR (lvM h4 (by omega)) (hR.kd (lvM h4 (by omega))) ⟨rfl, rfl⟩ (by decide) rfl ?_
  intro M hR hv
  refine zs_aload_n (n := 36) dX16_passersAt_35 rfl rfl ?_
  refine zs_getv (x := (1 : Int32)) (n := 39) dX16_passersAt_36 gf_X16_43 (hR.kd (lvM h4 (by omega))) (hR.iv (lvM h4 (by omega)) (by decide) (by decide)) rfl ?_
  refine zs_if_le (tgt := 46) (n := 42) dX16_passersAt_39 (by decide) rfl (fun h => absurd h (by decide)) (fun _ => ?_)
  refine zs_iconst (v := 0) (n := 43) dX16_passersAt_42 (by decide) rfl ?_
  refine zs_goto (tgt := 61) dX16_passersAt_43 (by decide) ?_
  refine zs_ireturn dX16_passersAt_61 ⟨_, rfl, rfl⟩ ?_
  exact hQ _ hR
theorem k_passersAt_2 {i : Nat} {q : Int32} (hR : zRp Z Λ S M) (h4 : sc S 4 = 1) (hi : i < sc S 1000) (hx9 : q < 600 ∨ ¬ q ≤ 1199) : zG Z l 2 mth_X16_passersAt [.ref (Λ 1001), .int (nI i), .int q] M 0 0 (some (.int 0)) ((zRp Z Λ (mT S 2))) := by
  intro Q hQ
  have hb1 : sc S 1000 ≤ 6 := hR.bnd.2.1.1
  show zX Z l 2 mth_X16_passersAt 0 [(0, .ref (Λ 1001)), (1, .int (nI i)), (2, .int q)] [] M 0 0 Q
  refine zs_aload_n (n := 1) dX16_passersAt_0 rfl rfl ?_
  refine zs_aload_n (n := 2) dX16_passersAt_1 rfl rfl ?_
  refine zs_iload_n (n := 3) dX16_passersAt_2 rfl rfl ?_
  refine zc_V (n := 6) (As := [.int (nI i)]) (ci := 21) (mc := 0) (ms := 0) dX16_passersAt_3 ok_X16_isPitch ⟨ml_X16_84, im_X16_isPitch, sl_X16_isPitch⟩ rfl (hR.kd (lvM h4 (by omega))) rfl (Nat.le_of_ble_eq_true rfl) (by simp) (by omega) (Nat.le_refl _) (Nat.le_refl _) rfl rfl (k_isPitch hR h4) ?_
  refine zs_if_ne (tgt := 13) (n := 9) dX16_passersAt_6 (by decide) rfl (fun _ => ?_) (fun h => absurd h (zb1.mpr (fIn_ix hi (by omega))))
  refine zs_iload_n (n := 14) dX16_passersAt_13 rfl rfl ?_
  refine zs_i2l (n := 15) dX16_passersAt_14 rfl ?_
  refine zs_ldc2 (n := 18) dX16_passersAt_15 ct_X16_92 rfl ?_
  refine zs_ldc2 (n := 21) dX16_passersAt_18 ct_X16_102 rfl ?_
  refine zc_S (n := 24) (As := [.long q.toInt64, .long (600 : Int64), .long (1199 : Int64)]) (mc := 0) (ms := 0) dX16_passersAt_21 ok_X16_in ⟨ml_X16_50, st_X16_in⟩ rfl (Nat.le_of_ble_eq_true rfl) (by simp) (by omega) (Nat.le_refl _) (Nat.le_refl _) rfl rfl (m_in (x := q) (lo := (600 : Int32)) (hi := (1199 : Int32)) rfl (by first | rfl | decide) (by first | rfl | decide)) ?_
  refine zs_if_ne (tgt := 31) (n := 27) dX16_passersAt_24 (by decide) rfl (fun h => absurd (zb0.mpr (fIn_f hx9)) h) (fun _ => ?_)
  refine zs_iconst (v := 2) (n := 28) dX16_passersAt_27 (by decide) rfl ?_
  refine zs_goto (tgt := 32) dX16_passersAt_28 (by decide) ?_
  refine zw_i (r := 1001) (n := 35) dX16_passersAt_32 pf_X16_passersAt_43 hR (lvM h4 (by omega)) (hR.kd (lvM h4 (by omega))) ⟨rfl, rfl⟩ (by decide) rfl ?_
  intro M hR hv
  refine zs_aload_n (n := 36) dX16_passersAt_35 rfl rfl ?_
  refine zs_getv (x := (2 : Int32)) (n := 39) dX16_passersAt_36 gf_X16_43 (hR.kd (lvM h4 (by omega))) (hR.iv (lvM h4 (by omega)) (by decide) (by decide)) rfl ?_
  refine zs_if_le (tgt := 46) (n := 42) dX16_passersAt_39 (by decide) rfl (fun h => absurd h (by decide)) (fun _ => ?_)
  refine zs_iconst (v := 0) (n := 43) dX16_passersAt_42 (by decide) rfl ?_
  refine zs_goto (tgt := 61) dX16_passersAt_43 (by decide) ?_
  refine zs_ireturn dX16_passersAt_61 ⟨_, rfl, rfl⟩ ?_
  exact hQ _ hR
theorem k_passersAt {i m : Nat} (hR : zRp Z Λ S M) (h4 : sc S 4 = 1) (hi : i < sc S 1000) (g1 : ¬ nI m < 600) (g2 : nI m ≤ 1199) (g3 : 600 ≤ m) (g4 : m < 1200) : zG Z l 3 mth_X16_passersAt [.ref (Λ 1001), .int (nI i), .int (nI m)] M 0 0 (some (.int (fPassM S i m))) ((zRp Z Λ (mT S 0))) := by
  intro Q hQ
  have hb1 : sc S 1000 ≤ 6 := hR.bnd.2.1.1
  show zX Z l 3 mth_X16_passersAt 0 [(0, .ref (Λ 1001)), (1, .int (nI i)), (2, .int (nI m))] [] M 0 0 Q
  refine zs_aload_n (n := 1) dX16_passersAt_0 rfl rfl ?_
  refine zs_aload_n (n := 2) dX16_passersAt_1 rfl rfl ?_
  refine zs_iload_n (n := 3) dX16_passersAt_2 rfl rfl ?_
  refine zc_V (n := 6) (As := [.int (nI i)]) (ci := 21) (mc := 0) (ms := 0) dX16_passersAt_3 ok_X16_isPitch ⟨ml_X16_84, im_X16_isPitch, sl_X16_isPitch⟩ rfl (hR.kd (lvM h4 (by omega))) rfl (Nat.le_of_ble_eq_true rfl) (by simp) (by omega) (Nat.le_refl _) (Nat.le_refl _) rfl rfl (k_isPitch hR h4) ?_
  refine zs_if_ne (tgt := 13) (n := 9) dX16_passersAt_6 (by decide) rfl (fun _ => ?_) (fun h => absurd h (zb1.mpr (fIn_ix hi (by omega))))
  refine zs_iload_n (n := 14) dX16_passersAt_13 rfl rfl ?_
  refine zs_i2l (n := 15) dX16_passersAt_14 rfl ?_
  refine zs_ldc2 (n := 18) dX16_passersAt_15 ct_X16_92 rfl ?_
  refine zs_ldc2 (n := 21) dX16_passersAt_18 ct_X16_102 rfl ?_
  refine zc_S (n := 24) (As := [.long (nI m).toInt64, .long (600 : Int64), .long (1199 : Int64)]) (mc := 0) (ms := 0) dX16_passersAt_21 ok_X16_in ⟨ml_X16_50, st_X16_in⟩ rfl (Nat.le_of_ble_eq_true rfl) (by simp) (by omega) (Nat.le_refl _) (Nat.le_refl _) rfl rfl (m_in (x := (nI m)) (lo := (600 : Int32)) (hi := (1199 : Int32)) rfl (by first | rfl | decide) (by first | rfl | decide)) ?_
  refine zs_if_ne (tgt := 31) (n := 27) dX16_passersAt_24 (by decide) rfl (fun _ => ?_) (fun h => absurd h (zb1.mpr (fIn_t g1 g2)))
  refine zs_iconst (v := 0) (n := 32) dX16_passersAt_31 (by decide) rfl ?_
  refine zw_i (r := 1001) (n := 35) dX16_passersAt_32 pf_X16_passersAt_43 hR (lvM h4 (by omega)) (hR.kd (lvM h4 (by omega))) ⟨rfl, rfl⟩ (by decide) rfl ?_
  intro M hR hv
  refine zs_aload_n (n := 36) dX16_passersAt_35 rfl rfl ?_
  refine zs_getv (x := (0 : Int32)) (n := 39) dX16_passersAt_36 gf_X16_43 (hR.kd (lvM h4 (by omega))) (hR.iv (lvM h4 (by omega)) (by decide) (by decide)) rfl ?_
  refine zs_if_le (tgt := 46) (n := 42) dX16_passersAt_39 (by decide) rfl (fun _ => ?_) (fun h => absurd (by decide) h)
  refine zs_aload_n (n := 47) dX16_passersAt_46 rfl rfl ?_
  refine zs_getr (b := (Λ 1015)) (n := 50) dX16_passersAt_47 gf_X16_10 (hR.kd (lvM h4 (by omega))) (hR.pt (lvM h4 (by omega)) rfl (by decide)) rfl ?_
  refine zs_iload_n (n := 51) dX16_passersAt_50 rfl rfl ?_
  refine zc_getb (c := sc S 1000) (b := (Λ (1100 + i))) (n := 54) dX16_passersAt_51 ml_X16_94 (hR.lP' h4) hi rfl (by simp) (by omega) rfl ?_
  refine zs_castS (ci := 18) (n := 57) dX16_passersAt_54 rfl cl_X16_68 (hR.kP' hi) rfl ?_
  refine zs_iload_n (n := 58) dX16_passersAt_57 rfl rfl ?_
  refine zc_V (n := 61) (As := [.int (nI m)]) (ci := 18) (mc := 0) (ms := 0) dX16_passersAt_58 ok_X13_passers ⟨ml_X16_104, im_X13_passers, sl_X13_passers⟩ rfl (hR.kP' hi) rfl (Nat.le_of_ble_eq_true rfl) (by simp) (by omega) (Nat.le_refl _) (Nat.le_refl _) rfl rfl (k_passers hR h4 hi (by omega) (by omega)) ?_
  refine zs_ireturn dX16_passersAt_61 ⟨_, rfl, rfl⟩ ?_
  exact hQ _ hR
theorem k_setLine_1 {p q : Int32} (hR : zRp Z Λ S M) (h4 : sc S 4 = 1) (hx9 : ¬ (¬ p < 0 ∧ ¬ nI (sc S 1001) ≤ p)) : zG Z l 3 mth_X16_setLine [.ref (Λ 1001), .int p, .int q] M 0 0 (some (.int 0)) ((zRp Z Λ (mT S 1))) := by
  intro Q hQ
  have hb2 : sc S 1001 ≤ 8 := hR.bnd.2.1.2.1
  show zX Z l 3 mth_X16_setLine 0 [(0, .ref (Λ 1001)), (1, .int p), (2, .int q)] [] M 0 0 Q
  refine zs_aload_n (n := 1) dX16_setLine_0 rfl rfl ?_
  refine zs_iload_n (n := 2) dX16_setLine_1 rfl rfl ?_
  refine zg_V (n := 5) (As := [.int p]) (ci := 21) (mc := 0) (ms := 0) dX16_setLine_2 ok_X16_noAct ⟨ml_X16_119, im_X16_noAct, sl_X16_noAct⟩ rfl (hR.kd (lvM h4 (by omega))) rfl (Nat.le_of_ble_eq_true rfl) (by simp) (by omega) (Nat.le_refl _) (Nat.le_refl _) rfl rfl (k_noAct_1 hR h4 hx9) ?_
  intro M hR
  refine zs_if_eq (tgt := 10) (n := 8) dX16_setLine_5 (by decide) rfl (fun h => absurd h (by decide)) (fun _ => ?_)
  refine zs_iconst (v := 0) (n := 9) dX16_setLine_8 (by decide) rfl ?_
  refine zs_ireturn dX16_setLine_9 ⟨_, rfl, rfl⟩ ?_
  exact hQ _ hR
theorem k_setPermit_1 {p q : Int32} (hR : zRp Z Λ S M) (h4 : sc S 4 = 1) (hx9 : ¬ (¬ p < 0 ∧ ¬ nI (sc S 1001) ≤ p)) : zG Z l 3 mth_X16_setPermit [.ref (Λ 1001), .int p, .int q] M 0 0 (some (.int 0)) ((zRp Z Λ (mT S 1))) := by
  intro Q hQ
  have hb2 : sc S 1001 ≤ 8 := hR.bnd.2.1.2.1
  show zX Z l 3 mth_X16_setPermit 0 [(0, .ref (Λ 1001)), (1, .int p), (2, .int q)] [] M 0 0 Q
  refine zs_aload_n (n := 1) dX16_setPermit_0 rfl rfl ?_
  refine zs_iload_n (n := 2) dX16_setPermit_1 rfl rfl ?_
  refine zg_V (n := 5) (As := [.int p]) (ci := 21) (mc := 0) (ms := 0) dX16_setPermit_2 ok_X16_noAct ⟨ml_X16_119, im_X16_noAct, sl_X16_noAct⟩ rfl (hR.kd (lvM h4 (by omega))) rfl (Nat.le_of_ble_eq_true rfl) (by simp) (by omega) (Nat.le_refl _) (Nat.le_refl _) rfl rfl (k_noAct_1 hR h4 hx9) ?_
  intro M hR
  refine zs_if_eq (tgt := 10) (n := 8) dX16_setPermit_5 (by decide) rfl (fun h => absurd h (by decide)) (fun _ => ?_)
  refine zs_iconst (v := 0) (n := 9) dX16_setPermit_8 (by decide) rfl ?_
  refine zs_ireturn dX16_setPermit_9 ⟨_, rfl, rfl⟩ ?_
  exact hQ _ hR
theorem k_money_1 {p : Int32} (hR : zRp Z Λ S M) (h4 : sc S 4 = 1) (hx9 : ¬ (¬ p < 0 ∧ ¬ nI (sc S 1001) ≤ p)) : zG Z l 3 mth_X16_money [.ref (Λ 1001), .int p] M 0 0 (some (.int 0)) ((zRp Z Λ (mT S 1))) := by
  intro Q hQ
  have hb2 : sc S 1001 ≤ 8 := hR.bnd.2.1.2.1
  show zX Z l 3 mth_X16_money 0 [(0, .ref (Λ 1001)), (1, .int p)] [] M 0 0 Q
  refine zs_aload_n (n := 1) dX16_money_0 rfl rfl ?_
  refine zs_iload_n (n := 2) dX16_money_1 rfl rfl ?_
  refine zg_V (n := 5) (As := [.int p]) (ci := 21) (mc := 0) (ms := 0) dX16_money_2 ok_X16_noAct ⟨ml_X16_119, im_X16_noAct, sl_X16_noAct⟩ rfl (hR.kd (lvM h4 (by omega))) rfl (Nat.le_of_ble_eq_true rfl) (by simp) (by omega) (Nat.le_refl _) (Nat.le_refl _) rfl rfl (k_noAct_1 hR h4 hx9) ?_
  intro M hR
  refine zs_if_eq (tgt := 12) (n := 8) dX16_money_5 (by decide) rfl (fun h => absurd h (by decide)) (fun _ => ?_)
  refine zs_iconst (v := 0) (n := 9) dX16_money_8 (by decide) rfl ?_
  refine zs_goto (tgt := 26) dX16_money_9 (by decide) ?_
  refine zs_ireturn dX16_money_26 ⟨_, rfl, rfl⟩ ?_
  exact hQ _ hR
theorem k_setLine_2 {a : Nat} {q : Int32} (hR : zRp Z Λ S M) (h4 : sc S 4 = 1) (ha : a < sc S 1001) (hx9 : q < 1 ∨ ¬ q ≤ 9) : zG Z l 3 mth_X16_setLine [.ref (Λ 1001), .int (nI a), .int q] M 0 0 (some (.int 0)) ((zRp Z Λ (mT (mT S 0) 2))) := by
  intro Q hQ
  have hb2 : sc S 1001 ≤ 8 := hR.bnd.2.1.2.1
  show zX Z l 3 mth_X16_setLine 0 [(0, .ref (Λ 1001)), (1, .int (nI a)), (2, .int q)] [] M 0 0 Q
  refine zs_aload_n (n := 1) dX16_setLine_0 rfl rfl ?_
  refine zs_iload_n (n := 2) dX16_setLine_1 rfl rfl ?_
  refine zg_V (n := 5) (As := [.int (nI a)]) (ci := 21) (mc := 0) (ms := 0) dX16_setLine_2 ok_X16_noAct ⟨ml_X16_119, im_X16_noAct, sl_X16_noAct⟩ rfl (hR.kd (lvM h4 (by omega))) rfl (Nat.le_of_ble_eq_true rfl) (by simp) (by omega) (Nat.le_refl _) (Nat.le_refl _) rfl rfl (k_noAct_0 hR h4 ha) ?_
  intro M hR
  refine zs_if_eq (tgt := 10) (n := 8) dX16_setLine_5 (by decide) rfl (fun _ => ?_) (fun h => absurd (by decide) h)
  refine zs_aload_n (n := 11) dX16_setLine_10 rfl rfl ?_
  refine zs_iload_n (n := 12) dX16_setLine_11 rfl rfl ?_
  refine zs_i2l (n := 13) dX16_setLine_12 rfl ?_
  refine zs_lconst (v := 1) (n := 14) dX16_setLine_13 (by decide) rfl ?_
  refine zs_ldc2 (n := 17) dX16_setLine_14 ct_X16_75 rfl ?_
  refine zc_S (n := 20) (As := [.long q.toInt64, .long (1 : Int64), .long (9 : Int64)]) (mc := 0) (ms := 0) dX16_setLine_17 ok_X16_in ⟨ml_X16_50, st_X16_in⟩ rfl (Nat.le_of_ble_eq_true rfl) (by simp) (by omega) (Nat.le_refl _) (Nat.le_refl _) rfl rfl (m_in (x := q) (lo := (1 : Int32)) (hi := (9 : Int32)) rfl (by first | rfl | decide) (by first | rfl | decide)) ?_
  refine zs_if_eq (tgt := 27) (n := 23) dX16_setLine_20 (by decide) rfl (fun _ => ?_) (fun h => absurd (zb0.mpr (fIn_f hx9)) h)
  refine zs_iconst (v := 2) (n := 28) dX16_setLine_27 (by decide) rfl ?_
  refine zw_i (r := 1001) (n := 31) dX16_setLine_28 pf_X16_setLine_43 hR (lvM h4 (by omega)) (hR.kd (lvM h4 (by omega))) ⟨rfl, rfl⟩ (by decide) rfl ?_
  intro M hR hv
  refine zs_aload_n (n := 32) dX16_setLine_31 rfl rfl ?_
  refine zs_getv (x := (2 : Int32)) (n := 35) dX16_setLine_32 gf_X16_43 (hR.kd (lvM h4 (by omega))) (hR.iv (lvM h4 (by omega)) (by decide) (by decide)) rfl ?_
  refine zs_if_le (tgt := 40) (n := 38) dX16_setLine_35 (by decide) rfl (fun h => absurd h (by decide)) (fun _ => ?_)
  refine zs_iconst (v := 0) (n := 39) dX16_setLine_38 (by decide) rfl ?_
  refine zs_ireturn dX16_setLine_39 ⟨_, rfl, rfl⟩ ?_
  exact hQ _ hR
theorem k_setLine {a : Nat} {q : Int32} (hR : zRp Z Λ S M) (h4 : sc S 4 = 1) (ha : a < sc S 1001) (g1 : ¬ q < 1) (g2 : q ≤ 9) : zG Z l 3 mth_X16_setLine [.ref (Λ 1001), .int (nI a), .int q] M 0 0 (some (.int (sV S (1140 + a) 547))) (zRp Z Λ (sc S, u2 (u2 (u2 (sV S) 1001 672 0) 1001 672 0) (1140 + a) 547 q, sW S, sT S, sP S)) := by
  intro Q hQ
  have hb2 : sc S 1001 ≤ 8 := hR.bnd.2.1.2.1
  show zX Z l 3 mth_X16_setLine 0 [(0, .ref (Λ 1001)), (1, .int (nI a)), (2, .int q)] [] M 0 0 Q
  refine zs_aload_n (n := 1) dX16_setLine_0 rfl rfl ?_
  refine zs_iload_n (n := 2) dX16_setLine_1 rfl rfl ?_
  refine zg_V (n := 5) (As := [.int (nI a)]) (ci := 21) (mc := 0) (ms := 0) dX16_setLine_2 ok_X16_noAct ⟨ml_X16_119, im_X16_noAct, sl_X16_noAct⟩ rfl (hR.kd (lvM h4 (by omega))) rfl (Nat.le_of_ble_eq_true rfl) (by simp) (by omega) (Nat.le_refl _) (Nat.le_refl _) rfl rfl (k_noAct_0 hR h4 ha) ?_
  intro M hR
  refine zs_if_eq (tgt := 10) (n := 8) dX16_setLine_5 (by decide) rfl (fun _ => ?_) (fun h => absurd (by decide) h)
  refine zs_aload_n (n := 11) dX16_setLine_10 rfl rfl ?_
  refine zs_iload_n (n := 12) dX16_setLine_11 rfl rfl ?_
  refine zs_i2l (n := 13) dX16_setLine_12 rfl ?_
  refine zs_lconst (v := 1) (n := 14) dX16_setLine_13 (by decide) rfl ?_
  refine zs_ldc2 (n := 17) dX16_setLine_14 ct_X16_75 rfl ?_
  refine zc_S (n := 20) (As := [.long q.toInt64, .long (1 : Int64), .long (9 : Int64)]) (mc := 0) (ms := 0) dX16_setLine_17 ok_X16_in ⟨ml_X16_50, st_X16_in⟩ rfl (Nat.le_of_ble_eq_true rfl) (by simp) (by omega) (Nat.le_refl _) (Nat.le_refl _) rfl rfl (m_in (x := q) (lo := (1 : Int32)) (hi := (9 : Int32)) rfl (by first | rfl | decide) (by first | rfl | decide)) ?_
  refine zs_if_eq (tgt := 27) (n := 23) dX16_setLine_20 (by decide) rfl (fun h => absurd h (zb1.mpr (fIn_t g1 g2))) (fun _ => ?_)
  refine zs_iconst (v := 0) (n := 24) dX16_setLine_23 (by decide) rfl ?_
  refine zs_goto (tgt := 28) dX16_setLine_24 (by decide) ?_
  refine zw_i (r := 1001) (n := 31) dX16_setLine_28 pf_X16_setLine_43 hR (lvM h4 (by omega)) (hR.kd (lvM h4 (by omega))) ⟨rfl, rfl⟩ (by decide) rfl ?_
  intro M hR hv
  refine zs_aload_n (n := 32) dX16_setLine_31 rfl rfl ?_
  refine zs_getv (x := (0 : Int32)) (n := 35) dX16_setLine_32 gf_X16_43 (hR.kd (lvM h4 (by omega))) (hR.iv (lvM h4 (by omega)) (by decide) (by decide)) rfl ?_
  refine zs_if_le (tgt := 40) (n := 38) dX16_setLine_35 (by decide) rfl (fun _ => ?_) (fun h => absurd (by decide) h)
  refine zs_aload_n (n := 41) dX16_setLine_40 rfl rfl ?_
  refine zs_getr (b := (Λ 1017)) (n := 44) dX16_setLine_41 gf_X16_16 (hR.kd (lvM h4 (by omega))) (hR.pt (lvM h4 (by omega)) rfl (by decide)) rfl ?_
  refine zs_iload_n (n := 45) dX16_setLine_44 rfl rfl ?_
  refine zc_getb (c := sc S 1001) (b := (Λ (1140 + a))) (n := 48) dX16_setLine_45 ml_X16_94 (hR.lA' h4) ha rfl (by simp) (by omega) rfl ?_
  refine zs_castS (ci := 17) (n := 51) dX16_setLine_48 rfl cl_X16_111 (hR.kA' ha) rfl ?_
  refine zs_getv (x := (sV (mT S 0) (1140 + a) 547)) (n := 54) dX16_setLine_51 gf_X16_122 (hR.kA' ha) (hR.iv (lvA' ha) (by decide) (by decide)) rfl ?_
  refine zs_istore_n (n := 55) dX16_setLine_54 (by decide) rfl ?_
  refine zs_aload_n (n := 56) dX16_setLine_55 rfl rfl ?_
  refine zs_getr (b := (Λ 1017)) (n := 59) dX16_setLine_56 gf_X16_16 (hR.kd (lvM h4 (by omega))) (hR.pt (lvM h4 (by omega)) rfl (by decide)) rfl ?_
  refine zs_iload_n (n := 60) dX16_setLine_59 rfl rfl ?_
  refine zc_getb (c := sc S 1001) (b := (Λ (1140 + a))) (n := 63) dX16_setLine_60 ml_X16_94 (hR.lA' h4) ha rfl (by simp) (by omega) rfl ?_
  refine zs_castS (ci := 17) (n := 66) dX16_setLine_63 rfl cl_X16_111 (hR.kA' ha) rfl ?_
  refine zs_iload_n (n := 67) dX16_setLine_66 rfl rfl ?_
  refine zw_i (r := (1140 + a)) (n := 70) dX16_setLine_67 pf_X16_setLine_122 hR (lvA' ha) (hR.kA' ha) ⟨rfl, rfl⟩ (by decide) rfl ?_
  intro M hR hv
  refine zs_iload_n (n := 71) dX16_setLine_70 rfl rfl ?_
  refine zs_ireturn dX16_setLine_71 ⟨_, rfl, rfl⟩ ?_
  exact hQ _ hR
theorem k_setPermit {a : Nat} {q : Int32} (hR : zRp Z Λ S M) (h4 : sc S 4 = 1) (ha : a < sc S 1001) (hv : q = 0 ∨ q = 1) (hw : sV S (1140 + a) 549 = 0 ∨ sV S (1140 + a) 549 = 1) : zG Z l 3 mth_X16_setPermit [.ref (Λ 1001), .int (nI a), .int q] M 0 0 (some (.int (sV S (1140 + a) 549))) (zRp Z Λ (sc S, u2 (u2 (sV S) 1001 672 0) (1140 + a) 549 q, sW S, sT S, sP S)) := by
  intro Q hQ
  have hb2 : sc S 1001 ≤ 8 := hR.bnd.2.1.2.1
  show zX Z l 3 mth_X16_setPermit 0 [(0, .ref (Λ 1001)), (1, .int (nI a)), (2, .int q)] [] M 0 0 Q
  refine zs_aload_n (n := 1) dX16_setPermit_0 rfl rfl ?_
  refine zs_iload_n (n := 2) dX16_setPermit_1 rfl rfl ?_
  refine zg_V (n := 5) (As := [.int (nI a)]) (ci := 21) (mc := 0) (ms := 0) dX16_setPermit_2 ok_X16_noAct ⟨ml_X16_119, im_X16_noAct, sl_X16_noAct⟩ rfl (hR.kd (lvM h4 (by omega))) rfl (Nat.le_of_ble_eq_true rfl) (by simp) (by omega) (Nat.le_refl _) (Nat.le_refl _) rfl rfl (k_noAct_0 hR h4 ha) ?_
  intro M hR
  refine zs_if_eq (tgt := 10) (n := 8) dX16_setPermit_5 (by decide) rfl (fun _ => ?_) (fun h => absurd (by decide) h)
  refine zs_aload_n (n := 11) dX16_setPermit_10 rfl rfl ?_
  refine zs_getr (b := (Λ 1017)) (n := 14) dX16_setPermit_11 gf_X16_16 (hR.kd (lvM h4 (by omega))) (hR.pt (lvM h4 (by omega)) rfl (by decide)) rfl ?_
  refine zs_iload_n (n := 15) dX16_setPermit_14 rfl rfl ?_
  refine zc_getb (c := sc S 1001) (b := (Λ (1140 + a))) (n := 18) dX16_setPermit_15 ml_X16_94 (hR.lA' h4) ha rfl (by simp) (by omega) rfl ?_
  refine zs_castS (ci := 17) (n := 21) dX16_setPermit_18 rfl cl_X16_111 (hR.kA' ha) rfl ?_
  refine zs_getv (x := (sV (mT S 0) (1140 + a) 549)) (n := 24) dX16_setPermit_21 gf_X16_125 (hR.kA' ha) (hR.iv (lvA' ha) (by decide) (by decide)) rfl ?_
  refine zs_istore_n (n := 25) dX16_setPermit_24 (by decide) rfl ?_
  refine zs_aload_n (n := 26) dX16_setPermit_25 rfl rfl ?_
  refine zs_getr (b := (Λ 1017)) (n := 29) dX16_setPermit_26 gf_X16_16 (hR.kd (lvM h4 (by omega))) (hR.pt (lvM h4 (by omega)) rfl (by decide)) rfl ?_
  refine zs_iload_n (n := 30) dX16_setPermit_29 rfl rfl ?_
  refine zc_getb (c := sc S 1001) (b := (Λ (1140 + a))) (n := 33) dX16_setPermit_30 ml_X16_94 (hR.lA' h4) ha rfl (by simp) (by omega) rfl ?_
  refine zs_castS (ci := 17) (n := 36) dX16_setPermit_33 rfl cl_X16_111 (hR.kA' ha) rfl ?_
  refine zs_iload_n (n := 37) dX16_setPermit_36 rfl rfl ?_
  refine zw_i (r := (1140 + a)) (n := 40) dX16_setPermit_37 pf_X16_setPermit_125 hR (lvA' ha) (hR.kA' ha) (by rcases hv with rfl | rfl <;> exact ⟨rfl, rfl⟩) (by decide) rfl ?_
  intro M hR hv
  refine zs_iload_n (n := 41) dX16_setPermit_40 rfl rfl ?_
  refine zs_ireturn dX16_setPermit_41 ⟨_, rfl, (by rcases hw with h9 | h9 <;> (show narrow _ (.int (sV S (1140 + a) 549)) = .int (sV S (1140 + a) 549); rw [h9]; rfl))⟩ ?_
  exact hQ _ hR
theorem k_money {a : Nat} (hR : zRp Z Λ S M) (h4 : sc S 4 = 1) (ha : a < sc S 1001) : zG Z l 3 mth_X16_money [.ref (Λ 1001), .int (nI a)] M 0 0 (some (.int (sV S (1140 + a) 550))) ((zRp Z Λ (mT S 0))) := by
  intro Q hQ
  have hb2 : sc S 1001 ≤ 8 := hR.bnd.2.1.2.1
  show zX Z l 3 mth_X16_money 0 [(0, .ref (Λ 1001)), (1, .int (nI a))] [] M 0 0 Q
  refine zs_aload_n (n := 1) dX16_money_0 rfl rfl ?_
  refine zs_iload_n (n := 2) dX16_money_1 rfl rfl ?_
  refine zg_V (n := 5) (As := [.int (nI a)]) (ci := 21) (mc := 0) (ms := 0) dX16_money_2 ok_X16_noAct ⟨ml_X16_119, im_X16_noAct, sl_X16_noAct⟩ rfl (hR.kd (lvM h4 (by omega))) rfl (Nat.le_of_ble_eq_true rfl) (by simp) (by omega) (Nat.le_refl _) (Nat.le_refl _) rfl rfl (k_noAct_0 hR h4 ha) ?_
  intro M hR
  refine zs_if_eq (tgt := 12) (n := 8) dX16_money_5 (by decide) rfl (fun _ => ?_) (fun h => absurd (by decide) h)
  refine zs_aload_n (n := 13) dX16_money_12 rfl rfl ?_
  refine zs_getr (b := (Λ 1017)) (n := 16) dX16_money_13 gf_X16_16 (hR.kd (lvM h4 (by omega))) (hR.pt (lvM h4 (by omega)) rfl (by decide)) rfl ?_
  refine zs_iload_n (n := 17) dX16_money_16 rfl rfl ?_
  refine zc_getb (c := sc S 1001) (b := (Λ (1140 + a))) (n := 20) dX16_money_17 ml_X16_94 (hR.lA' h4) ha rfl (by simp) (by omega) rfl ?_
  refine zs_castS (ci := 17) (n := 23) dX16_money_20 rfl cl_X16_111 (hR.kA' ha) rfl ?_
  refine zs_getv (x := (sV (mT S 0) (1140 + a) 550)) (n := 26) dX16_money_23 gf_X16_251 (hR.kA' ha) (hR.iv (lvA' ha) (by decide) (by decide)) rfl ?_
  refine zs_ireturn dX16_money_26 ⟨_, rfl, rfl⟩ ?_
  exact hQ _ hR
theorem k_seed_1 {q : Int32} (hR : zRp Z Λ S M) (h4 : sc S 4 = 1) (hx9 : q < 1 ∨ ¬ q ≤ 2147483646) : zG Z l 2 mth_X16_seed [.ref (Λ 1001), .int q] M 0 0 (some (.int 0)) ((zRp Z Λ (mT S 1))) := by
  intro Q hQ
  show zX Z l 2 mth_X16_seed 0 [(0, .ref (Λ 1001)), (1, .int q)] [] M 0 0 Q
  refine zs_aload_n (n := 1) dX16_seed_0 rfl rfl ?_
  refine zs_iload_n (n := 2) dX16_seed_1 rfl rfl ?_
  refine zs_i2l (n := 3) dX16_seed_2 rfl ?_
  refine zs_lconst (v := 1) (n := 4) dX16_seed_3 (by decide) rfl ?_
  refine zs_ldc2 (n := 7) dX16_seed_4 ct_X16_159 rfl ?_
  refine zc_S (n := 10) (As := [.long q.toInt64, .long (1 : Int64), .long (2147483646 : Int64)]) (mc := 0) (ms := 0) dX16_seed_7 ok_X16_in ⟨ml_X16_50, st_X16_in⟩ rfl (Nat.le_of_ble_eq_true rfl) (by simp) (by omega) (Nat.le_refl _) (Nat.le_refl _) rfl rfl (m_in (x := q) (lo := (1 : Int32)) (hi := (2147483646 : Int32)) rfl (by first | rfl | decide) (by first | rfl | decide)) ?_
  refine zs_if_eq (tgt := 17) (n := 13) dX16_seed_10 (by decide) rfl (fun _ => ?_) (fun h => absurd (zb0.mpr (fIn_f hx9)) h)
  refine zs_iconst (v := 1) (n := 18) dX16_seed_17 (by decide) rfl ?_
  refine zw_i (r := 1001) (n := 21) dX16_seed_18 pf_X16_seed_43 hR (lvM h4 (by omega)) (hR.kd (lvM h4 (by omega))) ⟨rfl, rfl⟩ (by decide) rfl ?_
  intro M hR hv
  refine zs_aload_n (n := 22) dX16_seed_21 rfl rfl ?_
  refine zs_getv (x := (1 : Int32)) (n := 25) dX16_seed_22 gf_X16_43 (hR.kd (lvM h4 (by omega))) (hR.iv (lvM h4 (by omega)) (by decide) (by decide)) rfl ?_
  refine zs_if_le (tgt := 30) (n := 28) dX16_seed_25 (by decide) rfl (fun h => absurd h (by decide)) (fun _ => ?_)
  refine zs_iconst (v := 0) (n := 29) dX16_seed_28 (by decide) rfl ?_
  refine zs_ireturn dX16_seed_29 ⟨_, rfl, rfl⟩ ?_
  exact hQ _ hR
theorem k_seed {q : Int32} (hR : zRp Z Λ S M) (h4 : sc S 4 = 1) (g1 : ¬ q < 1) (g2 : q ≤ 2147483646) : zG Z l 2 mth_X16_seed [.ref (Λ 1001), .int q] M 0 0 (some (.int (sV S 1001 681))) (zRp Z Λ (sc S, u2 (u2 (sV S) 1001 672 0) 1001 681 q, sW S, sT S, sP S)) := by
  intro Q hQ
  show zX Z l 2 mth_X16_seed 0 [(0, .ref (Λ 1001)), (1, .int q)] [] M 0 0 Q
  refine zs_aload_n (n := 1) dX16_seed_0 rfl rfl ?_
  refine zs_iload_n (n := 2) dX16_seed_1 rfl rfl ?_
  refine zs_i2l (n := 3) dX16_seed_2 rfl ?_
  refine zs_lconst (v := 1) (n := 4) dX16_seed_3 (by decide) rfl ?_
  refine zs_ldc2 (n := 7) dX16_seed_4 ct_X16_159 rfl ?_
  refine zc_S (n := 10) (As := [.long q.toInt64, .long (1 : Int64), .long (2147483646 : Int64)]) (mc := 0) (ms := 0) dX16_seed_7 ok_X16_in ⟨ml_X16_50, st_X16_in⟩ rfl (Nat.le_of_ble_eq_true rfl) (by simp) (by omega) (Nat.le_refl _) (Nat.le_refl _) rfl rfl (m_in (x := q) (lo := (1 : Int32)) (hi := (2147483646 : Int32)) rfl (by first | rfl | decide) (by first | rfl | decide)) ?_
  refine zs_if_eq (tgt := 17) (n := 13) dX16_seed_10 (by decide) rfl (fun h => absurd h (zb1.mpr (fIn_t g1 g2))) (fun _ => ?_)
  refine zs_iconst (v := 0) (n := 14) dX16_seed_13 (by decide) rfl ?_
  refine zs_goto (tgt := 18) dX16_seed_14 (by decide) ?_
  refine zw_i (r := 1001) (n := 21) dX16_seed_18 pf_X16_seed_43 hR (lvM h4 (by omega)) (hR.kd (lvM h4 (by omega))) ⟨rfl, rfl⟩ (by decide) rfl ?_
  intro M hR hv
  refine zs_aload_n (n := 22) dX16_seed_21 rfl rfl ?_
  refine zs_getv (x := (0 : Int32)) (n := 25) dX16_seed_22 gf_X16_43 (hR.kd (lvM h4 (by omega))) (hR.iv (lvM h4 (by omega)) (by decide) (by decide)) rfl ?_
  refine zs_if_le (tgt := 30) (n := 28) dX16_seed_25 (by decide) rfl (fun _ => ?_) (fun h => absurd (by decide) h)
  refine zs_aload_n (n := 31) dX16_seed_30 rfl rfl ?_
  refine zs_getv (x := (sV S 1001 681)) (n := 34) dX16_seed_31 gf_X16_33 (hR.kd (lvM h4 (by omega))) (hR.iv (lvM h4 (by omega)) (by decide) (by decide)) rfl ?_
  refine zs_istore_n (n := 35) dX16_seed_34 (by decide) rfl ?_
  refine zs_aload_n (n := 36) dX16_seed_35 rfl rfl ?_
  refine zs_iload_n (n := 37) dX16_seed_36 rfl rfl ?_
  refine zw_i (r := 1001) (n := 40) dX16_seed_37 pf_X16_seed_33 hR (lvM h4 (by omega)) (hR.kd (lvM h4 (by omega))) ⟨rfl, rfl⟩ (by decide) rfl ?_
  intro M hR hv
  refine zs_iload_n (n := 41) dX16_seed_40 rfl rfl ?_
  refine zs_ireturn dX16_seed_41 ⟨_, rfl, rfl⟩ ?_
  exact hQ _ hR
theorem k_setRain_1 {p q : Int32} (hR : zRp Z Λ S M) (h4 : sc S 4 = 1) (hx9 : p < 600 ∨ ¬ p ≤ 1199) : zG Z l 2 mth_X16_setRain [.ref (Λ 1001), .int p, .int q] M 0 0 (some (.int 0)) ((zRp Z Λ (mT S 1))) := by
  intro Q hQ
  show zX Z l 2 mth_X16_setRain 0 [(0, .ref (Λ 1001)), (1, .int p), (2, .int q)] [] M 0 0 Q
  refine zs_aload_n (n := 1) dX16_setRain_0 rfl rfl ?_
  refine zs_iload_n (n := 2) dX16_setRain_1 rfl rfl ?_
  refine zs_i2l (n := 3) dX16_setRain_2 rfl ?_
  refine zs_ldc2 (n := 6) dX16_setRain_3 ct_X16_92 rfl ?_
  refine zs_ldc2 (n := 9) dX16_setRain_6 ct_X16_102 rfl ?_
  refine zc_S (n := 12) (As := [.long p.toInt64, .long (600 : Int64), .long (1199 : Int64)]) (mc := 0) (ms := 0) dX16_setRain_9 ok_X16_in ⟨ml_X16_50, st_X16_in⟩ rfl (Nat.le_of_ble_eq_true rfl) (by simp) (by omega) (Nat.le_refl _) (Nat.le_refl _) rfl rfl (m_in (x := p) (lo := (600 : Int32)) (hi := (1199 : Int32)) rfl (by first | rfl | decide) (by first | rfl | decide)) ?_
  refine zs_if_eq (tgt := 32) (n := 15) dX16_setRain_12 (by decide) rfl (fun _ => ?_) (fun h => absurd (zb0.mpr (fIn_f hx9)) h)
  refine zs_iconst (v := 1) (n := 33) dX16_setRain_32 (by decide) rfl ?_
  refine zw_i (r := 1001) (n := 36) dX16_setRain_33 pf_X16_setRain_43 hR (lvM h4 (by omega)) (hR.kd (lvM h4 (by omega))) ⟨rfl, rfl⟩ (by decide) rfl ?_
  intro M hR hv
  refine zs_aload_n (n := 37) dX16_setRain_36 rfl rfl ?_
  refine zs_getv (x := (1 : Int32)) (n := 40) dX16_setRain_37 gf_X16_43 (hR.kd (lvM h4 (by omega))) (hR.iv (lvM h4 (by omega)) (by decide) (by decide)) rfl ?_
  refine zs_if_le (tgt := 45) (n := 43) dX16_setRain_40 (by decide) rfl (fun h => absurd h (by decide)) (fun _ => ?_)
  refine zs_iconst (v := 0) (n := 44) dX16_setRain_43 (by decide) rfl ?_
  refine zs_ireturn dX16_setRain_44 ⟨_, rfl, rfl⟩ ?_
  exact hQ _ hR
theorem k_setRain_2 {p q : Int32} (hR : zRp Z Λ S M) (h4 : sc S 4 = 1) (g1 : ¬ p < 600) (g2 : p ≤ 1199) (hx9 : q < p ∨ ¬ q ≤ 1199) : zG Z l 2 mth_X16_setRain [.ref (Λ 1001), .int p, .int q] M 0 0 (some (.int 0)) ((zRp Z Λ (mT S 1))) := by
  intro Q hQ
  show zX Z l 2 mth_X16_setRain 0 [(0, .ref (Λ 1001)), (1, .int p), (2, .int q)] [] M 0 0 Q
  refine zs_aload_n (n := 1) dX16_setRain_0 rfl rfl ?_
  refine zs_iload_n (n := 2) dX16_setRain_1 rfl rfl ?_
  refine zs_i2l (n := 3) dX16_setRain_2 rfl ?_
  refine zs_ldc2 (n := 6) dX16_setRain_3 ct_X16_92 rfl ?_
  refine zs_ldc2 (n := 9) dX16_setRain_6 ct_X16_102 rfl ?_
  refine zc_S (n := 12) (As := [.long p.toInt64, .long (600 : Int64), .long (1199 : Int64)]) (mc := 0) (ms := 0) dX16_setRain_9 ok_X16_in ⟨ml_X16_50, st_X16_in⟩ rfl (Nat.le_of_ble_eq_true rfl) (by simp) (by omega) (Nat.le_refl _) (Nat.le_refl _) rfl rfl (m_in (x := p) (lo := (600 : Int32)) (hi := (1199 : Int32)) rfl (by first | rfl | decide) (by first | rfl | decide)) ?_
  refine zs_if_eq (tgt := 32) (n := 15) dX16_setRain_12 (by decide) rfl (fun h => absurd h (zb1.mpr (fIn_t g1 g2))) (fun _ => ?_)
  refine zs_iload_n (n := 16) dX16_setRain_15 rfl rfl ?_
  refine zs_i2l (n := 17) dX16_setRain_16 rfl ?_
  refine zs_iload_n (n := 18) dX16_setRain_17 rfl rfl ?_
  refine zs_i2l (n := 19) dX16_setRain_18 rfl ?_
  refine zs_ldc2 (n := 22) dX16_setRain_19 ct_X16_102 rfl ?_
  refine zc_S (n := 25) (As := [.long q.toInt64, .long p.toInt64, .long (1199 : Int64)]) (mc := 0) (ms := 0) dX16_setRain_22 ok_X16_in ⟨ml_X16_50, st_X16_in⟩ rfl (Nat.le_of_ble_eq_true rfl) (by simp) (by omega) (Nat.le_refl _) (Nat.le_refl _) rfl rfl (m_in (x := q) (lo := p) (hi := (1199 : Int32)) rfl (by first | rfl | decide) (by first | rfl | decide)) ?_
  refine zs_if_eq (tgt := 32) (n := 28) dX16_setRain_25 (by decide) rfl (fun _ => ?_) (fun h => absurd (zb0.mpr (fIn_f hx9)) h)
  refine zs_iconst (v := 1) (n := 33) dX16_setRain_32 (by decide) rfl ?_
  refine zw_i (r := 1001) (n := 36) dX16_setRain_33 pf_X16_setRain_43 hR (lvM h4 (by omega)) (hR.kd (lvM h4 (by omega))) ⟨rfl, rfl⟩ (by decide) rfl ?_
  intro M hR hv
  refine zs_aload_n (n := 37) dX16_setRain_36 rfl rfl ?_
  refine zs_getv (x := (1 : Int32)) (n := 40) dX16_setRain_37 gf_X16_43 (hR.kd (lvM h4 (by omega))) (hR.iv (lvM h4 (by omega)) (by decide) (by decide)) rfl ?_
  refine zs_if_le (tgt := 45) (n := 43) dX16_setRain_40 (by decide) rfl (fun h => absurd h (by decide)) (fun _ => ?_)
  refine zs_iconst (v := 0) (n := 44) dX16_setRain_43 (by decide) rfl ?_
  refine zs_ireturn dX16_setRain_44 ⟨_, rfl, rfl⟩ ?_
  exact hQ _ hR
theorem k_setRain {p q : Int32} (hR : zRp Z Λ S M) (h4 : sc S 4 = 1) (g1 : ¬ p < 600) (g2 : p ≤ 1199) (g3 : ¬ q < p) (g4 : q ≤ 1199) : zG Z l 2 mth_X16_setRain [.ref (Λ 1001), .int p, .int q] M 0 0 (some (.int (if sV S 1001 682 ≤ sV S 1001 683 then sV S 1001 683 - sV S 1001 682 + 1 else 0))) (zRp Z Λ (sc S, u2 (u2 (u2 (sV S) 1001 672 0) 1001 682 p) 1001 683 q, sW S, sT S, sP S)) := by
  intro Q hQ
  show zX Z l 2 mth_X16_setRain 0 [(0, .ref (Λ 1001)), (1, .int p), (2, .int q)] [] M 0 0 Q
  refine zs_aload_n (n := 1) dX16_setRain_0 rfl rfl ?_
  refine zs_iload_n (n := 2) dX16_setRain_1 rfl rfl ?_
  refine zs_i2l (n := 3) dX16_setRain_2 rfl ?_
  refine zs_ldc2 (n := 6) dX16_setRain_3 ct_X16_92 rfl ?_
  refine zs_ldc2 (n := 9) dX16_setRain_6 ct_X16_102 rfl ?_
  refine zc_S (n := 12) (As := [.long p.toInt64, .long (600 : Int64), .long (1199 : Int64)]) (mc := 0) (ms := 0) dX16_setRain_9 ok_X16_in ⟨ml_X16_50, st_X16_in⟩ rfl (Nat.le_of_ble_eq_true rfl) (by simp) (by omega) (Nat.le_refl _) (Nat.le_refl _) rfl rfl (m_in (x := p) (lo := (600 : Int32)) (hi := (1199 : Int32)) rfl (by first | rfl | decide) (by first | rfl | decide)) ?_
  refine zs_if_eq (tgt := 32) (n := 15) dX16_setRain_12 (by decide) rfl (fun h => absurd h (zb1.mpr (fIn_t g1 g2))) (fun _ => ?_)
  refine zs_iload_n (n := 16) dX16_setRain_15 rfl rfl ?_
  refine zs_i2l (n := 17) dX16_setRain_16 rfl ?_
  refine zs_iload_n (n := 18) dX16_setRain_17 rfl rfl ?_
  refine zs_i2l (n := 19) dX16_setRain_18 rfl ?_
  refine zs_ldc2 (n := 22) dX16_setRain_19 ct_X16_102 rfl ?_
  refine zc_S (n := 25) (As := [.long q.toInt64, .long p.toInt64, .long (1199 : Int64)]) (mc := 0) (ms := 0) dX16_setRain_22 ok_X16_in ⟨ml_X16_50, st_X16_in⟩ rfl (Nat.le_of_ble_eq_true rfl) (by simp) (by omega) (Nat.le_refl _) (Nat.le_refl _) rfl rfl (m_in (x := q) (lo := p) (hi := (1199 : Int32)) rfl (by first | rfl | decide) (by first | rfl | decide)) ?_
  refine zs_if_eq (tgt := 32) (n := 28) dX16_setRain_25 (by decide) rfl (fun h => absurd h (zb1.mpr (fIn_t g3 g4))) (fun _ => ?_)
  refine zs_iconst (v := 0) (n := 29) dX16_setRain_28 (by decide) rfl ?_
  refine zs_goto (tgt := 33) dX16_setRain_29 (by decide) ?_
  refine zw_i (r := 1001) (n := 36) dX16_setRain_33 pf_X16_setRain_43 hR (lvM h4 (by omega)) (hR.kd (lvM h4 (by omega))) ⟨rfl, rfl⟩ (by decide) rfl ?_
  intro M hR hv
  refine zs_aload_n (n := 37) dX16_setRain_36 rfl rfl ?_
  refine zs_getv (x := (0 : Int32)) (n := 40) dX16_setRain_37 gf_X16_43 (hR.kd (lvM h4 (by omega))) (hR.iv (lvM h4 (by omega)) (by decide) (by decide)) rfl ?_
  refine zs_if_le (tgt := 45) (n := 43) dX16_setRain_40 (by decide) rfl (fun _ => ?_) (fun h => absurd (by decide) h)
  refine zs_aload_n (n := 46) dX16_setRain_45 rfl rfl ?_
  refine zs_getv (x := (sV S 1001 683)) (n := 49) dX16_setRain_46 gf_X16_37 (hR.kd (lvM h4 (by omega))) (hR.iv (lvM h4 (by omega)) (by decide) (by decide)) rfl ?_
  refine zs_aload_n (n := 50) dX16_setRain_49 rfl rfl ?_
  refine zs_getv (x := (sV S 1001 682)) (n := 53) dX16_setRain_50 gf_X16_189 (hR.kd (lvM h4 (by omega))) (hR.iv (lvM h4 (by omega)) (by decide) (by decide)) rfl ?_
  refine zs_icmp_ge (tgt := 60) (n := 56) dX16_setRain_53 (by decide) rfl (fun h53 => ?_) (fun h53 => ?_)
  · refine zs_aload_n (n := 61) dX16_setRain_60 rfl rfl ?_
    refine zs_getv (x := (sV S 1001 683)) (n := 64) dX16_setRain_61 gf_X16_37 (hR.kd (lvM h4 (by omega))) (hR.iv (lvM h4 (by omega)) (by decide) (by decide)) rfl ?_
    refine zs_aload_n (n := 65) dX16_setRain_64 rfl rfl ?_
    refine zs_getv (x := (sV S 1001 682)) (n := 68) dX16_setRain_65 gf_X16_189 (hR.kd (lvM h4 (by omega))) (hR.iv (lvM h4 (by omega)) (by decide) (by decide)) rfl ?_
    refine zs_isub (n := 69) dX16_setRain_68 rfl ?_
    refine zs_iconst (v := 1) (n := 70) dX16_setRain_69 (by decide) rfl ?_
    refine zs_iadd (n := 71) dX16_setRain_70 rfl ?_
    refine zs_istore_n (n := 72) dX16_setRain_71 (by decide) rfl ?_
    refine zs_aload_n (n := 73) dX16_setRain_72 rfl rfl ?_
    refine zs_iload_n (n := 74) dX16_setRain_73 rfl rfl ?_
    refine zw_i (r := 1001) (n := 77) dX16_setRain_74 pf_X16_setRain_189 hR (lvM h4 (by omega)) (hR.kd (lvM h4 (by omega))) ⟨rfl, rfl⟩ (by decide) rfl ?_
    intro M hR hv
    refine zs_aload_n (n := 78) dX16_setRain_77 rfl rfl ?_
    refine zs_iload_n (n := 79) dX16_setRain_78 rfl rfl ?_
    refine zw_i (r := 1001) (n := 82) dX16_setRain_79 pf_X16_setRain_37 hR (lvM h4 (by omega)) (hR.kd (lvM h4 (by omega))) ⟨rfl, rfl⟩ (by decide) rfl ?_
    intro M hR hv
    refine zs_iload_n (n := 83) dX16_setRain_82 rfl rfl ?_
    refine zs_ireturn dX16_setRain_83 ⟨_, rfl, rfl⟩ ?_
    first
    | (rw [if_pos h53] at hQ; exact hQ _ hR)
    | (rw [if_neg h53] at hQ; exact hQ _ hR)
  · refine zs_iconst (v := 0) (n := 57) dX16_setRain_56 (by decide) rfl ?_
    refine zs_goto (tgt := 71) dX16_setRain_57 (by decide) ?_
    refine zs_istore_n (n := 72) dX16_setRain_71 (by decide) rfl ?_
    refine zs_aload_n (n := 73) dX16_setRain_72 rfl rfl ?_
    refine zs_iload_n (n := 74) dX16_setRain_73 rfl rfl ?_
    refine zw_i (r := 1001) (n := 77) dX16_setRain_74 pf_X16_setRain_189 hR (lvM h4 (by omega)) (hR.kd (lvM h4 (by omega))) ⟨rfl, rfl⟩ (by decide) rfl ?_
    intro M hR hv
    refine zs_aload_n (n := 78) dX16_setRain_77 rfl rfl ?_
    refine zs_iload_n (n := 79) dX16_setRain_78 rfl rfl ?_
    refine zw_i (r := 1001) (n := 82) dX16_setRain_79 pf_X16_setRain_37 hR (lvM h4 (by omega)) (hR.kd (lvM h4 (by omega))) ⟨rfl, rfl⟩ (by decide) rfl ?_
    intro M hR hv
    refine zs_iload_n (n := 83) dX16_setRain_82 rfl rfl ?_
    refine zs_ireturn dX16_setRain_83 ⟨_, rfl, rfl⟩ ?_
    first
    | (rw [if_pos h53] at hQ; exact hQ _ hR)
    | (rw [if_neg h53] at hQ; exact hQ _ hR)
theorem k_setCold_1 {q : Int32} (hR : zRp Z Λ S M) (h4 : sc S 4 = 1) (hx9 : q < 0 ∨ ¬ q ≤ 40) : zG Z l 2 mth_X16_setCold [.ref (Λ 1001), .int q] M 0 0 (some (.int 0)) ((zRp Z Λ (mT S 1))) := by
  intro Q hQ
  show zX Z l 2 mth_X16_setCold 0 [(0, .ref (Λ 1001)), (1, .int q)] [] M 0 0 Q
  refine zs_aload_n (n := 1) dX16_setCold_0 rfl rfl ?_
  refine zs_iload_n (n := 2) dX16_setCold_1 rfl rfl ?_
  refine zs_i2l (n := 3) dX16_setCold_2 rfl ?_
  refine zs_lconst (v := 0) (n := 4) dX16_setCold_3 (by decide) rfl ?_
  refine zs_ldc2 (n := 7) dX16_setCold_4 ct_X16_192 rfl ?_
  refine zc_S (n := 10) (As := [.long q.toInt64, .long (0 : Int64), .long (40 : Int64)]) (mc := 0) (ms := 0) dX16_setCold_7 ok_X16_in ⟨ml_X16_50, st_X16_in⟩ rfl (Nat.le_of_ble_eq_true rfl) (by simp) (by omega) (Nat.le_refl _) (Nat.le_refl _) rfl rfl (m_in (x := q) (lo := (0 : Int32)) (hi := (40 : Int32)) rfl (by first | rfl | decide) (by first | rfl | decide)) ?_
  refine zs_if_eq (tgt := 17) (n := 13) dX16_setCold_10 (by decide) rfl (fun _ => ?_) (fun h => absurd (zb0.mpr (fIn_f hx9)) h)
  refine zs_iconst (v := 1) (n := 18) dX16_setCold_17 (by decide) rfl ?_
  refine zw_i (r := 1001) (n := 21) dX16_setCold_18 pf_X16_setCold_43 hR (lvM h4 (by omega)) (hR.kd (lvM h4 (by omega))) ⟨rfl, rfl⟩ (by decide) rfl ?_
  intro M hR hv
  refine zs_aload_n (n := 22) dX16_setCold_21 rfl rfl ?_
  refine zs_getv (x := (1 : Int32)) (n := 25) dX16_setCold_22 gf_X16_43 (hR.kd (lvM h4 (by omega))) (hR.iv (lvM h4 (by omega)) (by decide) (by decide)) rfl ?_
  refine zs_if_le (tgt := 30) (n := 28) dX16_setCold_25 (by decide) rfl (fun h => absurd h (by decide)) (fun _ => ?_)
  refine zs_iconst (v := 0) (n := 29) dX16_setCold_28 (by decide) rfl ?_
  refine zs_ireturn dX16_setCold_29 ⟨_, rfl, rfl⟩ ?_
  exact hQ _ hR
theorem k_setCold {q : Int32} (hR : zRp Z Λ S M) (h4 : sc S 4 = 1) (g1 : ¬ q < 0) (g2 : q ≤ 40) : zG Z l 2 mth_X16_setCold [.ref (Λ 1001), .int q] M 0 0 (some (.int (sV S 1001 684))) (zRp Z Λ (sc S, u2 (u2 (sV S) 1001 672 0) 1001 684 q, sW S, sT S, sP S)) := by
  intro Q hQ
  show zX Z l 2 mth_X16_setCold 0 [(0, .ref (Λ 1001)), (1, .int q)] [] M 0 0 Q
  refine zs_aload_n (n := 1) dX16_setCold_0 rfl rfl ?_
  refine zs_iload_n (n := 2) dX16_setCold_1 rfl rfl ?_
  refine zs_i2l (n := 3) dX16_setCold_2 rfl ?_
  refine zs_lconst (v := 0) (n := 4) dX16_setCold_3 (by decide) rfl ?_
  refine zs_ldc2 (n := 7) dX16_setCold_4 ct_X16_192 rfl ?_
  refine zc_S (n := 10) (As := [.long q.toInt64, .long (0 : Int64), .long (40 : Int64)]) (mc := 0) (ms := 0) dX16_setCold_7 ok_X16_in ⟨ml_X16_50, st_X16_in⟩ rfl (Nat.le_of_ble_eq_true rfl) (by simp) (by omega) (Nat.le_refl _) (Nat.le_refl _) rfl rfl (m_in (x := q) (lo := (0 : Int32)) (hi := (40 : Int32)) rfl (by first | rfl | decide) (by first | rfl | decide)) ?_
  refine zs_if_eq (tgt := 17) (n := 13) dX16_setCold_10 (by decide) rfl (fun h => absurd h (zb1.mpr (fIn_t g1 g2))) (fun _ => ?_)
  refine zs_iconst (v := 0) (n := 14) dX16_setCold_13 (by decide) rfl ?_
  refine zs_goto (tgt := 18) dX16_setCold_14 (by decide) ?_
  refine zw_i (r := 1001) (n := 21) dX16_setCold_18 pf_X16_setCold_43 hR (lvM h4 (by omega)) (hR.kd (lvM h4 (by omega))) ⟨rfl, rfl⟩ (by decide) rfl ?_
  intro M hR hv
  refine zs_aload_n (n := 22) dX16_setCold_21 rfl rfl ?_
  refine zs_getv (x := (0 : Int32)) (n := 25) dX16_setCold_22 gf_X16_43 (hR.kd (lvM h4 (by omega))) (hR.iv (lvM h4 (by omega)) (by decide) (by decide)) rfl ?_
  refine zs_if_le (tgt := 30) (n := 28) dX16_setCold_25 (by decide) rfl (fun _ => ?_) (fun h => absurd (by decide) h)
  refine zs_aload_n (n := 31) dX16_setCold_30 rfl rfl ?_
  refine zs_getv (x := (sV S 1001 684)) (n := 34) dX16_setCold_31 gf_X16_194 (hR.kd (lvM h4 (by omega))) (hR.iv (lvM h4 (by omega)) (by decide) (by decide)) rfl ?_
  refine zs_istore_n (n := 35) dX16_setCold_34 (by decide) rfl ?_
  refine zs_aload_n (n := 36) dX16_setCold_35 rfl rfl ?_
  refine zs_iload_n (n := 37) dX16_setCold_36 rfl rfl ?_
  refine zw_i (r := 1001) (n := 40) dX16_setCold_37 pf_X16_setCold_194 hR (lvM h4 (by omega)) (hR.kd (lvM h4 (by omega))) ⟨rfl, rfl⟩ (by decide) rfl ?_
  intro M hR hv
  refine zs_iload_n (n := 41) dX16_setCold_40 rfl rfl ?_
  refine zs_ireturn dX16_setCold_41 ⟨_, rfl, rfl⟩ ?_
  exact hQ _ hR
theorem k_setLaw_1 {p q : Int32} (hR : zRp Z Λ S M) (h4 : sc S 4 = 1) (hx9 : p < 0 ∨ ¬ p ≤ 99) : zG Z l 2 mth_X16_setLaw [.ref (Λ 1001), .int p, .int q] M 0 0 (some (.int 0)) ((zRp Z Λ (mT S 1))) := by
  intro Q hQ
  show zX Z l 2 mth_X16_setLaw 0 [(0, .ref (Λ 1001)), (1, .int p), (2, .int q)] [] M 0 0 Q
  refine zs_aload_n (n := 1) dX16_setLaw_0 rfl rfl ?_
  refine zs_iload_n (n := 2) dX16_setLaw_1 rfl rfl ?_
  refine zs_i2l (n := 3) dX16_setLaw_2 rfl ?_
  refine zs_lconst (v := 0) (n := 4) dX16_setLaw_3 (by decide) rfl ?_
  refine zs_ldc2 (n := 7) dX16_setLaw_4 ct_X16_73 rfl ?_
  refine zc_S (n := 10) (As := [.long p.toInt64, .long (0 : Int64), .long (99 : Int64)]) (mc := 0) (ms := 0) dX16_setLaw_7 ok_X16_in ⟨ml_X16_50, st_X16_in⟩ rfl (Nat.le_of_ble_eq_true rfl) (by simp) (by omega) (Nat.le_refl _) (Nat.le_refl _) rfl rfl (m_in (x := p) (lo := (0 : Int32)) (hi := (99 : Int32)) rfl (by first | rfl | decide) (by first | rfl | decide)) ?_
  refine zs_if_eq (tgt := 29) (n := 13) dX16_setLaw_10 (by decide) rfl (fun _ => ?_) (fun h => absurd (zb0.mpr (fIn_f hx9)) h)
  refine zs_iconst (v := 1) (n := 30) dX16_setLaw_29 (by decide) rfl ?_
  refine zw_i (r := 1001) (n := 33) dX16_setLaw_30 pf_X16_setLaw_43 hR (lvM h4 (by omega)) (hR.kd (lvM h4 (by omega))) ⟨rfl, rfl⟩ (by decide) rfl ?_
  intro M hR hv
  refine zs_aload_n (n := 34) dX16_setLaw_33 rfl rfl ?_
  refine zs_getv (x := (1 : Int32)) (n := 37) dX16_setLaw_34 gf_X16_43 (hR.kd (lvM h4 (by omega))) (hR.iv (lvM h4 (by omega)) (by decide) (by decide)) rfl ?_
  refine zs_if_le (tgt := 42) (n := 40) dX16_setLaw_37 (by decide) rfl (fun h => absurd h (by decide)) (fun _ => ?_)
  refine zs_iconst (v := 0) (n := 41) dX16_setLaw_40 (by decide) rfl ?_
  refine zs_ireturn dX16_setLaw_41 ⟨_, rfl, rfl⟩ ?_
  exact hQ _ hR
theorem k_setLaw_2 {p q : Int32} (hR : zRp Z Λ S M) (h4 : sc S 4 = 1) (g1 : ¬ p < 0) (g2 : p ≤ 99) (hx9 : q < 0 ∨ ¬ q ≤ 99) : zG Z l 2 mth_X16_setLaw [.ref (Λ 1001), .int p, .int q] M 0 0 (some (.int 0)) ((zRp Z Λ (mT S 1))) := by
  intro Q hQ
  show zX Z l 2 mth_X16_setLaw 0 [(0, .ref (Λ 1001)), (1, .int p), (2, .int q)] [] M 0 0 Q
  refine zs_aload_n (n := 1) dX16_setLaw_0 rfl rfl ?_
  refine zs_iload_n (n := 2) dX16_setLaw_1 rfl rfl ?_
  refine zs_i2l (n := 3) dX16_setLaw_2 rfl ?_
  refine zs_lconst (v := 0) (n := 4) dX16_setLaw_3 (by decide) rfl ?_
  refine zs_ldc2 (n := 7) dX16_setLaw_4 ct_X16_73 rfl ?_
  refine zc_S (n := 10) (As := [.long p.toInt64, .long (0 : Int64), .long (99 : Int64)]) (mc := 0) (ms := 0) dX16_setLaw_7 ok_X16_in ⟨ml_X16_50, st_X16_in⟩ rfl (Nat.le_of_ble_eq_true rfl) (by simp) (by omega) (Nat.le_refl _) (Nat.le_refl _) rfl rfl (m_in (x := p) (lo := (0 : Int32)) (hi := (99 : Int32)) rfl (by first | rfl | decide) (by first | rfl | decide)) ?_
  refine zs_if_eq (tgt := 29) (n := 13) dX16_setLaw_10 (by decide) rfl (fun h => absurd h (zb1.mpr (fIn_t g1 g2))) (fun _ => ?_)
  refine zs_iload_n (n := 14) dX16_setLaw_13 rfl rfl ?_
  refine zs_i2l (n := 15) dX16_setLaw_14 rfl ?_
  refine zs_lconst (v := 0) (n := 16) dX16_setLaw_15 (by decide) rfl ?_
  refine zs_ldc2 (n := 19) dX16_setLaw_16 ct_X16_73 rfl ?_
  refine zc_S (n := 22) (As := [.long q.toInt64, .long (0 : Int64), .long (99 : Int64)]) (mc := 0) (ms := 0) dX16_setLaw_19 ok_X16_in ⟨ml_X16_50, st_X16_in⟩ rfl (Nat.le_of_ble_eq_true rfl) (by simp) (by omega) (Nat.le_refl _) (Nat.le_refl _) rfl rfl (m_in (x := q) (lo := (0 : Int32)) (hi := (99 : Int32)) rfl (by first | rfl | decide) (by first | rfl | decide)) ?_
  refine zs_if_eq (tgt := 29) (n := 25) dX16_setLaw_22 (by decide) rfl (fun _ => ?_) (fun h => absurd (zb0.mpr (fIn_f hx9)) h)
  refine zs_iconst (v := 1) (n := 30) dX16_setLaw_29 (by decide) rfl ?_
  refine zw_i (r := 1001) (n := 33) dX16_setLaw_30 pf_X16_setLaw_43 hR (lvM h4 (by omega)) (hR.kd (lvM h4 (by omega))) ⟨rfl, rfl⟩ (by decide) rfl ?_
  intro M hR hv
  refine zs_aload_n (n := 34) dX16_setLaw_33 rfl rfl ?_
  refine zs_getv (x := (1 : Int32)) (n := 37) dX16_setLaw_34 gf_X16_43 (hR.kd (lvM h4 (by omega))) (hR.iv (lvM h4 (by omega)) (by decide) (by decide)) rfl ?_
  refine zs_if_le (tgt := 42) (n := 40) dX16_setLaw_37 (by decide) rfl (fun h => absurd h (by decide)) (fun _ => ?_)
  refine zs_iconst (v := 0) (n := 41) dX16_setLaw_40 (by decide) rfl ?_
  refine zs_ireturn dX16_setLaw_41 ⟨_, rfl, rfl⟩ ?_
  exact hQ _ hR
theorem k_setLaw {p q : Int32} (hR : zRp Z Λ S M) (h4 : sc S 4 = 1) (g1 : ¬ p < 0) (g2 : p ≤ 99) (g3 : ¬ q < 0) (g4 : q ≤ 99) : zG Z l 2 mth_X16_setLaw [.ref (Λ 1001), .int p, .int q] M 0 0 (some (.int (sV S 1001 685))) (zRp Z Λ (sc S, u2 (u2 (u2 (sV S) 1001 672 0) 1001 685 p) 1001 686 q, sW S, sT S, sP S)) := by
  intro Q hQ
  show zX Z l 2 mth_X16_setLaw 0 [(0, .ref (Λ 1001)), (1, .int p), (2, .int q)] [] M 0 0 Q
  refine zs_aload_n (n := 1) dX16_setLaw_0 rfl rfl ?_
  refine zs_iload_n (n := 2) dX16_setLaw_1 rfl rfl ?_
  refine zs_i2l (n := 3) dX16_setLaw_2 rfl ?_
  refine zs_lconst (v := 0) (n := 4) dX16_setLaw_3 (by decide) rfl ?_
  refine zs_ldc2 (n := 7) dX16_setLaw_4 ct_X16_73 rfl ?_
  refine zc_S (n := 10) (As := [.long p.toInt64, .long (0 : Int64), .long (99 : Int64)]) (mc := 0) (ms := 0) dX16_setLaw_7 ok_X16_in ⟨ml_X16_50, st_X16_in⟩ rfl (Nat.le_of_ble_eq_true rfl) (by simp) (by omega) (Nat.le_refl _) (Nat.le_refl _) rfl rfl (m_in (x := p) (lo := (0 : Int32)) (hi := (99 : Int32)) rfl (by first | rfl | decide) (by first | rfl | decide)) ?_
  refine zs_if_eq (tgt := 29) (n := 13) dX16_setLaw_10 (by decide) rfl (fun h => absurd h (zb1.mpr (fIn_t g1 g2))) (fun _ => ?_)
  refine zs_iload_n (n := 14) dX16_setLaw_13 rfl rfl ?_
  refine zs_i2l (n := 15) dX16_setLaw_14 rfl ?_
  refine zs_lconst (v := 0) (n := 16) dX16_setLaw_15 (by decide) rfl ?_
  refine zs_ldc2 (n := 19) dX16_setLaw_16 ct_X16_73 rfl ?_
  refine zc_S (n := 22) (As := [.long q.toInt64, .long (0 : Int64), .long (99 : Int64)]) (mc := 0) (ms := 0) dX16_setLaw_19 ok_X16_in ⟨ml_X16_50, st_X16_in⟩ rfl (Nat.le_of_ble_eq_true rfl) (by simp) (by omega) (Nat.le_refl _) (Nat.le_refl _) rfl rfl (m_in (x := q) (lo := (0 : Int32)) (hi := (99 : Int32)) rfl (by first | rfl | decide) (by first | rfl | decide)) ?_
  refine zs_if_eq (tgt := 29) (n := 25) dX16_setLaw_22 (by decide) rfl (fun h => absurd h (zb1.mpr (fIn_t g3 g4))) (fun _ => ?_)
  refine zs_iconst (v := 0) (n := 26) dX16_setLaw_25 (by decide) rfl ?_
  refine zs_goto (tgt := 30) dX16_setLaw_26 (by decide) ?_
  refine zw_i (r := 1001) (n := 33) dX16_setLaw_30 pf_X16_setLaw_43 hR (lvM h4 (by omega)) (hR.kd (lvM h4 (by omega))) ⟨rfl, rfl⟩ (by decide) rfl ?_
  intro M hR hv
  refine zs_aload_n (n := 34) dX16_setLaw_33 rfl rfl ?_
  refine zs_getv (x := (0 : Int32)) (n := 37) dX16_setLaw_34 gf_X16_43 (hR.kd (lvM h4 (by omega))) (hR.iv (lvM h4 (by omega)) (by decide) (by decide)) rfl ?_
  refine zs_if_le (tgt := 42) (n := 40) dX16_setLaw_37 (by decide) rfl (fun _ => ?_) (fun h => absurd (by decide) h)
  refine zs_aload_n (n := 43) dX16_setLaw_42 rfl rfl ?_
  refine zs_getv (x := (sV S 1001 685)) (n := 46) dX16_setLaw_43 gf_X16_40 (hR.kd (lvM h4 (by omega))) (hR.iv (lvM h4 (by omega)) (by decide) (by decide)) rfl ?_
  refine zs_istore_n (n := 47) dX16_setLaw_46 (by decide) rfl ?_
  refine zs_aload_n (n := 48) dX16_setLaw_47 rfl rfl ?_
  refine zs_iload_n (n := 49) dX16_setLaw_48 rfl rfl ?_
  refine zw_i (r := 1001) (n := 52) dX16_setLaw_49 pf_X16_setLaw_40 hR (lvM h4 (by omega)) (hR.kd (lvM h4 (by omega))) ⟨rfl, rfl⟩ (by decide) rfl ?_
  intro M hR hv
  refine zs_aload_n (n := 53) dX16_setLaw_52 rfl rfl ?_
  refine zs_iload_n (n := 54) dX16_setLaw_53 rfl rfl ?_
  refine zw_i (r := 1001) (n := 57) dX16_setLaw_54 pf_X16_setLaw_197 hR (lvM h4 (by omega)) (hR.kd (lvM h4 (by omega))) ⟨rfl, rfl⟩ (by decide) rfl ?_
  intro M hR hv
  refine zs_iload_n (n := 58) dX16_setLaw_57 rfl rfl ?_
  refine zs_ireturn dX16_setLaw_58 ⟨_, rfl, rfl⟩ ?_
  exact hQ _ hR
theorem k_turnAt_1 {p q : Int32} (hR : zRp Z Λ S M) (h4 : sc S 4 = 1) (hx9 : ¬ (¬ p < 0 ∧ ¬ nI (sc S 1000) ≤ p)) : zG Z l 2 mth_X16_turnAt [.ref (Λ 1001), .int p, .int q] M 0 0 (some (.int 0)) ((zRp Z Λ (mT S 1))) := by
  intro Q hQ
  have hb1 : sc S 1000 ≤ 6 := hR.bnd.2.1.1
  show zX Z l 2 mth_X16_turnAt 0 [(0, .ref (Λ 1001)), (1, .int p), (2, .int q)] [] M 0 0 Q
  refine zs_aload_n (n := 1) dX16_turnAt_0 rfl rfl ?_
  refine zs_aload_n (n := 2) dX16_turnAt_1 rfl rfl ?_
  refine zs_iload_n (n := 3) dX16_turnAt_2 rfl rfl ?_
  refine zc_V (n := 6) (As := [.int p]) (ci := 21) (mc := 0) (ms := 0) dX16_turnAt_3 ok_X16_isPitch ⟨ml_X16_84, im_X16_isPitch, sl_X16_isPitch⟩ rfl (hR.kd (lvM h4 (by omega))) rfl (Nat.le_of_ble_eq_true rfl) (by simp) (by omega) (Nat.le_refl _) (Nat.le_refl _) rfl rfl (k_isPitch hR h4) ?_
  refine zs_if_ne (tgt := 13) (n := 9) dX16_turnAt_6 (by decide) rfl (fun h => absurd (zb0.mpr (fIn_no (by omega) hx9)) h) (fun _ => ?_)
  refine zs_iconst (v := 1) (n := 10) dX16_turnAt_9 (by decide) rfl ?_
  refine zs_goto (tgt := 47) dX16_turnAt_10 (by decide) ?_
  refine zw_i (r := 1001) (n := 50) dX16_turnAt_47 pf_X16_turnAt_43 hR (lvM h4 (by omega)) (hR.kd (lvM h4 (by omega))) ⟨rfl, rfl⟩ (by decide) rfl ?_
  intro M hR hv
  refine zs_aload_n (n := 51) dX16_turnAt_50 rfl rfl ?_
  refine zs_getv (x := (1 : Int32)) (n := 54) dX16_turnAt_51 gf_X16_43 (hR.kd (lvM h4 (by omega))) (hR.iv (lvM h4 (by omega)) (by decide) (by decide)) rfl ?_
  refine zs_if_le (tgt := 61) (n := 57) dX16_turnAt_54 (by decide) rfl (fun h => absurd h (by decide)) (fun _ => ?_)
  refine zs_iconst (v := 0) (n := 58) dX16_turnAt_57 (by decide) rfl ?_
  refine zs_goto (tgt := 85) dX16_turnAt_58 (by decide) ?_
  refine zs_ireturn dX16_turnAt_85 ⟨_, rfl, rfl⟩ ?_
  exact hQ _ hR
theorem k_turnAt_2 {i : Nat} {q : Int32} (hR : zRp Z Λ S M) (h4 : sc S 4 = 1) (hi : i < sc S 1000) (hx9 : ¬ (¬ q < 0 ∧ ¬ nI (sc S (1010 + i)) ≤ q)) : zG Z l 3 mth_X16_turnAt [.ref (Λ 1001), .int (nI i), .int q] M 0 0 (some (.int 0)) ((zRp Z Λ (mT S 2))) := by
  intro Q hQ
  have hb1 : sc S 1000 ≤ 6 := hR.bnd.2.1.1
  have hb3 := hR.bnd.2.2 i
  show zX Z l 3 mth_X16_turnAt 0 [(0, .ref (Λ 1001)), (1, .int (nI i)), (2, .int q)] [] M 0 0 Q
  refine zs_aload_n (n := 1) dX16_turnAt_0 rfl rfl ?_
  refine zs_aload_n (n := 2) dX16_turnAt_1 rfl rfl ?_
  refine zs_iload_n (n := 3) dX16_turnAt_2 rfl rfl ?_
  refine zc_V (n := 6) (As := [.int (nI i)]) (ci := 21) (mc := 0) (ms := 0) dX16_turnAt_3 ok_X16_isPitch ⟨ml_X16_84, im_X16_isPitch, sl_X16_isPitch⟩ rfl (hR.kd (lvM h4 (by omega))) rfl (Nat.le_of_ble_eq_true rfl) (by simp) (by omega) (Nat.le_refl _) (Nat.le_refl _) rfl rfl (k_isPitch hR h4) ?_
  refine zs_if_ne (tgt := 13) (n := 9) dX16_turnAt_6 (by decide) rfl (fun _ => ?_) (fun h => absurd h (zb1.mpr (fIn_ix hi (by omega))))
  refine zs_iload_n (n := 14) dX16_turnAt_13 rfl rfl ?_
  refine zs_i2l (n := 15) dX16_turnAt_14 rfl ?_
  refine zs_lconst (v := 0) (n := 16) dX16_turnAt_15 (by decide) rfl ?_
  refine zs_aload_n (n := 17) dX16_turnAt_16 rfl rfl ?_
  refine zs_getr (b := (Λ 1015)) (n := 20) dX16_turnAt_17 gf_X16_10 (hR.kd (lvM h4 (by omega))) (hR.pt (lvM h4 (by omega)) rfl (by decide)) rfl ?_
  refine zs_iload_n (n := 21) dX16_turnAt_20 rfl rfl ?_
  refine zc_getb (c := sc S 1000) (b := (Λ (1100 + i))) (n := 24) dX16_turnAt_21 ml_X16_94 (hR.lP' h4) hi rfl (by simp) (by omega) rfl ?_
  refine zs_castS (ci := 18) (n := 27) dX16_turnAt_24 rfl cl_X16_68 (hR.kP' hi) rfl ?_
  refine zs_getr (b := (Λ (1120 + i))) (n := 30) dX16_turnAt_27 gf_X16_164 (hR.kP' hi) (hR.pT' hi) rfl ?_
  refine zc_size (c := sc S (1010 + i)) (n := 33) dX16_turnAt_30 ml_X16_46 (hR.lT' hi) (by simp) (by omega) rfl ?_
  refine zs_iconst (v := 1) (n := 34) dX16_turnAt_33 (by decide) rfl ?_
  refine zs_isub (n := 35) dX16_turnAt_34 rfl ?_
  refine zs_i2l (n := 36) dX16_turnAt_35 rfl ?_
  refine zc_S (n := 39) (As := [.long q.toInt64, .long (0 : Int64), .long ((nI (sc S (1010 + i))) - (1 : Int32)).toInt64]) (mc := 0) (ms := 0) dX16_turnAt_36 ok_X16_in ⟨ml_X16_50, st_X16_in⟩ rfl (Nat.le_of_ble_eq_true rfl) (by simp) (by omega) (Nat.le_refl _) (Nat.le_refl _) rfl rfl (m_in (x := q) (lo := (0 : Int32)) (hi := ((nI (sc S (1010 + i))) - (1 : Int32))) rfl (by first | rfl | decide) (by first | rfl | decide)) ?_
  refine zs_if_ne (tgt := 46) (n := 42) dX16_turnAt_39 (by decide) rfl (fun h => absurd (zb0.mpr (fIn_no (by omega) hx9)) h) (fun _ => ?_)
  refine zs_iconst (v := 2) (n := 43) dX16_turnAt_42 (by decide) rfl ?_
  refine zs_goto (tgt := 47) dX16_turnAt_43 (by decide) ?_
  refine zw_i (r := 1001) (n := 50) dX16_turnAt_47 pf_X16_turnAt_43 hR (lvM h4 (by omega)) (hR.kd (lvM h4 (by omega))) ⟨rfl, rfl⟩ (by decide) rfl ?_
  intro M hR hv
  refine zs_aload_n (n := 51) dX16_turnAt_50 rfl rfl ?_
  refine zs_getv (x := (2 : Int32)) (n := 54) dX16_turnAt_51 gf_X16_43 (hR.kd (lvM h4 (by omega))) (hR.iv (lvM h4 (by omega)) (by decide) (by decide)) rfl ?_
  refine zs_if_le (tgt := 61) (n := 57) dX16_turnAt_54 (by decide) rfl (fun h => absurd h (by decide)) (fun _ => ?_)
  refine zs_iconst (v := 0) (n := 58) dX16_turnAt_57 (by decide) rfl ?_
  refine zs_goto (tgt := 85) dX16_turnAt_58 (by decide) ?_
  refine zs_ireturn dX16_turnAt_85 ⟨_, rfl, rfl⟩ ?_
  exact hQ _ hR
theorem k_turnAt {i k : Nat} (hR : zRp Z Λ S M) (h4 : sc S 4 = 1) (hi : i < sc S 1000) (hk : k < sc S (1010 + i)) : zG Z l 3 mth_X16_turnAt [.ref (Λ 1001), .int (nI i), .int (nI k)] M 0 0 (some (.int (sV S (1160 + 8 * i + k) 608))) ((zRp Z Λ (mT S 0))) := by
  intro Q hQ
  have hb1 : sc S 1000 ≤ 6 := hR.bnd.2.1.1
  have hb3 := hR.bnd.2.2 i
  show zX Z l 3 mth_X16_turnAt 0 [(0, .ref (Λ 1001)), (1, .int (nI i)), (2, .int (nI k))] [] M 0 0 Q
  refine zs_aload_n (n := 1) dX16_turnAt_0 rfl rfl ?_
  refine zs_aload_n (n := 2) dX16_turnAt_1 rfl rfl ?_
  refine zs_iload_n (n := 3) dX16_turnAt_2 rfl rfl ?_
  refine zc_V (n := 6) (As := [.int (nI i)]) (ci := 21) (mc := 0) (ms := 0) dX16_turnAt_3 ok_X16_isPitch ⟨ml_X16_84, im_X16_isPitch, sl_X16_isPitch⟩ rfl (hR.kd (lvM h4 (by omega))) rfl (Nat.le_of_ble_eq_true rfl) (by simp) (by omega) (Nat.le_refl _) (Nat.le_refl _) rfl rfl (k_isPitch hR h4) ?_
  refine zs_if_ne (tgt := 13) (n := 9) dX16_turnAt_6 (by decide) rfl (fun _ => ?_) (fun h => absurd h (zb1.mpr (fIn_ix hi (by omega))))
  refine zs_iload_n (n := 14) dX16_turnAt_13 rfl rfl ?_
  refine zs_i2l (n := 15) dX16_turnAt_14 rfl ?_
  refine zs_lconst (v := 0) (n := 16) dX16_turnAt_15 (by decide) rfl ?_
  refine zs_aload_n (n := 17) dX16_turnAt_16 rfl rfl ?_
  refine zs_getr (b := (Λ 1015)) (n := 20) dX16_turnAt_17 gf_X16_10 (hR.kd (lvM h4 (by omega))) (hR.pt (lvM h4 (by omega)) rfl (by decide)) rfl ?_
  refine zs_iload_n (n := 21) dX16_turnAt_20 rfl rfl ?_
  refine zc_getb (c := sc S 1000) (b := (Λ (1100 + i))) (n := 24) dX16_turnAt_21 ml_X16_94 (hR.lP' h4) hi rfl (by simp) (by omega) rfl ?_
  refine zs_castS (ci := 18) (n := 27) dX16_turnAt_24 rfl cl_X16_68 (hR.kP' hi) rfl ?_
  refine zs_getr (b := (Λ (1120 + i))) (n := 30) dX16_turnAt_27 gf_X16_164 (hR.kP' hi) (hR.pT' hi) rfl ?_
  refine zc_size (c := sc S (1010 + i)) (n := 33) dX16_turnAt_30 ml_X16_46 (hR.lT' hi) (by simp) (by omega) rfl ?_
  refine zs_iconst (v := 1) (n := 34) dX16_turnAt_33 (by decide) rfl ?_
  refine zs_isub (n := 35) dX16_turnAt_34 rfl ?_
  refine zs_i2l (n := 36) dX16_turnAt_35 rfl ?_
  refine zc_S (n := 39) (As := [.long (nI k).toInt64, .long (0 : Int64), .long ((nI (sc S (1010 + i))) - (1 : Int32)).toInt64]) (mc := 0) (ms := 0) dX16_turnAt_36 ok_X16_in ⟨ml_X16_50, st_X16_in⟩ rfl (Nat.le_of_ble_eq_true rfl) (by simp) (by omega) (Nat.le_refl _) (Nat.le_refl _) rfl rfl (m_in (x := (nI k)) (lo := (0 : Int32)) (hi := ((nI (sc S (1010 + i))) - (1 : Int32))) rfl (by first | rfl | decide) (by first | rfl | decide)) ?_
  refine zs_if_ne (tgt := 46) (n := 42) dX16_turnAt_39 (by decide) rfl (fun _ => ?_) (fun h => absurd h (zb1.mpr (fIn_ix hk (by omega))))
  refine zs_iconst (v := 0) (n := 47) dX16_turnAt_46 (by decide) rfl ?_
  refine zw_i (r := 1001) (n := 50) dX16_turnAt_47 pf_X16_turnAt_43 hR (lvM h4 (by omega)) (hR.kd (lvM h4 (by omega))) ⟨rfl, rfl⟩ (by decide) rfl ?_
  intro M hR hv
  refine zs_aload_n (n := 51) dX16_turnAt_50 rfl rfl ?_
  refine zs_getv (x := (0 : Int32)) (n := 54) dX16_turnAt_51 gf_X16_43 (hR.kd (lvM h4 (by omega))) (hR.iv (lvM h4 (by omega)) (by decide) (by decide)) rfl ?_
  refine zs_if_le (tgt := 61) (n := 57) dX16_turnAt_54 (by decide) rfl (fun _ => ?_) (fun h => absurd (by decide) h)
  refine zs_aload_n (n := 62) dX16_turnAt_61 rfl rfl ?_
  refine zs_getr (b := (Λ 1015)) (n := 65) dX16_turnAt_62 gf_X16_10 (hR.kd (lvM h4 (by omega))) (hR.pt (lvM h4 (by omega)) rfl (by decide)) rfl ?_
  refine zs_iload_n (n := 66) dX16_turnAt_65 rfl rfl ?_
  refine zc_getb (c := sc S 1000) (b := (Λ (1100 + i))) (n := 69) dX16_turnAt_66 ml_X16_94 (hR.lP' h4) hi rfl (by simp) (by omega) rfl ?_
  refine zs_castS (ci := 18) (n := 72) dX16_turnAt_69 rfl cl_X16_68 (hR.kP' hi) rfl ?_
  refine zs_getr (b := (Λ (1120 + i))) (n := 75) dX16_turnAt_72 gf_X16_164 (hR.kP' hi) (hR.pT' hi) rfl ?_
  refine zs_iload_n (n := 76) dX16_turnAt_75 rfl rfl ?_
  refine zc_getb (c := sc S (1010 + i)) (b := (Λ (1160 + 8 * i + k))) (n := 79) dX16_turnAt_76 ml_X16_94 (hR.lT' hi) hk rfl (by simp) (by omega) rfl ?_
  refine zs_castS (ci := 19) (n := 82) dX16_turnAt_79 rfl cl_X16_167 (hR.kK' hi hk) rfl ?_
  refine zs_getv (x := (sV S (1160 + 8 * i + k) 608)) (n := 85) dX16_turnAt_82 gf_X16_169 (hR.kK' hi hk) (hR.iv (lvK' hi hk) (by decide) (by decide)) rfl ?_
  refine zs_ireturn dX16_turnAt_85 ⟨_, rfl, rfl⟩ ?_
  exact hQ _ hR
theorem k_noVisit_1 {p : Int32} (hR : zRp Z Λ S M) (h4 : sc S 4 = 1) (hp : sV S 1001 680 = 0) : zG Z l 1 mth_X16_noVisit [.ref (Λ 1001), .int p] M 0 0 (some (.int 1)) ((zRp Z Λ (mT S 1))) := by
  intro Q hQ
  have hb4 : sc S 1002 ≤ 6 := hR.bnd.2.1.2.2.1
  show zX Z l 1 mth_X16_noVisit 0 [(0, .ref (Λ 1001)), (1, .int p)] [] M 0 0 Q
  refine zs_aload_n (n := 1) dX16_noVisit_0 rfl rfl ?_
  refine zs_aload_n (n := 2) dX16_noVisit_1 rfl rfl ?_
  refine zs_getv (x := (sV S 1001 680)) (n := 5) dX16_noVisit_2 gf_X16_161 (hR.kd (lvM h4 (by omega))) (hR.iv (lvM h4 (by omega)) (by decide) (by decide)) rfl ?_
  refine zs_if_ne (tgt := 12) (n := 8) dX16_noVisit_5 (by decide) rfl (fun h => absurd hp h) (fun _ => ?_)
  refine zs_iconst (v := 1) (n := 9) dX16_noVisit_8 (by decide) rfl ?_
  refine zs_goto (tgt := 36) dX16_noVisit_9 (by decide) ?_
  refine zw_i (r := 1001) (n := 39) dX16_noVisit_36 pf_X16_noVisit_43 hR (lvM h4 (by omega)) (hR.kd (lvM h4 (by omega))) ⟨rfl, rfl⟩ (by decide) rfl ?_
  intro M hR hv
  refine zs_aload_n (n := 40) dX16_noVisit_39 rfl rfl ?_
  refine zs_getv (x := (1 : Int32)) (n := 43) dX16_noVisit_40 gf_X16_43 (hR.kd (lvM h4 (by omega))) (hR.iv (lvM h4 (by omega)) (by decide) (by decide)) rfl ?_
  refine zs_if_le (tgt := 50) (n := 46) dX16_noVisit_43 (by decide) rfl (fun h => absurd h (by decide)) (fun _ => ?_)
  refine zs_iconst (v := 1) (n := 47) dX16_noVisit_46 (by decide) rfl ?_
  refine zs_goto (tgt := 51) dX16_noVisit_47 (by decide) ?_
  refine zs_ireturn dX16_noVisit_51 ⟨_, rfl, rfl⟩ ?_
  exact hQ _ hR
theorem k_noVisit_2 {p : Int32} (hR : zRp Z Λ S M) (h4 : sc S 4 = 1) (hp : ¬ sV S 1001 680 = 0) (hx9 : ¬ (¬ p < 0 ∧ ¬ nI (sc S 1002) ≤ p)) : zG Z l 1 mth_X16_noVisit [.ref (Λ 1001), .int p] M 0 0 (some (.int 1)) ((zRp Z Λ (mT S 2))) := by
  intro Q hQ
  have hb4 : sc S 1002 ≤ 6 := hR.bnd.2.1.2.2.1
  show zX Z l 1 mth_X16_noVisit 0 [(0, .ref (Λ 1001)), (1, .int p)] [] M 0 0 Q
  refine zs_aload_n (n := 1) dX16_noVisit_0 rfl rfl ?_
  refine zs_aload_n (n := 2) dX16_noVisit_1 rfl rfl ?_
  refine zs_getv (x := (sV S 1001 680)) (n := 5) dX16_noVisit_2 gf_X16_161 (hR.kd (lvM h4 (by omega))) (hR.iv (lvM h4 (by omega)) (by decide) (by decide)) rfl ?_
  refine zs_if_ne (tgt := 12) (n := 8) dX16_noVisit_5 (by decide) rfl (fun _ => ?_) (fun h => absurd h hp)
  refine zs_iload_n (n := 13) dX16_noVisit_12 rfl rfl ?_
  refine zs_i2l (n := 14) dX16_noVisit_13 rfl ?_
  refine zs_lconst (v := 0) (n := 15) dX16_noVisit_14 (by decide) rfl ?_
  refine zs_aload_n (n := 16) dX16_noVisit_15 rfl rfl ?_
  refine zs_getr (b := (Λ 1019)) (n := 19) dX16_noVisit_16 gf_X16_19 (hR.kd (lvM h4 (by omega))) (hR.pt (lvM h4 (by omega)) rfl (by decide)) rfl ?_
  refine zc_size (c := sc S 1002) (n := 22) dX16_noVisit_19 ml_X16_46 (hR.lV' h4) (by simp) (by omega) rfl ?_
  refine zs_iconst (v := 1) (n := 23) dX16_noVisit_22 (by decide) rfl ?_
  refine zs_isub (n := 24) dX16_noVisit_23 rfl ?_
  refine zs_i2l (n := 25) dX16_noVisit_24 rfl ?_
  refine zc_S (n := 28) (As := [.long p.toInt64, .long (0 : Int64), .long ((nI (sc S 1002)) - (1 : Int32)).toInt64]) (mc := 0) (ms := 0) dX16_noVisit_25 ok_X16_in ⟨ml_X16_50, st_X16_in⟩ rfl (Nat.le_of_ble_eq_true rfl) (by simp) (by omega) (Nat.le_refl _) (Nat.le_refl _) rfl rfl (m_in (x := p) (lo := (0 : Int32)) (hi := ((nI (sc S 1002)) - (1 : Int32))) rfl (by first | rfl | decide) (by first | rfl | decide)) ?_
  refine zs_if_ne (tgt := 35) (n := 31) dX16_noVisit_28 (by decide) rfl (fun h => absurd (zb0.mpr (fIn_no (by omega) hx9)) h) (fun _ => ?_)
  refine zs_iconst (v := 2) (n := 32) dX16_noVisit_31 (by decide) rfl ?_
  refine zs_goto (tgt := 36) dX16_noVisit_32 (by decide) ?_
  refine zw_i (r := 1001) (n := 39) dX16_noVisit_36 pf_X16_noVisit_43 hR (lvM h4 (by omega)) (hR.kd (lvM h4 (by omega))) ⟨rfl, rfl⟩ (by decide) rfl ?_
  intro M hR hv
  refine zs_aload_n (n := 40) dX16_noVisit_39 rfl rfl ?_
  refine zs_getv (x := (2 : Int32)) (n := 43) dX16_noVisit_40 gf_X16_43 (hR.kd (lvM h4 (by omega))) (hR.iv (lvM h4 (by omega)) (by decide) (by decide)) rfl ?_
  refine zs_if_le (tgt := 50) (n := 46) dX16_noVisit_43 (by decide) rfl (fun h => absurd h (by decide)) (fun _ => ?_)
  refine zs_iconst (v := 1) (n := 47) dX16_noVisit_46 (by decide) rfl ?_
  refine zs_goto (tgt := 51) dX16_noVisit_47 (by decide) ?_
  refine zs_ireturn dX16_noVisit_51 ⟨_, rfl, rfl⟩ ?_
  exact hQ _ hR
theorem k_noVisit_0 {j : Nat} (hR : zRp Z Λ S M) (h4 : sc S 4 = 1) (hp : ¬ sV S 1001 680 = 0) (hj : j < sc S 1002) : zG Z l 1 mth_X16_noVisit [.ref (Λ 1001), .int (nI j)] M 0 0 (some (.int 0)) ((zRp Z Λ (mT S 0))) := by
  intro Q hQ
  have hb4 : sc S 1002 ≤ 6 := hR.bnd.2.1.2.2.1
  show zX Z l 1 mth_X16_noVisit 0 [(0, .ref (Λ 1001)), (1, .int (nI j))] [] M 0 0 Q
  refine zs_aload_n (n := 1) dX16_noVisit_0 rfl rfl ?_
  refine zs_aload_n (n := 2) dX16_noVisit_1 rfl rfl ?_
  refine zs_getv (x := (sV S 1001 680)) (n := 5) dX16_noVisit_2 gf_X16_161 (hR.kd (lvM h4 (by omega))) (hR.iv (lvM h4 (by omega)) (by decide) (by decide)) rfl ?_
  refine zs_if_ne (tgt := 12) (n := 8) dX16_noVisit_5 (by decide) rfl (fun _ => ?_) (fun h => absurd h hp)
  refine zs_iload_n (n := 13) dX16_noVisit_12 rfl rfl ?_
  refine zs_i2l (n := 14) dX16_noVisit_13 rfl ?_
  refine zs_lconst (v := 0) (n := 15) dX16_noVisit_14 (by decide) rfl ?_
  refine zs_aload_n (n := 16) dX16_noVisit_15 rfl rfl ?_
  refine zs_getr (b := (Λ 1019)) (n := 19) dX16_noVisit_16 gf_X16_19 (hR.kd (lvM h4 (by omega))) (hR.pt (lvM h4 (by omega)) rfl (by decide)) rfl ?_
  refine zc_size (c := sc S 1002) (n := 22) dX16_noVisit_19 ml_X16_46 (hR.lV' h4) (by simp) (by omega) rfl ?_
  refine zs_iconst (v := 1) (n := 23) dX16_noVisit_22 (by decide) rfl ?_
  refine zs_isub (n := 24) dX16_noVisit_23 rfl ?_
  refine zs_i2l (n := 25) dX16_noVisit_24 rfl ?_
  refine zc_S (n := 28) (As := [.long (nI j).toInt64, .long (0 : Int64), .long ((nI (sc S 1002)) - (1 : Int32)).toInt64]) (mc := 0) (ms := 0) dX16_noVisit_25 ok_X16_in ⟨ml_X16_50, st_X16_in⟩ rfl (Nat.le_of_ble_eq_true rfl) (by simp) (by omega) (Nat.le_refl _) (Nat.le_refl _) rfl rfl (m_in (x := (nI j)) (lo := (0 : Int32)) (hi := ((nI (sc S 1002)) - (1 : Int32))) rfl (by first | rfl | decide) (by first | rfl | decide)) ?_
  refine zs_if_ne (tgt := 35) (n := 31) dX16_noVisit_28 (by decide) rfl (fun _ => ?_) (fun h => absurd h (zb1.mpr (fIn_ix hj (by omega))))
  refine zs_iconst (v := 0) (n := 36) dX16_noVisit_35 (by decide) rfl ?_
  refine zw_i (r := 1001) (n := 39) dX16_noVisit_36 pf_X16_noVisit_43 hR (lvM h4 (by omega)) (hR.kd (lvM h4 (by omega))) ⟨rfl, rfl⟩ (by decide) rfl ?_
  intro M hR hv
  refine zs_aload_n (n := 40) dX16_noVisit_39 rfl rfl ?_
  refine zs_getv (x := (0 : Int32)) (n := 43) dX16_noVisit_40 gf_X16_43 (hR.kd (lvM h4 (by omega))) (hR.iv (lvM h4 (by omega)) (by decide) (by decide)) rfl ?_
  refine zs_if_le (tgt := 50) (n := 46) dX16_noVisit_43 (by decide) rfl (fun _ => ?_) (fun h => absurd (by decide) h)
  refine zs_iconst (v := 0) (n := 51) dX16_noVisit_50 (by decide) rfl ?_
  refine zs_ireturn dX16_noVisit_51 ⟨_, rfl, rfl⟩ ?_
  exact hQ _ hR
theorem k_fineAt_1 {p : Int32} (hR : zRp Z Λ S M) (h4 : sc S 4 = 1) (hp : sV S 1001 680 = 0) : zG Z l 3 mth_X16_fineAt [.ref (Λ 1001), .int p] M 0 0 (some (.int 32)) ((zRp Z Λ (mT S 1))) := by
  intro Q hQ
  show zX Z l 3 mth_X16_fineAt 0 [(0, .ref (Λ 1001)), (1, .int p)] [] M 0 0 Q
  refine zs_aload_n (n := 1) dX16_fineAt_0 rfl rfl ?_
  refine zs_iload_n (n := 2) dX16_fineAt_1 rfl rfl ?_
  refine zg_V (n := 5) (As := [.int p]) (ci := 21) (mc := 0) (ms := 0) dX16_fineAt_2 ok_X16_noVisit ⟨ml_X16_318, im_X16_noVisit, sl_X16_noVisit⟩ rfl (hR.kd (lvM h4 (by omega))) rfl (Nat.le_of_ble_eq_true rfl) (by simp) (by omega) (Nat.le_refl _) (Nat.le_refl _) rfl rfl (k_noVisit_1 hR h4 hp) ?_
  intro M hR
  refine zs_if_eq (tgt := 13) (n := 8) dX16_fineAt_5 (by decide) rfl (fun h => absurd h (by decide)) (fun _ => ?_)
  refine zs_bipush (v := 32) (n := 10) dX16_fineAt_8 (by decide) rfl ?_
  refine zs_goto (tgt := 27) dX16_fineAt_10 (by decide) ?_
  refine zs_ireturn dX16_fineAt_27 ⟨_, rfl, rfl⟩ ?_
  exact hQ _ hR
theorem k_fineAt_2 {p : Int32} (hR : zRp Z Λ S M) (h4 : sc S 4 = 1) (hp : ¬ sV S 1001 680 = 0) (hx9 : ¬ (¬ p < 0 ∧ ¬ nI (sc S 1002) ≤ p)) : zG Z l 3 mth_X16_fineAt [.ref (Λ 1001), .int p] M 0 0 (some (.int 32)) ((zRp Z Λ (mT S 2))) := by
  intro Q hQ
  show zX Z l 3 mth_X16_fineAt 0 [(0, .ref (Λ 1001)), (1, .int p)] [] M 0 0 Q
  refine zs_aload_n (n := 1) dX16_fineAt_0 rfl rfl ?_
  refine zs_iload_n (n := 2) dX16_fineAt_1 rfl rfl ?_
  refine zg_V (n := 5) (As := [.int p]) (ci := 21) (mc := 0) (ms := 0) dX16_fineAt_2 ok_X16_noVisit ⟨ml_X16_318, im_X16_noVisit, sl_X16_noVisit⟩ rfl (hR.kd (lvM h4 (by omega))) rfl (Nat.le_of_ble_eq_true rfl) (by simp) (by omega) (Nat.le_refl _) (Nat.le_refl _) rfl rfl (k_noVisit_2 hR h4 hp hx9) ?_
  intro M hR
  refine zs_if_eq (tgt := 13) (n := 8) dX16_fineAt_5 (by decide) rfl (fun h => absurd h (by decide)) (fun _ => ?_)
  refine zs_bipush (v := 32) (n := 10) dX16_fineAt_8 (by decide) rfl ?_
  refine zs_goto (tgt := 27) dX16_fineAt_10 (by decide) ?_
  refine zs_ireturn dX16_fineAt_27 ⟨_, rfl, rfl⟩ ?_
  exact hQ _ hR
theorem k_fineAt {j : Nat} (hR : zRp Z Λ S M) (h4 : sc S 4 = 1) (hp : ¬ sV S 1001 680 = 0) (hj : j < sc S 1002) (hc : narrow .char (.int (sV S (1150 + j) 642)) = .int (sV S (1150 + j) 642)) : zG Z l 3 mth_X16_fineAt [.ref (Λ 1001), .int (nI j)] M 0 0 (some (.int (sV S (1150 + j) 642))) ((zRp Z Λ (mT S 0))) := by
  intro Q hQ
  have hb4 : sc S 1002 ≤ 6 := hR.bnd.2.1.2.2.1
  show zX Z l 3 mth_X16_fineAt 0 [(0, .ref (Λ 1001)), (1, .int (nI j))] [] M 0 0 Q
  refine zs_aload_n (n := 1) dX16_fineAt_0 rfl rfl ?_
  refine zs_iload_n (n := 2) dX16_fineAt_1 rfl rfl ?_
  refine zg_V (n := 5) (As := [.int (nI j)]) (ci := 21) (mc := 0) (ms := 0) dX16_fineAt_2 ok_X16_noVisit ⟨ml_X16_318, im_X16_noVisit, sl_X16_noVisit⟩ rfl (hR.kd (lvM h4 (by omega))) rfl (Nat.le_of_ble_eq_true rfl) (by simp) (by omega) (Nat.le_refl _) (Nat.le_refl _) rfl rfl (k_noVisit_0 hR h4 hp hj) ?_
  intro M hR
  refine zs_if_eq (tgt := 13) (n := 8) dX16_fineAt_5 (by decide) rfl (fun _ => ?_) (fun h => absurd (by decide) h)
  refine zs_aload_n (n := 14) dX16_fineAt_13 rfl rfl ?_
  refine zs_getr (b := (Λ 1019)) (n := 17) dX16_fineAt_14 gf_X16_19 (hR.kd (lvM h4 (by omega))) (hR.pt (lvM h4 (by omega)) rfl (by decide)) rfl ?_
  refine zs_iload_n (n := 18) dX16_fineAt_17 rfl rfl ?_
  refine zc_getb (c := sc S 1002) (b := (Λ (1150 + j))) (n := 21) dX16_fineAt_18 ml_X16_94 (hR.lV' h4) hj rfl (by simp) (by omega) rfl ?_
  refine zs_castS (ci := 20) (n := 24) dX16_fineAt_21 rfl cl_X16_200 (hR.kV' hj) rfl ?_
  refine zs_getv (x := (sV (mT S 0) (1150 + j) 642)) (n := 27) dX16_fineAt_24 gf_X16_247 (hR.kV' hj) (hR.iv (lvV' hj) (by decide) (by decide)) rfl ?_
  refine zs_ireturn dX16_fineAt_27 ⟨_, rfl, hc⟩ ?_
  exact hQ _ hR
theorem k_sumAt_1 {p : Int32} (hR : zRp Z Λ S M) (h4 : sc S 4 = 1) (hp : sV S 1001 680 = 0) : zG Z l 3 mth_X16_sumAt [.ref (Λ 1001), .int p] M 0 0 (some (.int 0)) ((zRp Z Λ (mT S 1))) := by
  intro Q hQ
  show zX Z l 3 mth_X16_sumAt 0 [(0, .ref (Λ 1001)), (1, .int p)] [] M 0 0 Q
  refine zs_aload_n (n := 1) dX16_sumAt_0 rfl rfl ?_
  refine zs_iload_n (n := 2) dX16_sumAt_1 rfl rfl ?_
  refine zg_V (n := 5) (As := [.int p]) (ci := 21) (mc := 0) (ms := 0) dX16_sumAt_2 ok_X16_noVisit ⟨ml_X16_318, im_X16_noVisit, sl_X16_noVisit⟩ rfl (hR.kd (lvM h4 (by omega))) rfl (Nat.le_of_ble_eq_true rfl) (by simp) (by omega) (Nat.le_refl _) (Nat.le_refl _) rfl rfl (k_noVisit_1 hR h4 hp) ?_
  intro M hR
  refine zs_if_eq (tgt := 12) (n := 8) dX16_sumAt_5 (by decide) rfl (fun h => absurd h (by decide)) (fun _ => ?_)
  refine zs_iconst (v := 0) (n := 9) dX16_sumAt_8 (by decide) rfl ?_
  refine zs_goto (tgt := 26) dX16_sumAt_9 (by decide) ?_
  refine zs_ireturn dX16_sumAt_26 ⟨_, rfl, rfl⟩ ?_
  exact hQ _ hR
theorem k_sumAt_2 {p : Int32} (hR : zRp Z Λ S M) (h4 : sc S 4 = 1) (hp : ¬ sV S 1001 680 = 0) (hx9 : ¬ (¬ p < 0 ∧ ¬ nI (sc S 1002) ≤ p)) : zG Z l 3 mth_X16_sumAt [.ref (Λ 1001), .int p] M 0 0 (some (.int 0)) ((zRp Z Λ (mT S 2))) := by
  intro Q hQ
  show zX Z l 3 mth_X16_sumAt 0 [(0, .ref (Λ 1001)), (1, .int p)] [] M 0 0 Q
  refine zs_aload_n (n := 1) dX16_sumAt_0 rfl rfl ?_
  refine zs_iload_n (n := 2) dX16_sumAt_1 rfl rfl ?_
  refine zg_V (n := 5) (As := [.int p]) (ci := 21) (mc := 0) (ms := 0) dX16_sumAt_2 ok_X16_noVisit ⟨ml_X16_318, im_X16_noVisit, sl_X16_noVisit⟩ rfl (hR.kd (lvM h4 (by omega))) rfl (Nat.le_of_ble_eq_true rfl) (by simp) (by omega) (Nat.le_refl _) (Nat.le_refl _) rfl rfl (k_noVisit_2 hR h4 hp hx9) ?_
  intro M hR
  refine zs_if_eq (tgt := 12) (n := 8) dX16_sumAt_5 (by decide) rfl (fun h => absurd h (by decide)) (fun _ => ?_)
  refine zs_iconst (v := 0) (n := 9) dX16_sumAt_8 (by decide) rfl ?_
  refine zs_goto (tgt := 26) dX16_sumAt_9 (by decide) ?_
  refine zs_ireturn dX16_sumAt_26 ⟨_, rfl, rfl⟩ ?_
  exact hQ _ hR
theorem k_sumAt {j : Nat} (hR : zRp Z Λ S M) (h4 : sc S 4 = 1) (hp : ¬ sV S 1001 680 = 0) (hj : j < sc S 1002) : zG Z l 3 mth_X16_sumAt [.ref (Λ 1001), .int (nI j)] M 0 0 (some (.int (sV S (1150 + j) 643))) ((zRp Z Λ (mT S 0))) := by
  intro Q hQ
  have hb4 : sc S 1002 ≤ 6 := hR.bnd.2.1.2.2.1
  show zX Z l 3 mth_X16_sumAt 0 [(0, .ref (Λ 1001)), (1, .int (nI j))] [] M 0 0 Q
  refine zs_aload_n (n := 1) dX16_sumAt_0 rfl rfl ?_
  refine zs_iload_n (n := 2) dX16_sumAt_1 rfl rfl ?_
  refine zg_V (n := 5) (As := [.int (nI j)]) (ci := 21) (mc := 0) (ms := 0) dX16_sumAt_2 ok_X16_noVisit ⟨ml_X16_318, im_X16_noVisit, sl_X16_noVisit⟩ rfl (hR.kd (lvM h4 (by omega))) rfl (Nat.le_of_ble_eq_true rfl) (by simp) (by omega) (Nat.le_refl _) (Nat.le_refl _) rfl rfl (k_noVisit_0 hR h4 hp hj) ?_
  intro M hR
  refine zs_if_eq (tgt := 12) (n := 8) dX16_sumAt_5 (by decide) rfl (fun _ => ?_) (fun h => absurd (by decide) h)
  refine zs_aload_n (n := 13) dX16_sumAt_12 rfl rfl ?_
  refine zs_getr (b := (Λ 1019)) (n := 16) dX16_sumAt_13 gf_X16_19 (hR.kd (lvM h4 (by omega))) (hR.pt (lvM h4 (by omega)) rfl (by decide)) rfl ?_
  refine zs_iload_n (n := 17) dX16_sumAt_16 rfl rfl ?_
  refine zc_getb (c := sc S 1002) (b := (Λ (1150 + j))) (n := 20) dX16_sumAt_17 ml_X16_94 (hR.lV' h4) hj rfl (by simp) (by omega) rfl ?_
  refine zs_castS (ci := 20) (n := 23) dX16_sumAt_20 rfl cl_X16_200 (hR.kV' hj) rfl ?_
  refine zs_getv (x := (sV (mT S 0) (1150 + j) 643)) (n := 26) dX16_sumAt_23 gf_X16_244 (hR.kV' hj) (hR.iv (lvV' hj) (by decide) (by decide)) rfl ?_
  refine zs_ireturn dX16_sumAt_26 ⟨_, rfl, rfl⟩ ?_
  exact hQ _ hR
theorem k_endCustom_1 {p q : Int32} (hR : zRp Z Λ S M) (h4 : sc S 4 = 1) (hx9 : ¬ (¬ p < 0 ∧ ¬ nI (sc S 1001) ≤ p)) : zG Z l 2 mth_X16_endCustom [.ref (Λ 1001), .int p, .int q] M 0 0 (some (.int 0)) ((zRp Z Λ (mT S 1))) := by
  intro Q hQ
  have hb2 : sc S 1001 ≤ 8 := hR.bnd.2.1.2.1
  show zX Z l 2 mth_X16_endCustom 0 [(0, .ref (Λ 1001)), (1, .int p), (2, .int q)] [] M 0 0 Q
  refine zs_aload_n (n := 1) dX16_endCustom_0 rfl rfl ?_
  refine zs_aload_n (n := 2) dX16_endCustom_1 rfl rfl ?_
  refine zs_iload_n (n := 3) dX16_endCustom_2 rfl rfl ?_
  refine zc_V (n := 6) (As := [.int p]) (ci := 21) (mc := 0) (ms := 0) dX16_endCustom_3 ok_X16_isAct ⟨ml_X16_116, im_X16_isAct, sl_X16_isAct⟩ rfl (hR.kd (lvM h4 (by omega))) rfl (Nat.le_of_ble_eq_true rfl) (by simp) (by omega) (Nat.le_refl _) (Nat.le_refl _) rfl rfl (k_isAct hR h4) ?_
  refine zs_if_eq (tgt := 21) (n := 9) dX16_endCustom_6 (by decide) rfl (fun _ => ?_) (fun h => absurd (zb0.mpr (fIn_no (by omega) hx9)) h)
  refine zs_iconst (v := 1) (n := 22) dX16_endCustom_21 (by decide) rfl ?_
  refine zw_i (r := 1001) (n := 25) dX16_endCustom_22 pf_X16_endCustom_43 hR (lvM h4 (by omega)) (hR.kd (lvM h4 (by omega))) ⟨rfl, rfl⟩ (by decide) rfl ?_
  intro M hR hv
  refine zs_aload_n (n := 26) dX16_endCustom_25 rfl rfl ?_
  refine zs_getv (x := (1 : Int32)) (n := 29) dX16_endCustom_26 gf_X16_43 (hR.kd (lvM h4 (by omega))) (hR.iv (lvM h4 (by omega)) (by decide) (by decide)) rfl ?_
  refine zs_if_le (tgt := 34) (n := 32) dX16_endCustom_29 (by decide) rfl (fun h => absurd h (by decide)) (fun _ => ?_)
  refine zs_iconst (v := 0) (n := 33) dX16_endCustom_32 (by decide) rfl ?_
  refine zs_ireturn dX16_endCustom_33 ⟨_, rfl, rfl⟩ ?_
  exact hQ _ hR
theorem k_endCustom_2 {a : Nat} {q : Int32} (hR : zRp Z Λ S M) (h4 : sc S 4 = 1) (ha : a < sc S 1001) (hx9 : ¬ (¬ q < 0 ∧ ¬ nI (sc S 1001) ≤ q)) : zG Z l 2 mth_X16_endCustom [.ref (Λ 1001), .int (nI a), .int q] M 0 0 (some (.int 0)) ((zRp Z Λ (mT S 1))) := by
  intro Q hQ
  have hb2 : sc S 1001 ≤ 8 := hR.bnd.2.1.2.1
  show zX Z l 2 mth_X16_endCustom 0 [(0, .ref (Λ 1001)), (1, .int (nI a)), (2, .int q)] [] M 0 0 Q
  refine zs_aload_n (n := 1) dX16_endCustom_0 rfl rfl ?_
  refine zs_aload_n (n := 2) dX16_endCustom_1 rfl rfl ?_
  refine zs_iload_n (n := 3) dX16_endCustom_2 rfl rfl ?_
  refine zc_V (n := 6) (As := [.int (nI a)]) (ci := 21) (mc := 0) (ms := 0) dX16_endCustom_3 ok_X16_isAct ⟨ml_X16_116, im_X16_isAct, sl_X16_isAct⟩ rfl (hR.kd (lvM h4 (by omega))) rfl (Nat.le_of_ble_eq_true rfl) (by simp) (by omega) (Nat.le_refl _) (Nat.le_refl _) rfl rfl (k_isAct hR h4) ?_
  refine zs_if_eq (tgt := 21) (n := 9) dX16_endCustom_6 (by decide) rfl (fun h => absurd h (zb1.mpr (fIn_ix ha (by omega)))) (fun _ => ?_)
  refine zs_aload_n (n := 10) dX16_endCustom_9 rfl rfl ?_
  refine zs_iload_n (n := 11) dX16_endCustom_10 rfl rfl ?_
  refine zc_V (n := 14) (As := [.int q]) (ci := 21) (mc := 0) (ms := 0) dX16_endCustom_11 ok_X16_isAct ⟨ml_X16_116, im_X16_isAct, sl_X16_isAct⟩ rfl (hR.kd (lvM h4 (by omega))) rfl (Nat.le_of_ble_eq_true rfl) (by simp) (by omega) (Nat.le_refl _) (Nat.le_refl _) rfl rfl (k_isAct hR h4) ?_
  refine zs_if_eq (tgt := 21) (n := 17) dX16_endCustom_14 (by decide) rfl (fun _ => ?_) (fun h => absurd (zb0.mpr (fIn_no (by omega) hx9)) h)
  refine zs_iconst (v := 1) (n := 22) dX16_endCustom_21 (by decide) rfl ?_
  refine zw_i (r := 1001) (n := 25) dX16_endCustom_22 pf_X16_endCustom_43 hR (lvM h4 (by omega)) (hR.kd (lvM h4 (by omega))) ⟨rfl, rfl⟩ (by decide) rfl ?_
  intro M hR hv
  refine zs_aload_n (n := 26) dX16_endCustom_25 rfl rfl ?_
  refine zs_getv (x := (1 : Int32)) (n := 29) dX16_endCustom_26 gf_X16_43 (hR.kd (lvM h4 (by omega))) (hR.iv (lvM h4 (by omega)) (by decide) (by decide)) rfl ?_
  refine zs_if_le (tgt := 34) (n := 32) dX16_endCustom_29 (by decide) rfl (fun h => absurd h (by decide)) (fun _ => ?_)
  refine zs_iconst (v := 0) (n := 33) dX16_endCustom_32 (by decide) rfl ?_
  refine zs_ireturn dX16_endCustom_33 ⟨_, rfl, rfl⟩ ?_
  exact hQ _ hR
theorem k_endCustom {a b : Nat} (hR : zRp Z Λ S M) (h4 : sc S 4 = 1) (ha : a < sc S 1001) (hb : b < sc S 1001) (hw : sW S (1030 + a) b = 0 ∨ sW S (1030 + a) b = 1) : zG Z l 2 mth_X16_endCustom [.ref (Λ 1001), .int (nI a), .int (nI b)] M 0 0 (some (.int (sW S (1030 + a) b))) (zRp Z Λ (sc S, u2 (sV S) 1001 672 0, u2 (sW S) (1030 + a) b 0, sT S, sP S)) := by
  intro Q hQ
  have hb2 : sc S 1001 ≤ 8 := hR.bnd.2.1.2.1
  show zX Z l 2 mth_X16_endCustom 0 [(0, .ref (Λ 1001)), (1, .int (nI a)), (2, .int (nI b))] [] M 0 0 Q
  refine zs_aload_n (n := 1) dX16_endCustom_0 rfl rfl ?_
  refine zs_aload_n (n := 2) dX16_endCustom_1 rfl rfl ?_
  refine zs_iload_n (n := 3) dX16_endCustom_2 rfl rfl ?_
  refine zc_V (n := 6) (As := [.int (nI a)]) (ci := 21) (mc := 0) (ms := 0) dX16_endCustom_3 ok_X16_isAct ⟨ml_X16_116, im_X16_isAct, sl_X16_isAct⟩ rfl (hR.kd (lvM h4 (by omega))) rfl (Nat.le_of_ble_eq_true rfl) (by simp) (by omega) (Nat.le_refl _) (Nat.le_refl _) rfl rfl (k_isAct hR h4) ?_
  refine zs_if_eq (tgt := 21) (n := 9) dX16_endCustom_6 (by decide) rfl (fun h => absurd h (zb1.mpr (fIn_ix ha (by omega)))) (fun _ => ?_)
  refine zs_aload_n (n := 10) dX16_endCustom_9 rfl rfl ?_
  refine zs_iload_n (n := 11) dX16_endCustom_10 rfl rfl ?_
  refine zc_V (n := 14) (As := [.int (nI b)]) (ci := 21) (mc := 0) (ms := 0) dX16_endCustom_11 ok_X16_isAct ⟨ml_X16_116, im_X16_isAct, sl_X16_isAct⟩ rfl (hR.kd (lvM h4 (by omega))) rfl (Nat.le_of_ble_eq_true rfl) (by simp) (by omega) (Nat.le_refl _) (Nat.le_refl _) rfl rfl (k_isAct hR h4) ?_
  refine zs_if_eq (tgt := 21) (n := 17) dX16_endCustom_14 (by decide) rfl (fun h => absurd h (zb1.mpr (fIn_ix hb (by omega)))) (fun _ => ?_)
  refine zs_iconst (v := 0) (n := 18) dX16_endCustom_17 (by decide) rfl ?_
  refine zs_goto (tgt := 22) dX16_endCustom_18 (by decide) ?_
  refine zw_i (r := 1001) (n := 25) dX16_endCustom_22 pf_X16_endCustom_43 hR (lvM h4 (by omega)) (hR.kd (lvM h4 (by omega))) ⟨rfl, rfl⟩ (by decide) rfl ?_
  intro M hR hv
  refine zs_aload_n (n := 26) dX16_endCustom_25 rfl rfl ?_
  refine zs_getv (x := (0 : Int32)) (n := 29) dX16_endCustom_26 gf_X16_43 (hR.kd (lvM h4 (by omega))) (hR.iv (lvM h4 (by omega)) (by decide) (by decide)) rfl ?_
  refine zs_if_le (tgt := 34) (n := 32) dX16_endCustom_29 (by decide) rfl (fun _ => ?_) (fun h => absurd (by decide) h)
  refine zs_aload_n (n := 35) dX16_endCustom_34 rfl rfl ?_
  refine zs_getr (b := (Λ 1025)) (n := 38) dX16_endCustom_35 gf_X16_30 (hR.kd (lvM h4 (by omega))) (hR.pt (lvM h4 (by omega)) rfl (by decide)) rfl ?_
  refine zs_iload_n (n := 39) dX16_endCustom_38 rfl rfl ?_
  refine zs_aald (b := (Λ (1030 + a))) (n := 40) dX16_endCustom_39 (Or.inr (hR.kd (lvM h4 (by omega)))) (by rw [show mN M (Λ 1025) = 8 from (hR.ln (lvM h4 (by omega)) rfl (by decide))]; exact vp_in_nI (show a < 8 from by omega) (by omega)) (by rw [nI_clamp (by omega)]; exact hR.cus h4 (show a < 8 from by omega)) rfl ?_
  refine zs_iload_n (n := 41) dX16_endCustom_40 rfl rfl ?_
  refine zs_zaldv (x := (sW S (1030 + a) b)) (n := 42) dX16_endCustom_41 (hR.kC h4 (show a < 8 from by omega)) (by rw [show mN M (Λ (1030 + a)) = 8 from (hR.nC h4 (show a < 8 from by omega))]; exact vp_in_nI (show b < 8 from by omega) (by omega)) (by rw [nI_clamp (by omega)]; exact hR.av (lvM h4 (by omega))) rfl ?_
  refine zs_istore_n (n := 43) dX16_endCustom_42 (by decide) rfl ?_
  refine zs_aload_n (n := 44) dX16_endCustom_43 rfl rfl ?_
  refine zs_getr (b := (Λ 1025)) (n := 47) dX16_endCustom_44 gf_X16_30 (hR.kd (lvM h4 (by omega))) (hR.pt (lvM h4 (by omega)) rfl (by decide)) rfl ?_
  refine zs_iload_n (n := 48) dX16_endCustom_47 rfl rfl ?_
  refine zs_aald (b := (Λ (1030 + a))) (n := 49) dX16_endCustom_48 (Or.inr (hR.kd (lvM h4 (by omega)))) (by rw [show mN M (Λ 1025) = 8 from (hR.ln (lvM h4 (by omega)) rfl (by decide))]; exact vp_in_nI (show a < 8 from by omega) (by omega)) (by rw [nI_clamp (by omega)]; exact hR.cus h4 (show a < 8 from by omega)) rfl ?_
  refine zs_iload_n (n := 50) dX16_endCustom_49 rfl rfl ?_
  refine zs_iconst (v := 0) (n := 51) dX16_endCustom_50 (by decide) rfl ?_
  refine zs_zast (n := 52) dX16_endCustom_51 (hR.kC h4 (show a < 8 from by omega)) (by rw [show mN M (Λ (1030 + a)) = 8 from (hR.nC h4 (show a < 8 from by omega))]; exact vp_in_nI (show b < 8 from by omega) (by omega)) rfl rfl ?_
  rw [nI_clamp (by omega)]
  have hR := hR.sAI (s := (1030 + a)) (k := b) (v := (0 : Int32)) (lvM h4 (by omega))
  revert hR
  generalize sAI M (Λ (1030 + a)) b (0 : Int32) = M9
  intro hR
  refine zs_iload_n (n := 53) dX16_endCustom_52 rfl rfl ?_
  refine zs_ireturn dX16_endCustom_53 ⟨_, rfl, (by rcases hw with h9 | h9 <;> (show narrow _ (.int (sW S (1030 + a) b)) = .int (sW S (1030 + a) b); rw [h9]; rfl))⟩ ?_
  exact hQ _ hR
end ZMOD
