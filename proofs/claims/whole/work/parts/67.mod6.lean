/-! THE MODEL: customs told, orders by number -/
section ZMOD6
variable {Z : zPar} {l : Launch} {Λ : Nat → Nat} {S : zSt} {M M0 : zMem} {d d' : Nat} {mm : zMeth} {pc n nc ns ix nc1 ns1 : Nat} {L : List (Nat × Value)} {st : List Value} {Q : zO → zMem → Prop}
theorem zi_counts {F : Nat} (hd : decode (zMC mm) pc = .ok (.invokevirtual ix, 3)) (hw : zwd (.methodLink (zMY mm).cls ix yX16_counts)) (hR : zRp Z Λ S M) (h4 : sc S 4 = 1) (hF : F + 1 = 2 ^ sc S 1001) (hst : st.length ≤ 4) (hdd : 2 < d) (hc1 : nc1 + 1 ≤ nc) (hs1 : ns1 + 256 ≤ ns) (hn : pc + 3 = n) (kk : ∀ q M', zRp Z Λ S M' → zTr M' q 3000 (F + 1) (fCn S F F) → zX Z l d mm n L (.ref q :: st) M' nc1 ns1 Q) : zX Z l d mm pc L (.ref (Λ 1001) :: st) M nc ns Q := by
  refine zs_invV (d' := d - 1) (ci := 21) (As := []) (mc := 1) (ms := 256) (Post := fun o M1 => ∃ q, o = .inl (some (.ref q)) ∧ zRp Z Λ S M1 ∧ zTr M1 q 3000 (F + 1) (fCn S F F)) hd ok_X16_counts ⟨hw, im_X16_counts, sl_X16_counts⟩ rfl (hR.kd (lvM h4 (by omega))) rfl (Nat.le_of_ble_eq_true rfl) hst (by omega) hc1 hs1 rfl hn ((k_counts hR h4 hF (fun q M' h1 h2 => ⟨q, rfl, h1, h2⟩)).deep (by omega)) (fun k M1 h => ?_) (fun v1 M1 h => ?_)
  · obtain ⟨q, h1, -⟩ := h
    cases h1
  · obtain ⟨q, h1, h2, h3⟩ := h
    cases h1
    exact kk q M1 h2 h3
theorem zfst_no {p : Nat → Bool} {j : Nat} : ∀ {n : Nat}, j < zfst p n → p j = false
  | n + 1, h => by
    by_cases e : ∃ k, k < n + 1 ∧ p k = true
    · obtain ⟨k, hk, h9⟩ := pk_least (fun k => k < n + 1 ∧ p k = true) e
      have hz : zfst p (n + 1) = k := zfst_hit (fun f hf => by
        cases h8 : p f
        · rfl
        · exact absurd ⟨by omega, h8⟩ (h9 f hf)) hk.2 hk.1
      rw [hz] at h
      cases h8 : p j
      · rfl
      · exact absurd ⟨by omega, h8⟩ (h9 j h)
    · have hz : zfst p (n + 1) = n + 1 := zfst_none (fun f hf => by
        cases h8 : p f
        · rfl
        · exact absurd ⟨f, hf, h8⟩ e)
      rw [hz] at h
      cases h8 : p j
      · rfl
      · exact absurd ⟨j, h, h8⟩ e
theorem zfst_yes {p : Nat → Bool} {n : Nat} (h : zfst p n < n) : p (zfst p n) = true := by
  by_cases e : ∃ k, k < n ∧ p k = true
  · obtain ⟨k, hk, h9⟩ := pk_least (fun k => k < n ∧ p k = true) e
    have hz : zfst p n = k := zfst_hit (fun f hf => by
      cases h8 : p f
      · rfl
      · exact absurd ⟨by omega, h8⟩ (h9 f hf)) hk.2 hk.1
    rw [hz]
    exact hk.2
  · have hz : zfst p n = n := zfst_none (fun f hf => by
      cases h8 : p f
      · rfl
      · exact absurd ⟨f, hf, h8⟩ e)
    omega
theorem zfst_le {p : Nat → Bool} {n : Nat} : zfst p n ≤ n := by
  by_cases e : ∃ k, k < n ∧ p k = true
  · obtain ⟨k, hk, h9⟩ := pk_least (fun k => k < n ∧ p k = true) e
    have hz : zfst p n = k := zfst_hit (fun f hf => by
      cases h8 : p f
      · rfl
      · exact absurd ⟨by omega, h8⟩ (h9 f hf)) hk.2 hk.1
    omega
  · have hz : zfst p n = n := zfst_none (fun f hf => by
      cases h8 : p f
      · rfl
      · exact absurd ⟨f, hf, h8⟩ e)
    omega
theorem zTr.sI {q g N a k : Nat} {row : Nat → Int32} {v : Int32} (h : zTr M q g N row) (_ : a ≠ q) : zTr (sI M a k v) q g N row := h
def oLeft (S : zSt) (row : Nat → Int32) (p : Nat) (x : Int32) (k : Nat) : Int32 := zit (fun a y => y - (if fFrm S a (nI p) (sc S 1001) = true then row (p ||| 2 ^ a) else 0)) k x
def oCnd (S : zSt) (row : Nat → Int32) (p : Nat) (x : Int32) (a : Nat) : Bool := fFrm S a (nI p) (sc S 1001) && decide (oLeft S row p x a < row (p ||| 2 ^ a))
def oSel (S : zSt) (row : Nat → Int32) (p : Nat) (x : Int32) : Nat := zfst (oCnd S row p x) (sc S 1001)
def oOrd (S : zSt) (row : Nat → Int32) (o : Int32) (i : Nat) : fOst := zit (fun _ q => (q.1 ||| 2 ^ oSel S row q.1 q.2.1, oLeft S row q.1 q.2.1 (oSel S row q.1 q.2.1), oSel S row q.1 q.2.1)) i (0, o, 0)
theorem oOrd_lt {row : Nat → Int32} {o : Int32} {F m : Nat} (hF : F + 1 = 2 ^ sc S 1001) (hs : ∀ k, k < m → oSel S row (oOrd S row o k).1 (oOrd S row o k).2.1 < sc S 1001) : ∀ i, i ≤ m → (oOrd S row o i).1 < F + 1
  | 0, _ => Nat.succ_pos _
  | i + 1, h => zor_lt2 hF (hs i (by omega)) (oOrd_lt hF hs i (by omega))
theorem k_addCustom_1 {p q : Int32} (hR : zRp Z Λ S M) (h4 : sc S 4 = 1) (hx9 : ¬ (¬ p < 0 ∧ ¬ nI (sc S 1001) ≤ p)) : zG Z l 10 mth_X16_addCustom [.ref (Λ 1001), .int p, .int q] M 0 0 (some (.int 0)) ((zRp Z Λ (mT S 1))) := by
  intro Q hQ
  have hb2 : sc S 1001 ≤ 8 := hR.bnd.2.1.2.1
  show zX Z l 10 mth_X16_addCustom 0 [(0, .ref (Λ 1001)), (1, .int p), (2, .int q)] [] M 0 0 Q
  refine zs_aload_n (n := 1) dX16_addCustom_0 rfl rfl ?_
  refine zs_aload_n (n := 2) dX16_addCustom_1 rfl rfl ?_
  refine zs_iload_n (n := 3) dX16_addCustom_2 rfl rfl ?_
  refine zc_V (n := 6) (As := [.int p]) (ci := 21) (mc := 0) (ms := 0) dX16_addCustom_3 ok_X16_isAct ⟨ml_X16_116, im_X16_isAct, sl_X16_isAct⟩ rfl (hR.kd (lvM h4 (by omega))) rfl (Nat.le_of_ble_eq_true rfl) (by simp) (by omega) (Nat.le_refl _) (Nat.le_refl _) rfl rfl (k_isAct hR h4) ?_
  refine zs_if_eq (tgt := 17) (n := 9) dX16_addCustom_6 (by decide) rfl (fun _ => ?_) (fun h => absurd (zb0.mpr (fIn_no (by omega) hx9)) h)
  refine zs_iconst (v := 1) (n := 18) dX16_addCustom_17 (by decide) rfl ?_
  refine zs_goto (tgt := 44) dX16_addCustom_18 (by decide) ?_
  refine zw_i (r := 1001) (n := 47) dX16_addCustom_44 pf_X16_addCustom_43 hR (lvM h4 (by omega)) (hR.kd (lvM h4 (by omega))) ⟨rfl, rfl⟩ (by decide) rfl ?_
  intro M hR hv
  refine zs_aload_n (n := 48) dX16_addCustom_47 rfl rfl ?_
  refine zs_getv (x := (1 : Int32)) (n := 51) dX16_addCustom_48 gf_X16_43 (hR.kd (lvM h4 (by omega))) (hR.iv (lvM h4 (by omega)) (by decide) (by decide)) rfl ?_
  refine zs_if_le (tgt := 56) (n := 54) dX16_addCustom_51 (by decide) rfl (fun h => absurd h (by decide)) (fun _ => ?_)
  refine zs_iconst (v := 0) (n := 55) dX16_addCustom_54 (by decide) rfl ?_
  refine zs_ireturn dX16_addCustom_55 ⟨_, rfl, rfl⟩ ?_
  exact hQ _ hR
theorem k_addCustom_2 {a : Nat} {q : Int32} (hR : zRp Z Λ S M) (h4 : sc S 4 = 1) (ha : a < sc S 1001) (hx9 : ¬ (¬ q < 0 ∧ ¬ nI (sc S 1001) ≤ q)) : zG Z l 10 mth_X16_addCustom [.ref (Λ 1001), .int (nI a), .int q] M 0 0 (some (.int 0)) ((zRp Z Λ (mT S 1))) := by
  intro Q hQ
  have hb2 : sc S 1001 ≤ 8 := hR.bnd.2.1.2.1
  show zX Z l 10 mth_X16_addCustom 0 [(0, .ref (Λ 1001)), (1, .int (nI a)), (2, .int q)] [] M 0 0 Q
  refine zs_aload_n (n := 1) dX16_addCustom_0 rfl rfl ?_
  refine zs_aload_n (n := 2) dX16_addCustom_1 rfl rfl ?_
  refine zs_iload_n (n := 3) dX16_addCustom_2 rfl rfl ?_
  refine zc_V (n := 6) (As := [.int (nI a)]) (ci := 21) (mc := 0) (ms := 0) dX16_addCustom_3 ok_X16_isAct ⟨ml_X16_116, im_X16_isAct, sl_X16_isAct⟩ rfl (hR.kd (lvM h4 (by omega))) rfl (Nat.le_of_ble_eq_true rfl) (by simp) (by omega) (Nat.le_refl _) (Nat.le_refl _) rfl rfl (k_isAct hR h4) ?_
  refine zs_if_eq (tgt := 17) (n := 9) dX16_addCustom_6 (by decide) rfl (fun h => absurd h (zb1.mpr (fIn_ix ha (by omega)))) (fun _ => ?_)
  refine zs_aload_n (n := 10) dX16_addCustom_9 rfl rfl ?_
  refine zs_iload_n (n := 11) dX16_addCustom_10 rfl rfl ?_
  refine zc_V (n := 14) (As := [.int q]) (ci := 21) (mc := 0) (ms := 0) dX16_addCustom_11 ok_X16_isAct ⟨ml_X16_116, im_X16_isAct, sl_X16_isAct⟩ rfl (hR.kd (lvM h4 (by omega))) rfl (Nat.le_of_ble_eq_true rfl) (by simp) (by omega) (Nat.le_refl _) (Nat.le_refl _) rfl rfl (k_isAct hR h4) ?_
  refine zs_if_ne (tgt := 21) (n := 17) dX16_addCustom_14 (by decide) rfl (fun h => absurd (zb0.mpr (fIn_no (by omega) hx9)) h) (fun _ => ?_)
  refine zs_iconst (v := 1) (n := 18) dX16_addCustom_17 (by decide) rfl ?_
  refine zs_goto (tgt := 44) dX16_addCustom_18 (by decide) ?_
  refine zw_i (r := 1001) (n := 47) dX16_addCustom_44 pf_X16_addCustom_43 hR (lvM h4 (by omega)) (hR.kd (lvM h4 (by omega))) ⟨rfl, rfl⟩ (by decide) rfl ?_
  intro M hR hv
  refine zs_aload_n (n := 48) dX16_addCustom_47 rfl rfl ?_
  refine zs_getv (x := (1 : Int32)) (n := 51) dX16_addCustom_48 gf_X16_43 (hR.kd (lvM h4 (by omega))) (hR.iv (lvM h4 (by omega)) (by decide) (by decide)) rfl ?_
  refine zs_if_le (tgt := 56) (n := 54) dX16_addCustom_51 (by decide) rfl (fun h => absurd h (by decide)) (fun _ => ?_)
  refine zs_iconst (v := 0) (n := 55) dX16_addCustom_54 (by decide) rfl ?_
  refine zs_ireturn dX16_addCustom_55 ⟨_, rfl, rfl⟩ ?_
  exact hQ _ hR
theorem k_addCustom_3 {a : Nat} (hR : zRp Z Λ S M) (h4 : sc S 4 = 1) (ha : a < sc S 1001) : zG Z l 10 mth_X16_addCustom [.ref (Λ 1001), .int (nI a), .int (nI a)] M 0 0 (some (.int 0)) ((zRp Z Λ (mT S 2))) := by
  intro Q hQ
  have hb2 : sc S 1001 ≤ 8 := hR.bnd.2.1.2.1
  show zX Z l 10 mth_X16_addCustom 0 [(0, .ref (Λ 1001)), (1, .int (nI a)), (2, .int (nI a))] [] M 0 0 Q
  refine zs_aload_n (n := 1) dX16_addCustom_0 rfl rfl ?_
  refine zs_aload_n (n := 2) dX16_addCustom_1 rfl rfl ?_
  refine zs_iload_n (n := 3) dX16_addCustom_2 rfl rfl ?_
  refine zc_V (n := 6) (As := [.int (nI a)]) (ci := 21) (mc := 0) (ms := 0) dX16_addCustom_3 ok_X16_isAct ⟨ml_X16_116, im_X16_isAct, sl_X16_isAct⟩ rfl (hR.kd (lvM h4 (by omega))) rfl (Nat.le_of_ble_eq_true rfl) (by simp) (by omega) (Nat.le_refl _) (Nat.le_refl _) rfl rfl (k_isAct hR h4) ?_
  refine zs_if_eq (tgt := 17) (n := 9) dX16_addCustom_6 (by decide) rfl (fun h => absurd h (zb1.mpr (fIn_ix ha (by omega)))) (fun _ => ?_)
  refine zs_aload_n (n := 10) dX16_addCustom_9 rfl rfl ?_
  refine zs_iload_n (n := 11) dX16_addCustom_10 rfl rfl ?_
  refine zc_V (n := 14) (As := [.int (nI a)]) (ci := 21) (mc := 0) (ms := 0) dX16_addCustom_11 ok_X16_isAct ⟨ml_X16_116, im_X16_isAct, sl_X16_isAct⟩ rfl (hR.kd (lvM h4 (by omega))) rfl (Nat.le_of_ble_eq_true rfl) (by simp) (by omega) (Nat.le_refl _) (Nat.le_refl _) rfl rfl (k_isAct hR h4) ?_
  refine zs_if_ne (tgt := 21) (n := 17) dX16_addCustom_14 (by decide) rfl (fun _ => ?_) (fun h => absurd h (zb1.mpr (fIn_ix ha (by omega))))
  refine zs_iload_n (n := 22) dX16_addCustom_21 rfl rfl ?_
  refine zs_iload_n (n := 23) dX16_addCustom_22 rfl rfl ?_
  refine zs_icmp_ne (tgt := 30) (n := 26) dX16_addCustom_23 (by decide) rfl (fun h => absurd h (fun h9 => h9 rfl)) (fun _ => ?_)
  refine zs_iconst (v := 2) (n := 27) dX16_addCustom_26 (by decide) rfl ?_
  refine zs_goto (tgt := 44) dX16_addCustom_27 (by decide) ?_
  refine zw_i (r := 1001) (n := 47) dX16_addCustom_44 pf_X16_addCustom_43 hR (lvM h4 (by omega)) (hR.kd (lvM h4 (by omega))) ⟨rfl, rfl⟩ (by decide) rfl ?_
  intro M hR hv
  refine zs_aload_n (n := 48) dX16_addCustom_47 rfl rfl ?_
  refine zs_getv (x := (2 : Int32)) (n := 51) dX16_addCustom_48 gf_X16_43 (hR.kd (lvM h4 (by omega))) (hR.iv (lvM h4 (by omega)) (by decide) (by decide)) rfl ?_
  refine zs_if_le (tgt := 56) (n := 54) dX16_addCustom_51 (by decide) rfl (fun h => absurd h (by decide)) (fun _ => ?_)
  refine zs_iconst (v := 0) (n := 55) dX16_addCustom_54 (by decide) rfl ?_
  refine zs_ireturn dX16_addCustom_55 ⟨_, rfl, rfl⟩ ?_
  exact hQ _ hR
theorem k_addCustom_4  {rk : Nat → Nat} {a b : Nat} (hR : zRp Z Λ S M) (h4 : sc S 4 = 1) (ha : a < sc S 1001) (hb : b < sc S 1001) (hrk : ∀ a k, a < sc S 1001 → k < sc S 1001 → ¬ sW S (1030 + a) k = 0 → rk k < rk a) (hbit : ∀ a k, a < sc S 1001 → k < sc S 1001 → sW S (1030 + a) k = 0 ∨ sW S (1030 + a) k = 1) (hr8 : ∀ a, a < sc S 1001 → rk a < 8) (hne : a ≠ b) (hx9 : fCA S 8 b a = true) : zG Z l 10 mth_X16_addCustom [.ref (Λ 1001), .int (nI a), .int (nI b)] M 0 0 (some (.int 0)) ((zRp Z Λ (mT S 3))) := by
  intro Q hQ
  have hb2 : sc S 1001 ≤ 8 := hR.bnd.2.1.2.1
  show zX Z l 10 mth_X16_addCustom 0 [(0, .ref (Λ 1001)), (1, .int (nI a)), (2, .int (nI b))] [] M 0 0 Q
  refine zs_aload_n (n := 1) dX16_addCustom_0 rfl rfl ?_
  refine zs_aload_n (n := 2) dX16_addCustom_1 rfl rfl ?_
  refine zs_iload_n (n := 3) dX16_addCustom_2 rfl rfl ?_
  refine zc_V (n := 6) (As := [.int (nI a)]) (ci := 21) (mc := 0) (ms := 0) dX16_addCustom_3 ok_X16_isAct ⟨ml_X16_116, im_X16_isAct, sl_X16_isAct⟩ rfl (hR.kd (lvM h4 (by omega))) rfl (Nat.le_of_ble_eq_true rfl) (by simp) (by omega) (Nat.le_refl _) (Nat.le_refl _) rfl rfl (k_isAct hR h4) ?_
  refine zs_if_eq (tgt := 17) (n := 9) dX16_addCustom_6 (by decide) rfl (fun h => absurd h (zb1.mpr (fIn_ix ha (by omega)))) (fun _ => ?_)
  refine zs_aload_n (n := 10) dX16_addCustom_9 rfl rfl ?_
  refine zs_iload_n (n := 11) dX16_addCustom_10 rfl rfl ?_
  refine zc_V (n := 14) (As := [.int (nI b)]) (ci := 21) (mc := 0) (ms := 0) dX16_addCustom_11 ok_X16_isAct ⟨ml_X16_116, im_X16_isAct, sl_X16_isAct⟩ rfl (hR.kd (lvM h4 (by omega))) rfl (Nat.le_of_ble_eq_true rfl) (by simp) (by omega) (Nat.le_refl _) (Nat.le_refl _) rfl rfl (k_isAct hR h4) ?_
  refine zs_if_ne (tgt := 21) (n := 17) dX16_addCustom_14 (by decide) rfl (fun _ => ?_) (fun h => absurd h (zb1.mpr (fIn_ix hb (by omega))))
  refine zs_iload_n (n := 22) dX16_addCustom_21 rfl rfl ?_
  refine zs_iload_n (n := 23) dX16_addCustom_22 rfl rfl ?_
  refine zs_icmp_ne (tgt := 30) (n := 26) dX16_addCustom_23 (by decide) rfl (fun _ => ?_) (fun h => absurd h (fun h9 => hne ((nI_eq (by omega) (by omega)).mp h9)))
  refine zs_aload_n (n := 31) dX16_addCustom_30 rfl rfl ?_
  refine zs_iload_n (n := 32) dX16_addCustom_31 rfl rfl ?_
  refine zs_iload_n (n := 33) dX16_addCustom_32 rfl rfl ?_
  refine zc_V (n := 36) (As := [.int (nI b), .int (nI a)]) (ci := 21) (mc := 0) (ms := 0) (d' := 9) dX16_addCustom_33 ok_X16_comesAhead ⟨ml_X16_129, im_X16_comesAhead, sl_X16_comesAhead⟩ rfl (hR.kd (lvM h4 (by omega))) rfl (Nat.le_of_ble_eq_true rfl) (by simp) (by omega) (Nat.le_refl _) (Nat.le_refl _) rfl rfl (k_comesAhead hR h4 hrk hbit ha 8 b (hr8 b hb) hb) ?_
  refine zs_if_eq (tgt := 43) (n := 39) dX16_addCustom_36 (by decide) rfl (fun h => absurd h (zb1.mpr hx9)) (fun _ => ?_)
  refine zs_iconst (v := 3) (n := 40) dX16_addCustom_39 (by decide) rfl ?_
  refine zs_goto (tgt := 44) dX16_addCustom_40 (by decide) ?_
  refine zw_i (r := 1001) (n := 47) dX16_addCustom_44 pf_X16_addCustom_43 hR (lvM h4 (by omega)) (hR.kd (lvM h4 (by omega))) ⟨rfl, rfl⟩ (by decide) rfl ?_
  intro M hR hv
  refine zs_aload_n (n := 48) dX16_addCustom_47 rfl rfl ?_
  refine zs_getv (x := (3 : Int32)) (n := 51) dX16_addCustom_48 gf_X16_43 (hR.kd (lvM h4 (by omega))) (hR.iv (lvM h4 (by omega)) (by decide) (by decide)) rfl ?_
  refine zs_if_le (tgt := 56) (n := 54) dX16_addCustom_51 (by decide) rfl (fun h => absurd h (by decide)) (fun _ => ?_)
  refine zs_iconst (v := 0) (n := 55) dX16_addCustom_54 (by decide) rfl ?_
  refine zs_ireturn dX16_addCustom_55 ⟨_, rfl, rfl⟩ ?_
  exact hQ _ hR
theorem k_addCustom  {rk : Nat → Nat} {a b : Nat} (hR : zRp Z Λ S M) (h4 : sc S 4 = 1) (ha : a < sc S 1001) (hb : b < sc S 1001) (hrk : ∀ a k, a < sc S 1001 → k < sc S 1001 → ¬ sW S (1030 + a) k = 0 → rk k < rk a) (hbit : ∀ a k, a < sc S 1001 → k < sc S 1001 → sW S (1030 + a) k = 0 ∨ sW S (1030 + a) k = 1) (hr8 : ∀ a, a < sc S 1001 → rk a < 8) (hne : a ≠ b) (hx9 : fCA S 8 b a = false) : zG Z l 10 mth_X16_addCustom [.ref (Λ 1001), .int (nI a), .int (nI b)] M 0 0 (some (.int (zb (decide (sW S (1030 + a) b = 0))))) (zRp Z Λ (sc S, u2 (sV S) 1001 672 0, u2 (sW S) (1030 + a) b 1, sT S, sP S)) := by
  intro Q hQ
  have hb2 : sc S 1001 ≤ 8 := hR.bnd.2.1.2.1
  show zX Z l 10 mth_X16_addCustom 0 [(0, .ref (Λ 1001)), (1, .int (nI a)), (2, .int (nI b))] [] M 0 0 Q
  refine zs_aload_n (n := 1) dX16_addCustom_0 rfl rfl ?_
  refine zs_aload_n (n := 2) dX16_addCustom_1 rfl rfl ?_
  refine zs_iload_n (n := 3) dX16_addCustom_2 rfl rfl ?_
  refine zc_V (n := 6) (As := [.int (nI a)]) (ci := 21) (mc := 0) (ms := 0) dX16_addCustom_3 ok_X16_isAct ⟨ml_X16_116, im_X16_isAct, sl_X16_isAct⟩ rfl (hR.kd (lvM h4 (by omega))) rfl (Nat.le_of_ble_eq_true rfl) (by simp) (by omega) (Nat.le_refl _) (Nat.le_refl _) rfl rfl (k_isAct hR h4) ?_
  refine zs_if_eq (tgt := 17) (n := 9) dX16_addCustom_6 (by decide) rfl (fun h => absurd h (zb1.mpr (fIn_ix ha (by omega)))) (fun _ => ?_)
  refine zs_aload_n (n := 10) dX16_addCustom_9 rfl rfl ?_
  refine zs_iload_n (n := 11) dX16_addCustom_10 rfl rfl ?_
  refine zc_V (n := 14) (As := [.int (nI b)]) (ci := 21) (mc := 0) (ms := 0) dX16_addCustom_11 ok_X16_isAct ⟨ml_X16_116, im_X16_isAct, sl_X16_isAct⟩ rfl (hR.kd (lvM h4 (by omega))) rfl (Nat.le_of_ble_eq_true rfl) (by simp) (by omega) (Nat.le_refl _) (Nat.le_refl _) rfl rfl (k_isAct hR h4) ?_
  refine zs_if_ne (tgt := 21) (n := 17) dX16_addCustom_14 (by decide) rfl (fun _ => ?_) (fun h => absurd h (zb1.mpr (fIn_ix hb (by omega))))
  refine zs_iload_n (n := 22) dX16_addCustom_21 rfl rfl ?_
  refine zs_iload_n (n := 23) dX16_addCustom_22 rfl rfl ?_
  refine zs_icmp_ne (tgt := 30) (n := 26) dX16_addCustom_23 (by decide) rfl (fun _ => ?_) (fun h => absurd h (fun h9 => hne ((nI_eq (by omega) (by omega)).mp h9)))
  refine zs_aload_n (n := 31) dX16_addCustom_30 rfl rfl ?_
  refine zs_iload_n (n := 32) dX16_addCustom_31 rfl rfl ?_
  refine zs_iload_n (n := 33) dX16_addCustom_32 rfl rfl ?_
  refine zc_V (n := 36) (As := [.int (nI b), .int (nI a)]) (ci := 21) (mc := 0) (ms := 0) (d' := 9) dX16_addCustom_33 ok_X16_comesAhead ⟨ml_X16_129, im_X16_comesAhead, sl_X16_comesAhead⟩ rfl (hR.kd (lvM h4 (by omega))) rfl (Nat.le_of_ble_eq_true rfl) (by simp) (by omega) (Nat.le_refl _) (Nat.le_refl _) rfl rfl (k_comesAhead hR h4 hrk hbit ha 8 b (hr8 b hb) hb) ?_
  refine zs_if_eq (tgt := 43) (n := 39) dX16_addCustom_36 (by decide) rfl (fun _ => ?_) (fun h => absurd (zb0.mpr hx9) h)
  refine zs_iconst (v := 0) (n := 44) dX16_addCustom_43 (by decide) rfl ?_
  refine zw_i (r := 1001) (n := 47) dX16_addCustom_44 pf_X16_addCustom_43 hR (lvM h4 (by omega)) (hR.kd (lvM h4 (by omega))) ⟨rfl, rfl⟩ (by decide) rfl ?_
  intro M hR hv
  refine zs_aload_n (n := 48) dX16_addCustom_47 rfl rfl ?_
  refine zs_getv (x := (0 : Int32)) (n := 51) dX16_addCustom_48 gf_X16_43 (hR.kd (lvM h4 (by omega))) (hR.iv (lvM h4 (by omega)) (by decide) (by decide)) rfl ?_
  refine zs_if_le (tgt := 56) (n := 54) dX16_addCustom_51 (by decide) rfl (fun _ => ?_) (fun h => absurd (by decide) h)
  refine zs_aload_n (n := 57) dX16_addCustom_56 rfl rfl ?_
  refine zs_getr (b := (Λ 1025)) (n := 60) dX16_addCustom_57 gf_X16_30 (hR.kd (lvM h4 (by omega))) (hR.pt (lvM h4 (by omega)) rfl (by decide)) rfl ?_
  refine zs_iload_n (n := 61) dX16_addCustom_60 rfl rfl ?_
  refine zs_aald (b := (Λ (1030 + a))) (n := 62) dX16_addCustom_61 (Or.inr (hR.kd (lvM h4 (by omega)))) (by rw [show mN M (Λ 1025) = 8 from (hR.ln (lvM h4 (by omega)) rfl (by decide))]; exact vp_in_nI (show a < 8 from by omega) (by omega)) (by rw [nI_clamp (by omega)]; exact hR.cus h4 (show a < 8 from by omega)) rfl ?_
  refine zs_iload_n (n := 63) dX16_addCustom_62 rfl rfl ?_
  refine zs_zaldv (x := (sW S (1030 + a) b)) (n := 64) dX16_addCustom_63 (hR.kC h4 (show a < 8 from by omega)) (by rw [show mN M (Λ (1030 + a)) = 8 from (hR.nC h4 (show a < 8 from by omega))]; exact vp_in_nI (show b < 8 from by omega) (by omega)) (by rw [nI_clamp (by omega)]; exact hR.av (lvM h4 (by omega))) rfl ?_
  refine zs_if_ne (tgt := 71) (n := 67) dX16_addCustom_64 (by decide) rfl (fun h64 => ?_) (fun h64 => ?_)
  · refine zs_iconst (v := 0) (n := 72) dX16_addCustom_71 (by decide) rfl ?_
    refine zs_istore_n (n := 73) dX16_addCustom_72 (by decide) rfl ?_
    refine zs_aload_n (n := 74) dX16_addCustom_73 rfl rfl ?_
    refine zs_getr (b := (Λ 1025)) (n := 77) dX16_addCustom_74 gf_X16_30 (hR.kd (lvM h4 (by omega))) (hR.pt (lvM h4 (by omega)) rfl (by decide)) rfl ?_
    refine zs_iload_n (n := 78) dX16_addCustom_77 rfl rfl ?_
    refine zs_aald (b := (Λ (1030 + a))) (n := 79) dX16_addCustom_78 (Or.inr (hR.kd (lvM h4 (by omega)))) (by rw [show mN M (Λ 1025) = 8 from (hR.ln (lvM h4 (by omega)) rfl (by decide))]; exact vp_in_nI (show a < 8 from by omega) (by omega)) (by rw [nI_clamp (by omega)]; exact hR.cus h4 (show a < 8 from by omega)) rfl ?_
    refine zs_iload_n (n := 80) dX16_addCustom_79 rfl rfl ?_
    refine zs_iconst (v := 1) (n := 81) dX16_addCustom_80 (by decide) rfl ?_
    refine zs_zast (n := 82) dX16_addCustom_81 (hR.kC h4 (show a < 8 from by omega)) (by rw [show mN M (Λ (1030 + a)) = 8 from (hR.nC h4 (show a < 8 from by omega))]; exact vp_in_nI (show b < 8 from by omega) (by omega)) rfl rfl ?_
    rw [nI_clamp (by omega)]
    have hR := hR.sAI (s := (1030 + a)) (k := b) (v := (1 : Int32)) (lvM h4 (by omega))
    revert hR
    generalize sAI M (Λ (1030 + a)) b (1 : Int32) = M9
    intro hR
    refine zs_iload_n (n := 83) dX16_addCustom_82 rfl rfl ?_
    refine zs_ireturn dX16_addCustom_83 ⟨_, rfl, rfl⟩ ?_
    first
    | (rw [decide_eq_true h64] at hQ; exact hQ _ hR)
    | (rw [decide_eq_false h64] at hQ; exact hQ _ hR)
  · refine zs_iconst (v := 1) (n := 68) dX16_addCustom_67 (by decide) rfl ?_
    refine zs_goto (tgt := 72) dX16_addCustom_68 (by decide) ?_
    refine zs_istore_n (n := 73) dX16_addCustom_72 (by decide) rfl ?_
    refine zs_aload_n (n := 74) dX16_addCustom_73 rfl rfl ?_
    refine zs_getr (b := (Λ 1025)) (n := 77) dX16_addCustom_74 gf_X16_30 (hR.kd (lvM h4 (by omega))) (hR.pt (lvM h4 (by omega)) rfl (by decide)) rfl ?_
    refine zs_iload_n (n := 78) dX16_addCustom_77 rfl rfl ?_
    refine zs_aald (b := (Λ (1030 + a))) (n := 79) dX16_addCustom_78 (Or.inr (hR.kd (lvM h4 (by omega)))) (by rw [show mN M (Λ 1025) = 8 from (hR.ln (lvM h4 (by omega)) rfl (by decide))]; exact vp_in_nI (show a < 8 from by omega) (by omega)) (by rw [nI_clamp (by omega)]; exact hR.cus h4 (show a < 8 from by omega)) rfl ?_
    refine zs_iload_n (n := 80) dX16_addCustom_79 rfl rfl ?_
    refine zs_iconst (v := 1) (n := 81) dX16_addCustom_80 (by decide) rfl ?_
    refine zs_zast (n := 82) dX16_addCustom_81 (hR.kC h4 (show a < 8 from by omega)) (by rw [show mN M (Λ (1030 + a)) = 8 from (hR.nC h4 (show a < 8 from by omega))]; exact vp_in_nI (show b < 8 from by omega) (by omega)) rfl rfl ?_
    rw [nI_clamp (by omega)]
    have hR := hR.sAI (s := (1030 + a)) (k := b) (v := (1 : Int32)) (lvM h4 (by omega))
    revert hR
    generalize sAI M (Λ (1030 + a)) b (1 : Int32) = M9
    intro hR
    refine zs_iload_n (n := 83) dX16_addCustom_82 rfl rfl ?_
    refine zs_ireturn dX16_addCustom_83 ⟨_, rfl, rfl⟩ ?_
    first
    | (rw [decide_eq_true h64] at hQ; exact hQ _ hR)
    | (rw [decide_eq_false h64] at hQ; exact hQ _ hR)
theorem k_orders {F : Nat} (hR : zRp Z Λ S M) (h4 : sc S 4 = 1) (hF : F + 1 = 2 ^ sc S 1001) : zG Z l 3 mth_X16_orders [.ref (Λ 1001)] M 1 256 (some (.int (fCn S F F 0))) ((zRp Z Λ (mT S 0))) := by
  intro Q hQ
  have hb2 : sc S 1001 ≤ 8 := hR.bnd.2.1.2.1
  have hp8 : 2 ^ sc S 1001 ≤ 2 ^ 8 := Nat.pow_le_pow_right (by decide) hb2
  have hF2 : F < 256 := by omega
  show zX Z l 3 mth_X16_orders 0 [(0, .ref (Λ 1001))] [] M 1 256 Q
  refine zs_aload_n (n := 1) dX16_orders_0 rfl rfl ?_
  refine zs_iconst (v := 0) (n := 2) dX16_orders_1 (by decide) rfl ?_
  refine zw_i (r := 1001) (n := 5) dX16_orders_2 pf_X16_orders_43 hR (lvM h4 (by omega)) (hR.kd (lvM h4 (by omega))) ⟨rfl, rfl⟩ (by decide) rfl ?_
  intro M hR hv
  refine zs_aload_n (n := 6) dX16_orders_5 rfl rfl ?_
  refine zi_counts (F := F) (nc1 := 0) (ns1 := 0) (n := 9) dX16_orders_6 ml_X16_136 hR h4 hF (by simp) (by omega) (by omega) (by omega) rfl (fun q9 M hR hT => ?_)
  refine zs_iconst (v := nI 0) (n := 10) dX16_orders_9 (by decide) rfl ?_
  refine zt_iald (n := 11) dX16_orders_10 hT (show 0 < F + 1 from by omega) (by omega) rfl ?_
  refine zs_ireturn dX16_orders_11 ⟨_, rfl, rfl⟩ ?_
  exact hQ _ hR
theorem k_orderAt_1 {F : Nat} {p q : Int32} (hR : zRp Z Λ S M) (h4 : sc S 4 = 1) (hF : F + 1 = 2 ^ sc S 1001) (hx9 : fIn p 0 (fCn S F F 0 - 1) = false) : zG Z l 3 mth_X16_orderAt [.ref (Λ 1001), .int p, .int q] M 1 256 (some (.int 0)) ((zRp Z Λ (mT S 1))) := by
  intro Q hQ
  have hb2 : sc S 1001 ≤ 8 := hR.bnd.2.1.2.1
  have hp8 : 2 ^ sc S 1001 ≤ 2 ^ 8 := Nat.pow_le_pow_right (by decide) hb2
  have hF2 : F < 256 := by omega
  show zX Z l 3 mth_X16_orderAt 0 [(0, .ref (Λ 1001)), (1, .int p), (2, .int q)] [] M 1 256 Q
  refine zs_aload_n (n := 1) dX16_orderAt_0 rfl rfl ?_
  refine zi_counts (F := F) (nc1 := 0) (ns1 := 0) (n := 4) dX16_orderAt_1 ml_X16_136 hR h4 hF (by simp) (by omega) (by omega) (by omega) rfl (fun q9 M hR hT => ?_)
  refine zs_astore_n (n := 5) dX16_orderAt_4 (by decide) rfl ?_
  refine zs_aload_n (n := 6) dX16_orderAt_5 rfl rfl ?_
  refine zs_iload_n (n := 7) dX16_orderAt_6 rfl rfl ?_
  refine zs_i2l (n := 8) dX16_orderAt_7 rfl ?_
  refine zs_lconst (v := 0) (n := 9) dX16_orderAt_8 (by decide) rfl ?_
  refine zs_aload_n (n := 10) dX16_orderAt_9 rfl rfl ?_
  refine zs_iconst (v := nI 0) (n := 11) dX16_orderAt_10 (by decide) rfl ?_
  refine zt_iald (n := 12) dX16_orderAt_11 hT (show 0 < F + 1 from by omega) (by omega) rfl ?_
  refine zs_iconst (v := 1) (n := 13) dX16_orderAt_12 (by decide) rfl ?_
  refine zs_isub (n := 14) dX16_orderAt_13 rfl ?_
  refine zs_i2l (n := 15) dX16_orderAt_14 rfl ?_
  refine zc_S (n := 18) (As := [.long p.toInt64, .long (0 : Int64), .long (((fCn S F F) 0) - (1 : Int32)).toInt64]) (mc := 0) (ms := 0) dX16_orderAt_15 ok_X16_in ⟨ml_X16_50, st_X16_in⟩ rfl (Nat.le_of_ble_eq_true rfl) (by simp) (by omega) (Nat.le_refl _) (Nat.le_refl _) rfl rfl (m_in (x := p) (lo := (0 : Int32)) (hi := (((fCn S F F) 0) - (1 : Int32))) rfl (by first | rfl | decide) (by first | rfl | decide)) ?_
  refine zs_if_eq (tgt := 44) (n := 21) dX16_orderAt_18 (by decide) rfl (fun _ => ?_) (fun h => absurd (zb0.mpr hx9) h)
  refine zs_iconst (v := 1) (n := 45) dX16_orderAt_44 (by decide) rfl ?_
  refine zs_puti (n := 48) dX16_orderAt_45 pf_X16_orderAt_43 (hR.kd (lvM h4 (by omega))) ⟨rfl, rfl⟩ rfl ?_
  have hT := hT.sI (k := 672) (v := (1 : Int32)) (hR.nt (r := 1001) hT.1 (lvM h4 (by omega)))
  have hR := hR.sI (s := 1001) (k := 672) (v := (1 : Int32)) (lvM h4 (by omega)) (by decide) (by decide) (by decide)
  revert hR hT
  generalize sI M (Λ 1001) 672 (1 : Int32) = M
  intro hT hR
  refine zs_iconst (v := 0) (n := 49) dX16_orderAt_48 (by decide) rfl ?_
  refine zs_istore (n := 51) dX16_orderAt_49 (by decide) rfl ?_
  refine zs_iload_n (n := 52) dX16_orderAt_51 rfl rfl ?_
  refine zs_istore (n := 54) dX16_orderAt_52 (by decide) rfl ?_
  refine zs_iconst (v := 0) (n := 55) dX16_orderAt_54 (by decide) rfl ?_
  refine zs_istore (n := 57) dX16_orderAt_55 (by decide) rfl ?_
  refine zs_iconst (v := 0) (n := 58) dX16_orderAt_57 (by decide) rfl ?_
  refine zs_istore (n := 60) dX16_orderAt_58 (by decide) rfl ?_
  refine zs_iload (n := 62) dX16_orderAt_60 rfl rfl ?_
  refine zs_iload_n (n := 63) dX16_orderAt_62 rfl rfl ?_
  refine zs_icmp_gt (tgt := 155) (n := 66) dX16_orderAt_63 (by decide) rfl (fun h63 => ?_) (fun h63 => ?_)
  · refine zs_iload (n := 157) dX16_orderAt_155 rfl rfl ?_
    refine zs_ireturn dX16_orderAt_157 ⟨_, rfl, rfl⟩ ?_
    exact hQ _ hR
  · refine zs_aload_n (n := 67) dX16_orderAt_66 rfl rfl ?_
    refine zs_getv (x := (1 : Int32)) (n := 70) dX16_orderAt_67 gf_X16_43 (hR.kd (lvM h4 (by omega))) (hR.iv (lvM h4 (by omega)) (by decide) (by decide)) rfl ?_
    refine zs_if_ne (tgt := 155) (n := 73) dX16_orderAt_70 (by decide) rfl (fun _ => ?_) (fun h => absurd h (by decide))
    refine zs_iload (n := 157) dX16_orderAt_155 rfl rfl ?_
    refine zs_ireturn dX16_orderAt_157 ⟨_, rfl, rfl⟩ ?_
    exact hQ _ hR
theorem k_orderAt_2 {F : Nat} {p q : Int32} (hR : zRp Z Λ S M) (h4 : sc S 4 = 1) (hF : F + 1 = 2 ^ sc S 1001) (hx8 : fIn p 0 (fCn S F F 0 - 1) = true) (hx9 : ¬ (¬ q < 0 ∧ ¬ nI (sc S 1001) ≤ q)) : zG Z l 3 mth_X16_orderAt [.ref (Λ 1001), .int p, .int q] M 1 256 (some (.int 0)) ((zRp Z Λ (mT S 1))) := by
  intro Q hQ
  have hb2 : sc S 1001 ≤ 8 := hR.bnd.2.1.2.1
  have hp8 : 2 ^ sc S 1001 ≤ 2 ^ 8 := Nat.pow_le_pow_right (by decide) hb2
  have hF2 : F < 256 := by omega
  show zX Z l 3 mth_X16_orderAt 0 [(0, .ref (Λ 1001)), (1, .int p), (2, .int q)] [] M 1 256 Q
  refine zs_aload_n (n := 1) dX16_orderAt_0 rfl rfl ?_
  refine zi_counts (F := F) (nc1 := 0) (ns1 := 0) (n := 4) dX16_orderAt_1 ml_X16_136 hR h4 hF (by simp) (by omega) (by omega) (by omega) rfl (fun q9 M hR hT => ?_)
  refine zs_astore_n (n := 5) dX16_orderAt_4 (by decide) rfl ?_
  refine zs_aload_n (n := 6) dX16_orderAt_5 rfl rfl ?_
  refine zs_iload_n (n := 7) dX16_orderAt_6 rfl rfl ?_
  refine zs_i2l (n := 8) dX16_orderAt_7 rfl ?_
  refine zs_lconst (v := 0) (n := 9) dX16_orderAt_8 (by decide) rfl ?_
  refine zs_aload_n (n := 10) dX16_orderAt_9 rfl rfl ?_
  refine zs_iconst (v := nI 0) (n := 11) dX16_orderAt_10 (by decide) rfl ?_
  refine zt_iald (n := 12) dX16_orderAt_11 hT (show 0 < F + 1 from by omega) (by omega) rfl ?_
  refine zs_iconst (v := 1) (n := 13) dX16_orderAt_12 (by decide) rfl ?_
  refine zs_isub (n := 14) dX16_orderAt_13 rfl ?_
  refine zs_i2l (n := 15) dX16_orderAt_14 rfl ?_
  refine zc_S (n := 18) (As := [.long p.toInt64, .long (0 : Int64), .long (((fCn S F F) 0) - (1 : Int32)).toInt64]) (mc := 0) (ms := 0) dX16_orderAt_15 ok_X16_in ⟨ml_X16_50, st_X16_in⟩ rfl (Nat.le_of_ble_eq_true rfl) (by simp) (by omega) (Nat.le_refl _) (Nat.le_refl _) rfl rfl (m_in (x := p) (lo := (0 : Int32)) (hi := (((fCn S F F) 0) - (1 : Int32))) rfl (by first | rfl | decide) (by first | rfl | decide)) ?_
  refine zs_if_eq (tgt := 44) (n := 21) dX16_orderAt_18 (by decide) rfl (fun h => absurd h (zb1.mpr hx8)) (fun _ => ?_)
  refine zs_iload_n (n := 22) dX16_orderAt_21 rfl rfl ?_
  refine zs_i2l (n := 23) dX16_orderAt_22 rfl ?_
  refine zs_lconst (v := 0) (n := 24) dX16_orderAt_23 (by decide) rfl ?_
  refine zs_aload_n (n := 25) dX16_orderAt_24 rfl rfl ?_
  refine zs_getr (b := (Λ 1017)) (n := 28) dX16_orderAt_25 gf_X16_16 (hR.kd (lvM h4 (by omega))) (hR.pt (lvM h4 (by omega)) rfl (by decide)) rfl ?_
  refine zc_size (c := sc S 1001) (n := 31) dX16_orderAt_28 ml_X16_46 (hR.lA' h4) (by simp) (by omega) rfl ?_
  refine zs_iconst (v := 1) (n := 32) dX16_orderAt_31 (by decide) rfl ?_
  refine zs_isub (n := 33) dX16_orderAt_32 rfl ?_
  refine zs_i2l (n := 34) dX16_orderAt_33 rfl ?_
  refine zc_S (n := 37) (As := [.long q.toInt64, .long (0 : Int64), .long ((nI (sc S 1001)) - (1 : Int32)).toInt64]) (mc := 0) (ms := 0) dX16_orderAt_34 ok_X16_in ⟨ml_X16_50, st_X16_in⟩ rfl (Nat.le_of_ble_eq_true rfl) (by simp) (by omega) (Nat.le_refl _) (Nat.le_refl _) rfl rfl (m_in (x := q) (lo := (0 : Int32)) (hi := ((nI (sc S 1001)) - (1 : Int32))) rfl (by first | rfl | decide) (by first | rfl | decide)) ?_
  refine zs_if_eq (tgt := 44) (n := 40) dX16_orderAt_37 (by decide) rfl (fun _ => ?_) (fun h => absurd (zb0.mpr (fIn_no (by omega) hx9)) h)
  refine zs_iconst (v := 1) (n := 45) dX16_orderAt_44 (by decide) rfl ?_
  refine zs_puti (n := 48) dX16_orderAt_45 pf_X16_orderAt_43 (hR.kd (lvM h4 (by omega))) ⟨rfl, rfl⟩ rfl ?_
  have hT := hT.sI (k := 672) (v := (1 : Int32)) (hR.nt (r := 1001) hT.1 (lvM h4 (by omega)))
  have hR := hR.sI (s := 1001) (k := 672) (v := (1 : Int32)) (lvM h4 (by omega)) (by decide) (by decide) (by decide)
  revert hR hT
  generalize sI M (Λ 1001) 672 (1 : Int32) = M
  intro hT hR
  refine zs_iconst (v := 0) (n := 49) dX16_orderAt_48 (by decide) rfl ?_
  refine zs_istore (n := 51) dX16_orderAt_49 (by decide) rfl ?_
  refine zs_iload_n (n := 52) dX16_orderAt_51 rfl rfl ?_
  refine zs_istore (n := 54) dX16_orderAt_52 (by decide) rfl ?_
  refine zs_iconst (v := 0) (n := 55) dX16_orderAt_54 (by decide) rfl ?_
  refine zs_istore (n := 57) dX16_orderAt_55 (by decide) rfl ?_
  refine zs_iconst (v := 0) (n := 58) dX16_orderAt_57 (by decide) rfl ?_
  refine zs_istore (n := 60) dX16_orderAt_58 (by decide) rfl ?_
  refine zs_iload (n := 62) dX16_orderAt_60 rfl rfl ?_
  refine zs_iload_n (n := 63) dX16_orderAt_62 rfl rfl ?_
  refine zs_icmp_gt (tgt := 155) (n := 66) dX16_orderAt_63 (by decide) rfl (fun h63 => ?_) (fun h63 => ?_)
  · refine zs_iload (n := 157) dX16_orderAt_155 rfl rfl ?_
    refine zs_ireturn dX16_orderAt_157 ⟨_, rfl, rfl⟩ ?_
    exact hQ _ hR
  · refine zs_aload_n (n := 67) dX16_orderAt_66 rfl rfl ?_
    refine zs_getv (x := (1 : Int32)) (n := 70) dX16_orderAt_67 gf_X16_43 (hR.kd (lvM h4 (by omega))) (hR.iv (lvM h4 (by omega)) (by decide) (by decide)) rfl ?_
    refine zs_if_ne (tgt := 155) (n := 73) dX16_orderAt_70 (by decide) rfl (fun _ => ?_) (fun h => absurd h (by decide))
    refine zs_iload (n := 157) dX16_orderAt_155 rfl rfl ?_
    refine zs_ireturn dX16_orderAt_157 ⟨_, rfl, rfl⟩ ?_
    exact hQ _ hR
theorem k_orderAt {F pl : Nat} {p : Int32} (hR : zRp Z Λ S M) (h4 : sc S 4 = 1) (hF : F + 1 = 2 ^ sc S 1001) (hx8 : fIn p 0 (fCn S F F 0 - 1) = true) (hpl : pl < sc S 1001) (hsel : ∀ k, k < pl + 1 → (oSel S (fCn S F F) (oOrd S (fCn S F F) p k).1 (oOrd S (fCn S F F) p k).2.1) < sc S 1001) : zG Z l 3 mth_X16_orderAt [.ref (Λ 1001), .int p, .int (nI pl)] M 1 256 (some (.int (nI (oOrd S (fCn S F F) p (pl + 1)).2.2))) ((zRp Z Λ (mT S 0))) := by
  intro Q hQ
  have hb2 : sc S 1001 ≤ 8 := hR.bnd.2.1.2.1
  have hp8 : 2 ^ sc S 1001 ≤ 2 ^ 8 := Nat.pow_le_pow_right (by decide) hb2
  have hF2 : F < 256 := by omega
  show zX Z l 3 mth_X16_orderAt 0 [(0, .ref (Λ 1001)), (1, .int p), (2, .int (nI pl))] [] M 1 256 Q
  refine zs_aload_n (n := 1) dX16_orderAt_0 rfl rfl ?_
  refine zi_counts (F := F) (nc1 := 0) (ns1 := 0) (n := 4) dX16_orderAt_1 ml_X16_136 hR h4 hF (by simp) (by omega) (by omega) (by omega) rfl (fun q9 M hR hT => ?_)
  refine zs_astore_n (n := 5) dX16_orderAt_4 (by decide) rfl ?_
  refine zs_aload_n (n := 6) dX16_orderAt_5 rfl rfl ?_
  refine zs_iload_n (n := 7) dX16_orderAt_6 rfl rfl ?_
  refine zs_i2l (n := 8) dX16_orderAt_7 rfl ?_
  refine zs_lconst (v := 0) (n := 9) dX16_orderAt_8 (by decide) rfl ?_
  refine zs_aload_n (n := 10) dX16_orderAt_9 rfl rfl ?_
  refine zs_iconst (v := nI 0) (n := 11) dX16_orderAt_10 (by decide) rfl ?_
  refine zt_iald (n := 12) dX16_orderAt_11 hT (show 0 < F + 1 from by omega) (by omega) rfl ?_
  refine zs_iconst (v := 1) (n := 13) dX16_orderAt_12 (by decide) rfl ?_
  refine zs_isub (n := 14) dX16_orderAt_13 rfl ?_
  refine zs_i2l (n := 15) dX16_orderAt_14 rfl ?_
  refine zc_S (n := 18) (As := [.long p.toInt64, .long (0 : Int64), .long (((fCn S F F) 0) - (1 : Int32)).toInt64]) (mc := 0) (ms := 0) dX16_orderAt_15 ok_X16_in ⟨ml_X16_50, st_X16_in⟩ rfl (Nat.le_of_ble_eq_true rfl) (by simp) (by omega) (Nat.le_refl _) (Nat.le_refl _) rfl rfl (m_in (x := p) (lo := (0 : Int32)) (hi := (((fCn S F F) 0) - (1 : Int32))) rfl (by first | rfl | decide) (by first | rfl | decide)) ?_
  refine zs_if_eq (tgt := 44) (n := 21) dX16_orderAt_18 (by decide) rfl (fun h => absurd h (zb1.mpr hx8)) (fun _ => ?_)
  refine zs_iload_n (n := 22) dX16_orderAt_21 rfl rfl ?_
  refine zs_i2l (n := 23) dX16_orderAt_22 rfl ?_
  refine zs_lconst (v := 0) (n := 24) dX16_orderAt_23 (by decide) rfl ?_
  refine zs_aload_n (n := 25) dX16_orderAt_24 rfl rfl ?_
  refine zs_getr (b := (Λ 1017)) (n := 28) dX16_orderAt_25 gf_X16_16 (hR.kd (lvM h4 (by omega))) (hR.pt (lvM h4 (by omega)) rfl (by decide)) rfl ?_
  refine zc_size (c := sc S 1001) (n := 31) dX16_orderAt_28 ml_X16_46 (hR.lA' h4) (by simp) (by omega) rfl ?_
  refine zs_iconst (v := 1) (n := 32) dX16_orderAt_31 (by decide) rfl ?_
  refine zs_isub (n := 33) dX16_orderAt_32 rfl ?_
  refine zs_i2l (n := 34) dX16_orderAt_33 rfl ?_
  refine zc_S (n := 37) (As := [.long (nI pl).toInt64, .long (0 : Int64), .long ((nI (sc S 1001)) - (1 : Int32)).toInt64]) (mc := 0) (ms := 0) dX16_orderAt_34 ok_X16_in ⟨ml_X16_50, st_X16_in⟩ rfl (Nat.le_of_ble_eq_true rfl) (by simp) (by omega) (Nat.le_refl _) (Nat.le_refl _) rfl rfl (m_in (x := (nI pl)) (lo := (0 : Int32)) (hi := ((nI (sc S 1001)) - (1 : Int32))) rfl (by first | rfl | decide) (by first | rfl | decide)) ?_
  refine zs_if_eq (tgt := 44) (n := 40) dX16_orderAt_37 (by decide) rfl (fun h => absurd h (zb1.mpr (fIn_ix hpl (by omega)))) (fun _ => ?_)
  refine zs_iconst (v := 0) (n := 41) dX16_orderAt_40 (by decide) rfl ?_
  refine zs_goto (tgt := 45) dX16_orderAt_41 (by decide) ?_
  refine zs_puti (n := 48) dX16_orderAt_45 pf_X16_orderAt_43 (hR.kd (lvM h4 (by omega))) ⟨rfl, rfl⟩ rfl ?_
  have hT := hT.sI (k := 672) (v := (0 : Int32)) (hR.nt (r := 1001) hT.1 (lvM h4 (by omega)))
  have hR := hR.sI (s := 1001) (k := 672) (v := (0 : Int32)) (lvM h4 (by omega)) (by decide) (by decide) (by decide)
  revert hR hT
  generalize sI M (Λ 1001) 672 (0 : Int32) = M
  intro hT hR
  refine zs_iconst (v := 0) (n := 49) dX16_orderAt_48 (by decide) rfl ?_
  refine zs_istore (n := 51) dX16_orderAt_49 (by decide) rfl ?_
  refine zs_iload_n (n := 52) dX16_orderAt_51 rfl rfl ?_
  refine zs_istore (n := 54) dX16_orderAt_52 (by decide) rfl ?_
  refine zs_iconst (v := 0) (n := 55) dX16_orderAt_54 (by decide) rfl ?_
  refine zs_istore (n := 57) dX16_orderAt_55 (by decide) rfl ?_
  refine zs_iconst (v := 0) (n := 58) dX16_orderAt_57 (by decide) rfl ?_
  refine zs_istore (n := 60) dX16_orderAt_58 (by decide) rfl ?_
  refine zX.sub (L' := [(0, .ref (Λ 1001)), (1, .int p), (2, .int (nI pl)), (3, .ref q9), (4, .int (nI ((oOrd S (fCn S F F) p 0).1))), (5, .int ((oOrd S (fCn S F F) p 0).2.1)), (6, .int (nI ((oOrd S (fCn S F F) p 0).2.2))), (7, .int (nI 0))]) ⟨rfl, rfl, rfl, rfl, rfl, rfl, rfl, rfl, trivial⟩ ?_
  refine zloop (n := pl + 1) (X := fun k => zX Z l 3 mth_X16_orderAt 60 [(0, .ref (Λ 1001)), (1, .int p), (2, .int (nI pl)), (3, .ref q9), (4, .int (nI ((oOrd S (fCn S F F) p k).1))), (5, .int ((oOrd S (fCn S F F) p k).2.1)), (6, .int (nI ((oOrd S (fCn S F F) p k).2.2))), (7, .int (nI k))] [] M 0 0 Q) (fun k hk ih => ?_) ?_ 0 (Nat.zero_le _)
  · have hdn : (oOrd S (fCn S F F) p k).1 < F + 1 := oOrd_lt hF hsel k (by omega)
    have hsk := hsel k (by omega)
    refine zs_iload (n := 62) dX16_orderAt_60 rfl rfl ?_
    refine zs_iload_n (n := 63) dX16_orderAt_62 rfl rfl ?_
    refine zs_icmp_gt (tgt := 155) (n := 66) dX16_orderAt_63 (by decide) rfl (fun h => absurd h (nI_nlt (by omega) (by omega))) (fun _ => ?_)
    refine zs_aload_n (n := 67) dX16_orderAt_66 rfl rfl ?_
    refine zs_getv (x := (0 : Int32)) (n := 70) dX16_orderAt_67 gf_X16_43 (hR.kd (lvM h4 (by omega))) (hR.iv (lvM h4 (by omega)) (by decide) (by decide)) rfl ?_
    refine zs_if_ne (tgt := 155) (n := 73) dX16_orderAt_70 (by decide) rfl (fun h => absurd (by decide) h) (fun _ => ?_)
    refine zs_iconst (v := 0) (n := 74) dX16_orderAt_73 (by decide) rfl ?_
    refine zs_istore (n := 76) dX16_orderAt_74 (by decide) rfl ?_
    refine zX.sub (L' := [(0, .ref (Λ 1001)), (1, .int p), (2, .int (nI pl)), (3, .ref q9), (4, .int (nI ((oOrd S (fCn S F F) p k).1))), (5, .int (oLeft S (fCn S F F) (oOrd S (fCn S F F) p k).1 (oOrd S (fCn S F F) p k).2.1 0)), (6, .int (nI ((oOrd S (fCn S F F) p k).2.2))), (7, .int (nI k)), (8, .int (nI 0))]) ⟨rfl, rfl, rfl, rfl, rfl, rfl, rfl, rfl, rfl, trivial⟩ ?_
    refine zloop (n := (oSel S (fCn S F F) (oOrd S (fCn S F F) p k).1 (oOrd S (fCn S F F) p k).2.1)) (X := fun j => zX Z l 3 mth_X16_orderAt 76 [(0, .ref (Λ 1001)), (1, .int p), (2, .int (nI pl)), (3, .ref q9), (4, .int (nI ((oOrd S (fCn S F F) p k).1))), (5, .int (oLeft S (fCn S F F) (oOrd S (fCn S F F) p k).1 (oOrd S (fCn S F F) p k).2.1 j)), (6, .int (nI ((oOrd S (fCn S F F) p k).2.2))), (7, .int (nI k)), (8, .int (nI j))] [] M 0 0 Q) (fun j hj ih => ?_) ?_ 0 (Nat.zero_le _)
    · have hjN : j < sc S 1001 := by omega
      have hcf : oCnd S (fCn S F F) (oOrd S (fCn S F F) p k).1 (oOrd S (fCn S F F) p k).2.1 j = false := zfst_no hj
      have hor := zor_lt2 hF hjN hdn
      refine zs_aload_n (n := 77) dX16_orderAt_76 rfl rfl ?_
      refine zs_iload (n := 79) dX16_orderAt_77 rfl rfl ?_
      refine zs_iload (n := 81) dX16_orderAt_79 rfl rfl ?_
      refine zc_V (n := 84) (As := [.int (nI j), .int (nI ((oOrd S (fCn S F F) p k).1))]) (ci := 21) (mc := 0) (ms := 0) dX16_orderAt_81 ok_X16_isFree ⟨ml_X16_133, im_X16_isFree, sl_X16_isFree⟩ rfl (hR.kd (lvM h4 (by omega))) rfl (Nat.le_of_ble_eq_true rfl) (by simp) (by omega) (Nat.le_refl _) (Nat.le_refl _) rfl rfl (k_isFree hR h4 hjN) ?_
      refine zs_if_eq (tgt := 101) (n := 87) dX16_orderAt_84 (by decide) rfl (fun h84 => ?_) (fun h84 => ?_)
      · refine zs_iload (n := 103) dX16_orderAt_101 rfl rfl ?_
        refine zs_aload_n (n := 104) dX16_orderAt_103 rfl rfl ?_
        refine zs_iload (n := 106) dX16_orderAt_104 rfl rfl ?_
        refine zs_iload (n := 108) dX16_orderAt_106 rfl rfl ?_
        refine zc_V (n := 111) (As := [.int (nI j), .int (nI ((oOrd S (fCn S F F) p k).1))]) (ci := 21) (mc := 0) (ms := 0) dX16_orderAt_108 ok_X16_isFree ⟨ml_X16_133, im_X16_isFree, sl_X16_isFree⟩ rfl (hR.kd (lvM h4 (by omega))) rfl (Nat.le_of_ble_eq_true rfl) (by simp) (by omega) (Nat.le_refl _) (Nat.le_refl _) rfl rfl (k_isFree hR h4 hjN) ?_
        refine zs_if_eq (tgt := 126) (n := 114) dX16_orderAt_111 (by decide) rfl (fun h111 => ?_) (fun h111 => ?_)
        · refine zs_iconst (v := 0) (n := 127) dX16_orderAt_126 (by decide) rfl ?_
          refine zs_isub (n := 128) dX16_orderAt_127 rfl ?_
          refine zs_istore (n := 130) dX16_orderAt_128 (by decide) rfl ?_
          refine zs_iinc (v := (nI (j + 1))) (n := 133) dX16_orderAt_130 rfl (nI_1 _) (by decide) rfl ?_
          refine zs_goto (tgt := 76) dX16_orderAt_133 (by decide) ?_
          refine zX.sub (L' := [(0, .ref (Λ 1001)), (1, .int p), (2, .int (nI pl)), (3, .ref q9), (4, .int (nI ((oOrd S (fCn S F F) p k).1))), (5, .int (oLeft S (fCn S F F) (oOrd S (fCn S F F) p k).1 (oOrd S (fCn S F F) p k).2.1 (j + 1))), (6, .int (nI ((oOrd S (fCn S F F) p k).2.2))), (7, .int (nI k)), (8, .int (nI (j + 1)))]) ⟨rfl, rfl, rfl, rfl, rfl, (show some (Value.int ((oLeft S (fCn S F F) (oOrd S (fCn S F F) p k).1 (oOrd S (fCn S F F) p k).2.1 j) - (0 : Int32))) = some (Value.int (oLeft S (fCn S F F) (oOrd S (fCn S F F) p k).1 (oOrd S (fCn S F F) p k).2.1 (j + 1))) from congrArg (fun z => some (Value.int z)) (by rw [show oLeft S (fCn S F F) (oOrd S (fCn S F F) p k).1 (oOrd S (fCn S F F) p k).2.1 (j + 1) = oLeft S (fCn S F F) (oOrd S (fCn S F F) p k).1 (oOrd S (fCn S F F) p k).2.1 j - (if fFrm S j (nI (oOrd S (fCn S F F) p k).1) (sc S 1001) = true then (fCn S F F) ((oOrd S (fCn S F F) p k).1 ||| 2 ^ j) else 0) from rfl]; first | rw [if_pos (show fFrm S j (nI (oOrd S (fCn S F F) p k).1) (sc S 1001) = true from zb1.mp h111)] | rw [if_neg (show ¬ fFrm S j (nI (oOrd S (fCn S F F) p k).1) (sc S 1001) = true from fun e => absurd (e.symm.trans (zb0.mp h111)) (by decide))])), rfl, rfl, rfl, trivial⟩ ?_
          exact ih
        · refine zs_aload_n (n := 115) dX16_orderAt_114 rfl rfl ?_
          refine zs_iload (n := 117) dX16_orderAt_115 rfl rfl ?_
          refine zs_iconst (v := 1) (n := 118) dX16_orderAt_117 (by decide) rfl ?_
          refine zs_iload (n := 120) dX16_orderAt_118 rfl rfl ?_
          refine zs_ishl (n := 121) dX16_orderAt_120 rfl ?_
          refine zs_ior (n := 122) dX16_orderAt_121 rfl ?_
          rw [zor_bit (by omega)]
          refine zt_iald (n := 123) dX16_orderAt_122 hT hor (by omega) rfl ?_
          refine zs_goto (tgt := 127) dX16_orderAt_123 (by decide) ?_
          refine zs_isub (n := 128) dX16_orderAt_127 rfl ?_
          refine zs_istore (n := 130) dX16_orderAt_128 (by decide) rfl ?_
          refine zs_iinc (v := (nI (j + 1))) (n := 133) dX16_orderAt_130 rfl (nI_1 _) (by decide) rfl ?_
          refine zs_goto (tgt := 76) dX16_orderAt_133 (by decide) ?_
          refine zX.sub (L' := [(0, .ref (Λ 1001)), (1, .int p), (2, .int (nI pl)), (3, .ref q9), (4, .int (nI ((oOrd S (fCn S F F) p k).1))), (5, .int (oLeft S (fCn S F F) (oOrd S (fCn S F F) p k).1 (oOrd S (fCn S F F) p k).2.1 (j + 1))), (6, .int (nI ((oOrd S (fCn S F F) p k).2.2))), (7, .int (nI k)), (8, .int (nI (j + 1)))]) ⟨rfl, rfl, rfl, rfl, rfl, (show some (Value.int ((oLeft S (fCn S F F) (oOrd S (fCn S F F) p k).1 (oOrd S (fCn S F F) p k).2.1 j) - ((fCn S F F) ((oOrd S (fCn S F F) p k).1 ||| 2 ^ j)))) = some (Value.int (oLeft S (fCn S F F) (oOrd S (fCn S F F) p k).1 (oOrd S (fCn S F F) p k).2.1 (j + 1))) from congrArg (fun z => some (Value.int z)) (by rw [show oLeft S (fCn S F F) (oOrd S (fCn S F F) p k).1 (oOrd S (fCn S F F) p k).2.1 (j + 1) = oLeft S (fCn S F F) (oOrd S (fCn S F F) p k).1 (oOrd S (fCn S F F) p k).2.1 j - (if fFrm S j (nI (oOrd S (fCn S F F) p k).1) (sc S 1001) = true then (fCn S F F) ((oOrd S (fCn S F F) p k).1 ||| 2 ^ j) else 0) from rfl]; first | rw [if_pos (show fFrm S j (nI (oOrd S (fCn S F F) p k).1) (sc S 1001) = true from zb1.mp h111)] | rw [if_neg (show ¬ fFrm S j (nI (oOrd S (fCn S F F) p k).1) (sc S 1001) = true from fun e => absurd (e.symm.trans (zb0.mp h111)) (by decide))])), rfl, rfl, rfl, trivial⟩ ?_
          exact ih
      · refine zs_iload (n := 89) dX16_orderAt_87 rfl rfl ?_
        refine zs_aload_n (n := 90) dX16_orderAt_89 rfl rfl ?_
        refine zs_iload (n := 92) dX16_orderAt_90 rfl rfl ?_
        refine zs_iconst (v := 1) (n := 93) dX16_orderAt_92 (by decide) rfl ?_
        refine zs_iload (n := 95) dX16_orderAt_93 rfl rfl ?_
        refine zs_ishl (n := 96) dX16_orderAt_95 rfl ?_
        refine zs_ior (n := 97) dX16_orderAt_96 rfl ?_
        rw [zor_bit (by omega)]
        refine zt_iald (n := 98) dX16_orderAt_97 hT hor (by omega) rfl ?_
        refine zs_icmp_lt (tgt := 136) (n := 101) dX16_orderAt_98 (by decide) rfl (fun h => absurd h (fun h9 => absurd (show oCnd S (fCn S F F) (oOrd S (fCn S F F) p k).1 (oOrd S (fCn S F F) p k).2.1 j = true from by unfold oCnd; rw [show fFrm S j (nI (oOrd S (fCn S F F) p k).1) (sc S 1001) = true from zb1.mp h84, decide_eq_true h9]; rfl) (by rw [hcf]; decide))) (fun _ => ?_)
        refine zs_iload (n := 103) dX16_orderAt_101 rfl rfl ?_
        refine zs_aload_n (n := 104) dX16_orderAt_103 rfl rfl ?_
        refine zs_iload (n := 106) dX16_orderAt_104 rfl rfl ?_
        refine zs_iload (n := 108) dX16_orderAt_106 rfl rfl ?_
        refine zc_V (n := 111) (As := [.int (nI j), .int (nI ((oOrd S (fCn S F F) p k).1))]) (ci := 21) (mc := 0) (ms := 0) dX16_orderAt_108 ok_X16_isFree ⟨ml_X16_133, im_X16_isFree, sl_X16_isFree⟩ rfl (hR.kd (lvM h4 (by omega))) rfl (Nat.le_of_ble_eq_true rfl) (by simp) (by omega) (Nat.le_refl _) (Nat.le_refl _) rfl rfl (k_isFree hR h4 hjN) ?_
        refine zs_if_eq (tgt := 126) (n := 114) dX16_orderAt_111 (by decide) rfl (fun h111 => ?_) (fun h111 => ?_)
        · refine zs_iconst (v := 0) (n := 127) dX16_orderAt_126 (by decide) rfl ?_
          refine zs_isub (n := 128) dX16_orderAt_127 rfl ?_
          refine zs_istore (n := 130) dX16_orderAt_128 (by decide) rfl ?_
          refine zs_iinc (v := (nI (j + 1))) (n := 133) dX16_orderAt_130 rfl (nI_1 _) (by decide) rfl ?_
          refine zs_goto (tgt := 76) dX16_orderAt_133 (by decide) ?_
          refine zX.sub (L' := [(0, .ref (Λ 1001)), (1, .int p), (2, .int (nI pl)), (3, .ref q9), (4, .int (nI ((oOrd S (fCn S F F) p k).1))), (5, .int (oLeft S (fCn S F F) (oOrd S (fCn S F F) p k).1 (oOrd S (fCn S F F) p k).2.1 (j + 1))), (6, .int (nI ((oOrd S (fCn S F F) p k).2.2))), (7, .int (nI k)), (8, .int (nI (j + 1)))]) ⟨rfl, rfl, rfl, rfl, rfl, (show some (Value.int ((oLeft S (fCn S F F) (oOrd S (fCn S F F) p k).1 (oOrd S (fCn S F F) p k).2.1 j) - (0 : Int32))) = some (Value.int (oLeft S (fCn S F F) (oOrd S (fCn S F F) p k).1 (oOrd S (fCn S F F) p k).2.1 (j + 1))) from congrArg (fun z => some (Value.int z)) (by rw [show oLeft S (fCn S F F) (oOrd S (fCn S F F) p k).1 (oOrd S (fCn S F F) p k).2.1 (j + 1) = oLeft S (fCn S F F) (oOrd S (fCn S F F) p k).1 (oOrd S (fCn S F F) p k).2.1 j - (if fFrm S j (nI (oOrd S (fCn S F F) p k).1) (sc S 1001) = true then (fCn S F F) ((oOrd S (fCn S F F) p k).1 ||| 2 ^ j) else 0) from rfl]; first | rw [if_pos (show fFrm S j (nI (oOrd S (fCn S F F) p k).1) (sc S 1001) = true from zb1.mp h111)] | rw [if_neg (show ¬ fFrm S j (nI (oOrd S (fCn S F F) p k).1) (sc S 1001) = true from fun e => absurd (e.symm.trans (zb0.mp h111)) (by decide))])), rfl, rfl, rfl, trivial⟩ ?_
          exact ih
        · refine zs_aload_n (n := 115) dX16_orderAt_114 rfl rfl ?_
          refine zs_iload (n := 117) dX16_orderAt_115 rfl rfl ?_
          refine zs_iconst (v := 1) (n := 118) dX16_orderAt_117 (by decide) rfl ?_
          refine zs_iload (n := 120) dX16_orderAt_118 rfl rfl ?_
          refine zs_ishl (n := 121) dX16_orderAt_120 rfl ?_
          refine zs_ior (n := 122) dX16_orderAt_121 rfl ?_
          rw [zor_bit (by omega)]
          refine zt_iald (n := 123) dX16_orderAt_122 hT hor (by omega) rfl ?_
          refine zs_goto (tgt := 127) dX16_orderAt_123 (by decide) ?_
          refine zs_isub (n := 128) dX16_orderAt_127 rfl ?_
          refine zs_istore (n := 130) dX16_orderAt_128 (by decide) rfl ?_
          refine zs_iinc (v := (nI (j + 1))) (n := 133) dX16_orderAt_130 rfl (nI_1 _) (by decide) rfl ?_
          refine zs_goto (tgt := 76) dX16_orderAt_133 (by decide) ?_
          refine zX.sub (L' := [(0, .ref (Λ 1001)), (1, .int p), (2, .int (nI pl)), (3, .ref q9), (4, .int (nI ((oOrd S (fCn S F F) p k).1))), (5, .int (oLeft S (fCn S F F) (oOrd S (fCn S F F) p k).1 (oOrd S (fCn S F F) p k).2.1 (j + 1))), (6, .int (nI ((oOrd S (fCn S F F) p k).2.2))), (7, .int (nI k)), (8, .int (nI (j + 1)))]) ⟨rfl, rfl, rfl, rfl, rfl, (show some (Value.int ((oLeft S (fCn S F F) (oOrd S (fCn S F F) p k).1 (oOrd S (fCn S F F) p k).2.1 j) - ((fCn S F F) ((oOrd S (fCn S F F) p k).1 ||| 2 ^ j)))) = some (Value.int (oLeft S (fCn S F F) (oOrd S (fCn S F F) p k).1 (oOrd S (fCn S F F) p k).2.1 (j + 1))) from congrArg (fun z => some (Value.int z)) (by rw [show oLeft S (fCn S F F) (oOrd S (fCn S F F) p k).1 (oOrd S (fCn S F F) p k).2.1 (j + 1) = oLeft S (fCn S F F) (oOrd S (fCn S F F) p k).1 (oOrd S (fCn S F F) p k).2.1 j - (if fFrm S j (nI (oOrd S (fCn S F F) p k).1) (sc S 1001) = true then (fCn S F F) ((oOrd S (fCn S F F) p k).1 ||| 2 ^ j) else 0) from rfl]; first | rw [if_pos (show fFrm S j (nI (oOrd S (fCn S F F) p k).1) (sc S 1001) = true from zb1.mp h111)] | rw [if_neg (show ¬ fFrm S j (nI (oOrd S (fCn S F F) p k).1) (sc S 1001) = true from fun e => absurd (e.symm.trans (zb0.mp h111)) (by decide))])), rfl, rfl, rfl, trivial⟩ ?_
          exact ih
    · have hcy := zfst_yes hsk
      have hc2 : fFrm S (oSel S (fCn S F F) (oOrd S (fCn S F F) p k).1 (oOrd S (fCn S F F) p k).2.1) (nI (oOrd S (fCn S F F) p k).1) (sc S 1001) = true ∧ oLeft S (fCn S F F) (oOrd S (fCn S F F) p k).1 (oOrd S (fCn S F F) p k).2.1 (oSel S (fCn S F F) (oOrd S (fCn S F F) p k).1 (oOrd S (fCn S F F) p k).2.1) < (fCn S F F) ((oOrd S (fCn S F F) p k).1 ||| 2 ^ (oSel S (fCn S F F) (oOrd S (fCn S F F) p k).1 (oOrd S (fCn S F F) p k).2.1)) := by
        have h9 : (fFrm S (oSel S (fCn S F F) (oOrd S (fCn S F F) p k).1 (oOrd S (fCn S F F) p k).2.1) (nI (oOrd S (fCn S F F) p k).1) (sc S 1001) && decide (oLeft S (fCn S F F) (oOrd S (fCn S F F) p k).1 (oOrd S (fCn S F F) p k).2.1 (oSel S (fCn S F F) (oOrd S (fCn S F F) p k).1 (oOrd S (fCn S F F) p k).2.1) < (fCn S F F) ((oOrd S (fCn S F F) p k).1 ||| 2 ^ (oSel S (fCn S F F) (oOrd S (fCn S F F) p k).1 (oOrd S (fCn S F F) p k).2.1)))) = true := hcy
        exact ⟨(Bool.and_eq_true _ _ ▸ h9).1, of_decide_eq_true (Bool.and_eq_true _ _ ▸ h9).2⟩
      have hor := zor_lt2 hF hsk hdn
      refine zs_aload_n (n := 77) dX16_orderAt_76 rfl rfl ?_
      refine zs_iload (n := 79) dX16_orderAt_77 rfl rfl ?_
      refine zs_iload (n := 81) dX16_orderAt_79 rfl rfl ?_
      refine zc_V (n := 84) (As := [.int (nI (oSel S (fCn S F F) (oOrd S (fCn S F F) p k).1 (oOrd S (fCn S F F) p k).2.1)), .int (nI ((oOrd S (fCn S F F) p k).1))]) (ci := 21) (mc := 0) (ms := 0) dX16_orderAt_81 ok_X16_isFree ⟨ml_X16_133, im_X16_isFree, sl_X16_isFree⟩ rfl (hR.kd (lvM h4 (by omega))) rfl (Nat.le_of_ble_eq_true rfl) (by simp) (by omega) (Nat.le_refl _) (Nat.le_refl _) rfl rfl (k_isFree hR h4 hsk) ?_
      refine zs_if_eq (tgt := 101) (n := 87) dX16_orderAt_84 (by decide) rfl (fun h => absurd h (zb1.mpr hc2.1)) (fun _ => ?_)
      refine zs_iload (n := 89) dX16_orderAt_87 rfl rfl ?_
      refine zs_aload_n (n := 90) dX16_orderAt_89 rfl rfl ?_
      refine zs_iload (n := 92) dX16_orderAt_90 rfl rfl ?_
      refine zs_iconst (v := 1) (n := 93) dX16_orderAt_92 (by decide) rfl ?_
      refine zs_iload (n := 95) dX16_orderAt_93 rfl rfl ?_
      refine zs_ishl (n := 96) dX16_orderAt_95 rfl ?_
      refine zs_ior (n := 97) dX16_orderAt_96 rfl ?_
      rw [zor_bit (by omega)]
      refine zt_iald (n := 98) dX16_orderAt_97 hT hor (by omega) rfl ?_
      refine zs_icmp_lt (tgt := 136) (n := 101) dX16_orderAt_98 (by decide) rfl (fun _ => ?_) (fun h => absurd hc2.2 h)
      refine zs_iload (n := 138) dX16_orderAt_136 rfl rfl ?_
      refine zs_iconst (v := 1) (n := 139) dX16_orderAt_138 (by decide) rfl ?_
      refine zs_iload (n := 141) dX16_orderAt_139 rfl rfl ?_
      refine zs_ishl (n := 142) dX16_orderAt_141 rfl ?_
      refine zs_ior (n := 143) dX16_orderAt_142 rfl ?_
      rw [zor_bit (by omega)]
      refine zs_istore (n := 145) dX16_orderAt_143 (by decide) rfl ?_
      refine zs_iload (n := 147) dX16_orderAt_145 rfl rfl ?_
      refine zs_istore (n := 149) dX16_orderAt_147 (by decide) rfl ?_
      refine zs_iinc (v := (nI (k + 1))) (n := 152) dX16_orderAt_149 rfl (nI_1 _) (by decide) rfl ?_
      refine zs_goto (tgt := 60) dX16_orderAt_152 (by decide) ?_
      refine zX.sub (L' := [(0, .ref (Λ 1001)), (1, .int p), (2, .int (nI pl)), (3, .ref q9), (4, .int (nI ((oOrd S (fCn S F F) p (k + 1)).1))), (5, .int ((oOrd S (fCn S F F) p (k + 1)).2.1)), (6, .int (nI ((oOrd S (fCn S F F) p (k + 1)).2.2))), (7, .int (nI (k + 1)))]) ⟨rfl, rfl, rfl, rfl, rfl, rfl, rfl, rfl, trivial⟩ ?_
      exact ih
  · refine zs_iload (n := 62) dX16_orderAt_60 rfl rfl ?_
    refine zs_iload_n (n := 63) dX16_orderAt_62 rfl rfl ?_
    refine zs_icmp_gt (tgt := 155) (n := 66) dX16_orderAt_63 (by decide) rfl (fun _ => ?_) (fun h => absurd (nI_lt (by omega) (by omega)) h)
    refine zs_iload (n := 157) dX16_orderAt_155 rfl rfl ?_
    refine zs_ireturn dX16_orderAt_157 ⟨_, rfl, rfl⟩ ?_
    exact hQ _ hR
end ZMOD6
