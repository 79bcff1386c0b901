/-! THE MODEL: two turns exchanged -/
section ZEXCHM
variable {Z : zPar} {l : Launch} {Λ : Nat → Nat} {S : zSt} {M M0 : zMem} {d d' : Nat} {mm : zMeth} {pc n nc ns ix nc1 ns1 i t o p : Nat} {L : List (Nat × Value)} {st : List Value} {Q : zO → zMem → Prop}
theorem zsw_lt {n t o x : Nat} (h1 : t < n) (h2 : o < n) (h3 : x < n) : zsw t o x < n := by
  unfold zsw
  split
  · exact h2
  · split
    · exact h1
    · exact h3
theorem zsw_f {b t o x : Nat} : Λ (b + zsw t o x) = if x = t then Λ (b + o) else if x = o then Λ (b + t) else Λ (b + x) := by
  unfold zsw
  split
  · rfl
  · split <;> rfl
theorem zTt.ext {g : Nat} {f f' : Nat → Nat} (h : zTt Z M p g n f) (hf : ∀ i, i < n → f' i = f i) : zTt Z M p g n f' := by
  obtain ⟨a1, a2, a3, e, ⟨l1, l2, l3, l4, l5⟩, h5⟩ := h
  exact ⟨a1, a2, a3, e, ⟨l1, l2, l3, l4, fun i hi => by rw [hf i hi]; exact l5 i hi⟩, h5⟩
/-- the cleared list gets its turns back, two of them exchanged -/
theorem zw_exch {f : Nat → Nat} (hd : decode (zMC mm) pc = .ok (.invokevirtual ix, 3)) (hw : zwd (.methodLink (zMY mm).cls ix yJx4a65c_addAll_f0b43)) (hR : zRp Z Λ S M) (hi : i < sc S 1000) (ht : t < sc S (1010 + i)) (ho : o < sc S (1010 + i)) (hT : zTt Z M p 3000 (sc S (1010 + i)) f) (hf : ∀ k, k < sc S (1010 + i) → f k = Λ (1160 + 8 * i + zsw t o k)) (hst : st.length ≤ 4) (hdd : 3 < d) (hc1 : nc1 + 1 ≤ nc) (hs1 : ns1 + sc S (1010 + i) ≤ ns) (hn : pc + 3 = n)
    (kk : ∀ M2, zRp Z (fun s => Λ (zsw (1160 + 8 * i + t) (1160 + 8 * i + o) s)) (fSwapM S i t o) M2 → zX Z l d mm n L (.int 1 :: st) M2 nc1 ns1 Q) : zX Z l d mm pc L (.ref p :: .ref (Λ (1120 + i)) :: st) (zClr M (Λ (1120 + i)) (Λ (1130 + i)) (sc S (1010 + i))) nc ns Q := by
  have hb6 := hR.bnd.2.1.1
  have hL := hR.lT' hi
  have hlT : zlv (sc S) (1120 + i) := lvT' hi
  have hkT : zki (1120 + i) = 14 := zki_T' (by omega)
  have hrw : zrw (1120 + i) = 1130 + i := zrw_T'
  generalize hn9 : sc S (1010 + i) = n9 at *
  have hE3 : mK M (Λ (1130 + i)) = 3 := by
    rcases hL.row with h9 | h9
    · omega
    · exact h9
  have hEg := (hR.rw hlT hkT (by rw [hrw]; exact hE3)).1
  rw [hrw] at hEg
  obtain ⟨l1, l2, l3, l4, l5⟩ := hL
  have l4' : n9 ≤ mN M (Λ (1130 + i)) ∧ mN M (Λ (1130 + i)) < 1000 ∧ 0 < mN M (Λ (1130 + i)) := by
    rcases l4 with ⟨l4, -⟩ | ⟨-, l4⟩
    · omega
    · exact l4
  have hpL : p ≠ Λ (1120 + i) := fun h => hR.nt hT.tmp hlT h.symm
  obtain ⟨t1, t2, t3, e1, ⟨u1', u2', u3', u4', u5'⟩, t5⟩ := hT
  have he3 : mK M e1 = 3 := by
    rcases u4' with ⟨-, -, h, -⟩ | ⟨h, -⟩
    · omega
    · exact h
  have heE : e1 ≠ Λ (1130 + i) := fun h => by
    have := t5 he3
    rw [h, hEg] at this
    omega
  have hLE : Λ (1120 + i) ≠ Λ (1130 + i) := fun h => by rw [h, hE3] at l1; exact absurd l1 (by decide)
  have hL0 : zL Z (zClr M (Λ (1120 + i)) (Λ (1130 + i)) n9) (Λ (1120 + i)) (Λ (1130 + i)) 0 f := ⟨l1, u2_at, l3, Or.inr ⟨hE3, Nat.zero_le _, l4'.2.1, l4'.2.2⟩, fun i hi => absurd hi (Nat.not_lt_zero i)⟩
  have hL1 : zL Z (zClr M (Λ (1120 + i)) (Λ (1130 + i)) n9) p e1 n9 f := by
    refine ⟨u1', ?_, u3', u4', fun k hk => ?_⟩
    · show u2 (u2 (vI M) (Λ (1120 + i)) 128 (vI M (Λ (1120 + i)) 128 + 1)) (Λ (1120 + i)) 130 0 p 130 = nI n9
      rw [u2_ne hpL, u2_ne hpL]
      exact u2'
    · exact (congrFun (u1_ne heE) k).trans (u5' k hk)
  have hel : ∀ k, k < n9 → mK M (f k) = 29 := fun k hk => by
    rw [hf k hk]
    exact hR.kK' hi (by rw [hn9]; exact zsw_lt ht ho hk)
  refine zs_invV (d' := d - 1) (As := [.ref p]) (ci := 4) (mc := 1) (ms := n9) (nc1 := nc1) (ns1 := ns1) (Post := fun o M1 => ∃ q, mK M q = 0 ∧ o = .inl (some (.int 1)) ∧ M1 = zAdA (zClr M (Λ (1120 + i)) (Λ (1130 + i)) n9) (Λ (1120 + i)) q (Λ (1130 + i)) e1 n9 0) hd ok_Jx4a65c_addAll_f0b43 ⟨hw, im_Jx4a65c_addAll_f0b43, sl_Jx4a65c_addAll_f0b43⟩ rfl l1 rfl (Nat.le_of_ble_eq_true rfl) hst (by omega) hc1 hs1 rfl hn ((m_addAll (ci := 19) 0 hL0 hE3 l4'.1 hL1 (by omega) rfl co_X14 hel (fun q hq => ⟨q, hq, rfl, rfl⟩)).deep (by omega)) (fun k9 M1 h => by obtain ⟨q, _, h, _⟩ := h; cases h) (fun v M1 h => ?_)
  obtain ⟨q, hq, h, rfl⟩ := h
  cases h
  have hLq : Λ (1120 + i) ≠ q := fun h => by rw [h, hq] at l1; exact absurd l1 (by decide)
  have hEq : Λ (1130 + i) ≠ q := fun h => by rw [h, hq] at hE3; exact absurd hE3 (by decide)
  refine zX.mark (fun a => zsw (1160 + 8 * i + t) (1160 + 8 * i + o) (u1 (mG M) q 0 a)) (kk _ ?_)
  have hsw := hR.swapM hi (show t < sc S (1010 + i) by rw [hn9]; exact ht) (show o < sc S (1010 + i) by rw [hn9]; exact ho)
  have hb8 : n9 ≤ 8 := by rw [← hn9]; exact hR.bnd.2.2 i
  have eL : Λ (zsw (1160 + 8 * i + t) (1160 + 8 * i + o) (1120 + i)) = Λ (1120 + i) := congrArg Λ (zsw_n (by omega) (by omega))
  have eE : Λ (zsw (1160 + 8 * i + t) (1160 + 8 * i + o) (zrw (1120 + i))) = Λ (1130 + i) := by
    rw [hrw]
    exact congrArg Λ (zsw_n (by omega) (by omega))
  refine hsw.cls (r := 1120 + i) hlT hkT ?_ (fun a ha haL haE => ?_) ?_ ?_
  · rw [eE]
    exact hE3
  · rw [eL] at haL
    rw [eE] at haE
    have haq : a ≠ q := fun h => ha (h ▸ hq)
    refine ⟨u1_ne haq, u1_ne haq, congrArg (zsw (1160 + 8 * i + t) (1160 + 8 * i + o)) (u1_ne (f := mG M) haq), ?_, u1_ne haq, u1_ne haq, ?_, u1_ne haq, u1_ne haq⟩
    · show u2 (u2 (u1 (u2 (u2 (vI M) (Λ (1120 + i)) 128 (vI M (Λ (1120 + i)) 128 + 1)) (Λ (1120 + i)) 130 0) q (fun _ => 0)) (Λ (1120 + i)) 128 (vI (zClr M (Λ (1120 + i)) (Λ (1130 + i)) n9) (Λ (1120 + i)) 128 + 1)) (Λ (1120 + i)) 130 (nI n9) a = vI M a
      rw [u2_ne haL, u2_ne haL, u1_ne haq, u2_ne haL, u2_ne haL]
    · show u1 (u1 (u1 (u1 (aR M) (Λ (1130 + i)) (fun j => if j < n9 then none else aR M (Λ (1130 + i)) j)) q (fun _ => none)) q (va_cpy ((u1 (aR M) (Λ (1130 + i)) (fun j => if j < n9 then none else aR M (Λ (1130 + i)) j)) e1) (fun _ => none) 0 0 n9)) (Λ (1130 + i)) (va_cpy (va_cpy ((u1 (aR M) (Λ (1130 + i)) (fun j => if j < n9 then none else aR M (Λ (1130 + i)) j)) e1) (fun _ => none) 0 0 n9) ((u1 (aR M) (Λ (1130 + i)) (fun j => if j < n9 then none else aR M (Λ (1130 + i)) j)) (Λ (1130 + i))) 0 0 n9) a = u2 (u2 (aR M) (Λ (1130 + i)) t (some (Λ (1160 + 8 * i + o)))) (Λ (1130 + i)) o (some (Λ (1160 + 8 * i + t))) a
      rw [u1_ne haE, u1_ne haq, u1_ne haq, u1_ne haE, u2_ne haE, u2_ne haE]
  · rw [eL]
    refine ⟨u1_ne hLq, u1_ne hLq, congrArg (zsw (1160 + 8 * i + t) (1160 + 8 * i + o)) (u1_ne (f := mG M) hLq), fun k hk => ?_, u1_ne hLq, u1_ne hLq⟩
    show u2 (u2 (u1 (u2 (u2 (vI M) (Λ (1120 + i)) 128 (vI M (Λ (1120 + i)) 128 + 1)) (Λ (1120 + i)) 130 0) q (fun _ => 0)) (Λ (1120 + i)) 128 (vI (zClr M (Λ (1120 + i)) (Λ (1130 + i)) n9) (Λ (1120 + i)) 128 + 1)) (Λ (1120 + i)) 130 (nI n9) (Λ (1120 + i)) k = vI M (Λ (1120 + i)) k
    by_cases h : k = 130
    · subst h
      rw [u2_at]
      exact l2.symm
    · rw [u2_k h, u2_k hk, u1_ne hLq, u2_k h, u2_k hk]
  · rw [eE]
    refine ⟨(u1_ne hEq).trans hE3, u1_ne hEq, congrArg (zsw (1160 + 8 * i + t) (1160 + 8 * i + o)) (u1_ne (f := mG M) hEq), fun j hj => ?_⟩
    rw [zct_T' (by omega)] at hj
    replace hj : j < n9 := by
      rw [← hn9]
      exact hj
    show u1 (u1 (u1 (u1 (aR M) (Λ (1130 + i)) (fun j => if j < n9 then none else aR M (Λ (1130 + i)) j)) q (fun _ => none)) q (va_cpy ((u1 (aR M) (Λ (1130 + i)) (fun j => if j < n9 then none else aR M (Λ (1130 + i)) j)) e1) (fun _ => none) 0 0 n9)) (Λ (1130 + i)) (va_cpy (va_cpy ((u1 (aR M) (Λ (1130 + i)) (fun j => if j < n9 then none else aR M (Λ (1130 + i)) j)) e1) (fun _ => none) 0 0 n9) ((u1 (aR M) (Λ (1130 + i)) (fun j => if j < n9 then none else aR M (Λ (1130 + i)) j)) (Λ (1130 + i))) 0 0 n9) (Λ (1130 + i)) j = u2 (u2 (aR M) (Λ (1130 + i)) t (some (Λ (1160 + 8 * i + o)))) (Λ (1130 + i)) o (some (Λ (1160 + 8 * i + t))) (Λ (1130 + i)) j
    rw [u1_at, u1_ne heE]
    unfold va_cpy
    rw [if_pos ⟨Nat.zero_le _, by omega⟩, if_pos ⟨by omega, by omega⟩, show 0 + (0 + (j - 0) - 0) = j from by omega, u5' j hj, hf j hj, zsw_f (Λ := Λ)]
    by_cases h1 : j = o
    · subst h1
      rw [u2_at, if_pos rfl]
      by_cases h2 : j = t
      · subst h2
        rw [if_pos rfl]
      · rw [if_neg h2]
    · rw [u2_k h1, if_neg h1]
      by_cases h2 : j = t
      · subst h2
        rw [u2_at, if_pos rfl]
      · rw [u2_k h2, if_neg h2]
        exact (l5 j hj).symm
/-- a custom against what stands behind the k-th, among the next x -/
def fBd2 (S : zSt) (A : Nat → Nat) (k x : Nat) (b : Bool) : Bool := zit (fun y b => b || !decide (sW S (1030 + A (k + 1 + y)) (A k) = 0)) x b
def fBd1 (S : zSt) (A : Nat → Nat) (n m : Nat) : Bool := zit (fun k b => fBd2 S A k (n - (k + 1)) b) m false
theorem k_exchange_1 {p q r : Int32} (hR : zRp Z Λ S M) (h4 : sc S 4 = 1) (hx9 : ¬ (¬ p < 0 ∧ ¬ nI (sc S 1000) ≤ p)) : zG Z l 3 mth_X16_exchange [.ref (Λ 1001), .int p, .int q, .int r] M 0 0 (some (.int 0)) ((zRp Z Λ (mT S 1))) := by
  intro Q hQ
  have hb1 : sc S 1000 ≤ 6 := hR.bnd.2.1.1
  show zX Z l 3 mth_X16_exchange 0 [(0, .ref (Λ 1001)), (1, .int p), (2, .int q), (3, .int r)] [] M 0 0 Q
  refine zs_aload_n (n := 1) dX16_exchange_0 rfl rfl ?_
  refine zs_iload_n (n := 2) dX16_exchange_1 rfl rfl ?_
  refine zc_V (n := 5) (As := [.int p]) (ci := 21) (mc := 0) (ms := 0) dX16_exchange_2 ok_X16_isPitch ⟨ml_X16_84, im_X16_isPitch, sl_X16_isPitch⟩ rfl (hR.kd (lvM h4 (by omega))) rfl (Nat.le_of_ble_eq_true rfl) (by simp) (by omega) (Nat.le_refl _) (Nat.le_refl _) rfl rfl (k_isPitch hR h4) ?_
  refine zs_if_eq (tgt := 70) (n := 8) dX16_exchange_5 (by decide) rfl (fun _ => ?_) (fun h => absurd (zb0.mpr (fIn_no (by omega) hx9)) h)
  refine zs_iconst (v := 0) (n := 71) dX16_exchange_70 (by decide) rfl ?_
  refine zs_istore (n := 73) dX16_exchange_71 (by decide) rfl ?_
  refine zs_aload_n (n := 74) dX16_exchange_73 rfl rfl ?_
  refine zs_iload (n := 76) dX16_exchange_74 rfl rfl ?_
  refine zs_if_ne (tgt := 83) (n := 79) dX16_exchange_76 (by decide) rfl (fun h => absurd (by decide) h) (fun _ => ?_)
  refine zs_iconst (v := 1) (n := 80) dX16_exchange_79 (by decide) rfl ?_
  refine zs_goto (tgt := 95) dX16_exchange_80 (by decide) ?_
  refine zw_i (r := 1001) (n := 98) dX16_exchange_95 pf_X16_exchange_43 hR (lvM h4 (by omega)) (hR.kd (lvM h4 (by omega))) ⟨rfl, rfl⟩ (by decide) rfl ?_
  intro M hR hv
  refine zs_aload_n (n := 99) dX16_exchange_98 rfl rfl ?_
  refine zs_getv (x := (1 : Int32)) (n := 102) dX16_exchange_99 gf_X16_43 (hR.kd (lvM h4 (by omega))) (hR.iv (lvM h4 (by omega)) (by decide) (by decide)) rfl ?_
  refine zs_if_le (tgt := 107) (n := 105) dX16_exchange_102 (by decide) rfl (fun h => absurd h (by decide)) (fun _ => ?_)
  refine zs_iconst (v := 0) (n := 106) dX16_exchange_105 (by decide) rfl ?_
  refine zs_ireturn dX16_exchange_106 ⟨_, rfl, rfl⟩ ?_
  exact hQ _ hR
theorem k_exchange_2 {i : Nat} {q r : Int32} (hR : zRp Z Λ S M) (h4 : sc S 4 = 1) (hi : i < sc S 1000) (hx9 : ¬ (¬ q < 0 ∧ ¬ nI (sc S (1010 + i)) ≤ q)) : zG Z l 3 mth_X16_exchange [.ref (Λ 1001), .int (nI i), .int q, .int r] M 0 0 (some (.int 0)) ((zRp Z Λ (mT S 1))) := by
  intro Q hQ
  have hb1 : sc S 1000 ≤ 6 := hR.bnd.2.1.1
  have hb3 := hR.bnd.2.2 i
  show zX Z l 3 mth_X16_exchange 0 [(0, .ref (Λ 1001)), (1, .int (nI i)), (2, .int q), (3, .int r)] [] M 0 0 Q
  refine zs_aload_n (n := 1) dX16_exchange_0 rfl rfl ?_
  refine zs_iload_n (n := 2) dX16_exchange_1 rfl rfl ?_
  refine zc_V (n := 5) (As := [.int (nI i)]) (ci := 21) (mc := 0) (ms := 0) dX16_exchange_2 ok_X16_isPitch ⟨ml_X16_84, im_X16_isPitch, sl_X16_isPitch⟩ rfl (hR.kd (lvM h4 (by omega))) rfl (Nat.le_of_ble_eq_true rfl) (by simp) (by omega) (Nat.le_refl _) (Nat.le_refl _) rfl rfl (k_isPitch hR h4) ?_
  refine zs_if_eq (tgt := 70) (n := 8) dX16_exchange_5 (by decide) rfl (fun h => absurd h (zb1.mpr (fIn_ix hi (by omega)))) (fun _ => ?_)
  refine zs_iload_n (n := 9) dX16_exchange_8 rfl rfl ?_
  refine zs_i2l (n := 10) dX16_exchange_9 rfl ?_
  refine zs_lconst (v := 0) (n := 11) dX16_exchange_10 (by decide) rfl ?_
  refine zs_aload_n (n := 12) dX16_exchange_11 rfl rfl ?_
  refine zs_getr (b := (Λ 1015)) (n := 15) dX16_exchange_12 gf_X16_10 (hR.kd (lvM h4 (by omega))) (hR.pt (lvM h4 (by omega)) rfl (by decide)) rfl ?_
  refine zs_iload_n (n := 16) dX16_exchange_15 rfl rfl ?_
  refine zc_getb (c := sc S 1000) (b := (Λ (1100 + i))) (n := 19) dX16_exchange_16 ml_X16_94 (hR.lP' h4) hi rfl (by simp) (by omega) rfl ?_
  refine zs_castS (ci := 18) (n := 22) dX16_exchange_19 rfl cl_X16_68 (hR.kP' hi) rfl ?_
  refine zs_getr (b := (Λ (1120 + i))) (n := 25) dX16_exchange_22 gf_X16_164 (hR.kP' hi) (hR.pT' hi) rfl ?_
  refine zc_size (c := sc S (1010 + i)) (n := 28) dX16_exchange_25 ml_X16_46 (hR.lT' hi) (by simp) (by omega) rfl ?_
  refine zs_iconst (v := 1) (n := 29) dX16_exchange_28 (by decide) rfl ?_
  refine zs_isub (n := 30) dX16_exchange_29 rfl ?_
  refine zs_i2l (n := 31) dX16_exchange_30 rfl ?_
  refine zc_S (n := 34) (As := [.long q.toInt64, .long (0 : Int64), .long ((nI (sc S (1010 + i))) - (1 : Int32)).toInt64]) (mc := 0) (ms := 0) dX16_exchange_31 ok_X16_in ⟨ml_X16_50, st_X16_in⟩ rfl (Nat.le_of_ble_eq_true rfl) (by simp) (by omega) (Nat.le_refl _) (Nat.le_refl _) rfl rfl (m_in (x := q) (lo := (0 : Int32)) (hi := ((nI (sc S (1010 + i))) - (1 : Int32))) rfl (by first | rfl | decide) (by first | rfl | decide)) ?_
  refine zs_if_eq (tgt := 70) (n := 37) dX16_exchange_34 (by decide) rfl (fun _ => ?_) (fun h => absurd (zb0.mpr (fIn_no (by omega) hx9)) h)
  refine zs_iconst (v := 0) (n := 71) dX16_exchange_70 (by decide) rfl ?_
  refine zs_istore (n := 73) dX16_exchange_71 (by decide) rfl ?_
  refine zs_aload_n (n := 74) dX16_exchange_73 rfl rfl ?_
  refine zs_iload (n := 76) dX16_exchange_74 rfl rfl ?_
  refine zs_if_ne (tgt := 83) (n := 79) dX16_exchange_76 (by decide) rfl (fun h => absurd (by decide) h) (fun _ => ?_)
  refine zs_iconst (v := 1) (n := 80) dX16_exchange_79 (by decide) rfl ?_
  refine zs_goto (tgt := 95) dX16_exchange_80 (by decide) ?_
  refine zw_i (r := 1001) (n := 98) dX16_exchange_95 pf_X16_exchange_43 hR (lvM h4 (by omega)) (hR.kd (lvM h4 (by omega))) ⟨rfl, rfl⟩ (by decide) rfl ?_
  intro M hR hv
  refine zs_aload_n (n := 99) dX16_exchange_98 rfl rfl ?_
  refine zs_getv (x := (1 : Int32)) (n := 102) dX16_exchange_99 gf_X16_43 (hR.kd (lvM h4 (by omega))) (hR.iv (lvM h4 (by omega)) (by decide) (by decide)) rfl ?_
  refine zs_if_le (tgt := 107) (n := 105) dX16_exchange_102 (by decide) rfl (fun h => absurd h (by decide)) (fun _ => ?_)
  refine zs_iconst (v := 0) (n := 106) dX16_exchange_105 (by decide) rfl ?_
  refine zs_ireturn dX16_exchange_106 ⟨_, rfl, rfl⟩ ?_
  exact hQ _ hR
theorem k_exchange_3 {i t : Nat} {q : Int32} (hR : zRp Z Λ S M) (h4 : sc S 4 = 1) (hi : i < sc S 1000) (ht : t < sc S (1010 + i)) (hx9 : ¬ (¬ q < 0 ∧ ¬ nI (sc S (1010 + i)) ≤ q)) : zG Z l 3 mth_X16_exchange [.ref (Λ 1001), .int (nI i), .int (nI t), .int q] M 0 0 (some (.int 0)) ((zRp Z Λ (mT S 1))) := by
  intro Q hQ
  have hb1 : sc S 1000 ≤ 6 := hR.bnd.2.1.1
  have hb3 := hR.bnd.2.2 i
  show zX Z l 3 mth_X16_exchange 0 [(0, .ref (Λ 1001)), (1, .int (nI i)), (2, .int (nI t)), (3, .int q)] [] M 0 0 Q
  refine zs_aload_n (n := 1) dX16_exchange_0 rfl rfl ?_
  refine zs_iload_n (n := 2) dX16_exchange_1 rfl rfl ?_
  refine zc_V (n := 5) (As := [.int (nI i)]) (ci := 21) (mc := 0) (ms := 0) dX16_exchange_2 ok_X16_isPitch ⟨ml_X16_84, im_X16_isPitch, sl_X16_isPitch⟩ rfl (hR.kd (lvM h4 (by omega))) rfl (Nat.le_of_ble_eq_true rfl) (by simp) (by omega) (Nat.le_refl _) (Nat.le_refl _) rfl rfl (k_isPitch hR h4) ?_
  refine zs_if_eq (tgt := 70) (n := 8) dX16_exchange_5 (by decide) rfl (fun h => absurd h (zb1.mpr (fIn_ix hi (by omega)))) (fun _ => ?_)
  refine zs_iload_n (n := 9) dX16_exchange_8 rfl rfl ?_
  refine zs_i2l (n := 10) dX16_exchange_9 rfl ?_
  refine zs_lconst (v := 0) (n := 11) dX16_exchange_10 (by decide) rfl ?_
  refine zs_aload_n (n := 12) dX16_exchange_11 rfl rfl ?_
  refine zs_getr (b := (Λ 1015)) (n := 15) dX16_exchange_12 gf_X16_10 (hR.kd (lvM h4 (by omega))) (hR.pt (lvM h4 (by omega)) rfl (by decide)) rfl ?_
  refine zs_iload_n (n := 16) dX16_exchange_15 rfl rfl ?_
  refine zc_getb (c := sc S 1000) (b := (Λ (1100 + i))) (n := 19) dX16_exchange_16 ml_X16_94 (hR.lP' h4) hi rfl (by simp) (by omega) rfl ?_
  refine zs_castS (ci := 18) (n := 22) dX16_exchange_19 rfl cl_X16_68 (hR.kP' hi) rfl ?_
  refine zs_getr (b := (Λ (1120 + i))) (n := 25) dX16_exchange_22 gf_X16_164 (hR.kP' hi) (hR.pT' hi) rfl ?_
  refine zc_size (c := sc S (1010 + i)) (n := 28) dX16_exchange_25 ml_X16_46 (hR.lT' hi) (by simp) (by omega) rfl ?_
  refine zs_iconst (v := 1) (n := 29) dX16_exchange_28 (by decide) rfl ?_
  refine zs_isub (n := 30) dX16_exchange_29 rfl ?_
  refine zs_i2l (n := 31) dX16_exchange_30 rfl ?_
  refine zc_S (n := 34) (As := [.long (nI t).toInt64, .long (0 : Int64), .long ((nI (sc S (1010 + i))) - (1 : Int32)).toInt64]) (mc := 0) (ms := 0) dX16_exchange_31 ok_X16_in ⟨ml_X16_50, st_X16_in⟩ rfl (Nat.le_of_ble_eq_true rfl) (by simp) (by omega) (Nat.le_refl _) (Nat.le_refl _) rfl rfl (m_in (x := (nI t)) (lo := (0 : Int32)) (hi := ((nI (sc S (1010 + i))) - (1 : Int32))) rfl (by first | rfl | decide) (by first | rfl | decide)) ?_
  refine zs_if_eq (tgt := 70) (n := 37) dX16_exchange_34 (by decide) rfl (fun h => absurd h (zb1.mpr (fIn_ix ht (by omega)))) (fun _ => ?_)
  refine zs_iload_n (n := 38) dX16_exchange_37 rfl rfl ?_
  refine zs_i2l (n := 39) dX16_exchange_38 rfl ?_
  refine zs_lconst (v := 0) (n := 40) dX16_exchange_39 (by decide) rfl ?_
  refine zs_aload_n (n := 41) dX16_exchange_40 rfl rfl ?_
  refine zs_getr (b := (Λ 1015)) (n := 44) dX16_exchange_41 gf_X16_10 (hR.kd (lvM h4 (by omega))) (hR.pt (lvM h4 (by omega)) rfl (by decide)) rfl ?_
  refine zs_iload_n (n := 45) dX16_exchange_44 rfl rfl ?_
  refine zc_getb (c := sc S 1000) (b := (Λ (1100 + i))) (n := 48) dX16_exchange_45 ml_X16_94 (hR.lP' h4) hi rfl (by simp) (by omega) rfl ?_
  refine zs_castS (ci := 18) (n := 51) dX16_exchange_48 rfl cl_X16_68 (hR.kP' hi) rfl ?_
  refine zs_getr (b := (Λ (1120 + i))) (n := 54) dX16_exchange_51 gf_X16_164 (hR.kP' hi) (hR.pT' hi) rfl ?_
  refine zc_size (c := sc S (1010 + i)) (n := 57) dX16_exchange_54 ml_X16_46 (hR.lT' hi) (by simp) (by omega) rfl ?_
  refine zs_iconst (v := 1) (n := 58) dX16_exchange_57 (by decide) rfl ?_
  refine zs_isub (n := 59) dX16_exchange_58 rfl ?_
  refine zs_i2l (n := 60) dX16_exchange_59 rfl ?_
  refine zc_S (n := 63) (As := [.long q.toInt64, .long (0 : Int64), .long ((nI (sc S (1010 + i))) - (1 : Int32)).toInt64]) (mc := 0) (ms := 0) dX16_exchange_60 ok_X16_in ⟨ml_X16_50, st_X16_in⟩ rfl (Nat.le_of_ble_eq_true rfl) (by simp) (by omega) (Nat.le_refl _) (Nat.le_refl _) rfl rfl (m_in (x := q) (lo := (0 : Int32)) (hi := ((nI (sc S (1010 + i))) - (1 : Int32))) rfl (by first | rfl | decide) (by first | rfl | decide)) ?_
  refine zs_if_eq (tgt := 70) (n := 66) dX16_exchange_63 (by decide) rfl (fun _ => ?_) (fun h => absurd (zb0.mpr (fIn_no (by omega) hx9)) h)
  refine zs_iconst (v := 0) (n := 71) dX16_exchange_70 (by decide) rfl ?_
  refine zs_istore (n := 73) dX16_exchange_71 (by decide) rfl ?_
  refine zs_aload_n (n := 74) dX16_exchange_73 rfl rfl ?_
  refine zs_iload (n := 76) dX16_exchange_74 rfl rfl ?_
  refine zs_if_ne (tgt := 83) (n := 79) dX16_exchange_76 (by decide) rfl (fun h => absurd (by decide) h) (fun _ => ?_)
  refine zs_iconst (v := 1) (n := 80) dX16_exchange_79 (by decide) rfl ?_
  refine zs_goto (tgt := 95) dX16_exchange_80 (by decide) ?_
  refine zw_i (r := 1001) (n := 98) dX16_exchange_95 pf_X16_exchange_43 hR (lvM h4 (by omega)) (hR.kd (lvM h4 (by omega))) ⟨rfl, rfl⟩ (by decide) rfl ?_
  intro M hR hv
  refine zs_aload_n (n := 99) dX16_exchange_98 rfl rfl ?_
  refine zs_getv (x := (1 : Int32)) (n := 102) dX16_exchange_99 gf_X16_43 (hR.kd (lvM h4 (by omega))) (hR.iv (lvM h4 (by omega)) (by decide) (by decide)) rfl ?_
  refine zs_if_le (tgt := 107) (n := 105) dX16_exchange_102 (by decide) rfl (fun h => absurd h (by decide)) (fun _ => ?_)
  refine zs_iconst (v := 0) (n := 106) dX16_exchange_105 (by decide) rfl ?_
  refine zs_ireturn dX16_exchange_106 ⟨_, rfl, rfl⟩ ?_
  exact hQ _ hR
theorem k_exchange_4 {i t o : Nat} (hR : zRp Z Λ S M) (h4 : sc S 4 = 1) (hi : i < sc S 1000) (ht : t < sc S (1010 + i)) (ho : o < sc S (1010 + i)) (hp : ¬ sV S 1001 680 = 0) : zG Z l 3 mth_X16_exchange [.ref (Λ 1001), .int (nI i), .int (nI t), .int (nI o)] M 0 0 (some (.int 0)) ((zRp Z Λ (mT S 2))) := by
  intro Q hQ
  have hb1 : sc S 1000 ≤ 6 := hR.bnd.2.1.1
  have hb3 := hR.bnd.2.2 i
  show zX Z l 3 mth_X16_exchange 0 [(0, .ref (Λ 1001)), (1, .int (nI i)), (2, .int (nI t)), (3, .int (nI o))] [] M 0 0 Q
  refine zs_aload_n (n := 1) dX16_exchange_0 rfl rfl ?_
  refine zs_iload_n (n := 2) dX16_exchange_1 rfl rfl ?_
  refine zc_V (n := 5) (As := [.int (nI i)]) (ci := 21) (mc := 0) (ms := 0) dX16_exchange_2 ok_X16_isPitch ⟨ml_X16_84, im_X16_isPitch, sl_X16_isPitch⟩ rfl (hR.kd (lvM h4 (by omega))) rfl (Nat.le_of_ble_eq_true rfl) (by simp) (by omega) (Nat.le_refl _) (Nat.le_refl _) rfl rfl (k_isPitch hR h4) ?_
  refine zs_if_eq (tgt := 70) (n := 8) dX16_exchange_5 (by decide) rfl (fun h => absurd h (zb1.mpr (fIn_ix hi (by omega)))) (fun _ => ?_)
  refine zs_iload_n (n := 9) dX16_exchange_8 rfl rfl ?_
  refine zs_i2l (n := 10) dX16_exchange_9 rfl ?_
  refine zs_lconst (v := 0) (n := 11) dX16_exchange_10 (by decide) rfl ?_
  refine zs_aload_n (n := 12) dX16_exchange_11 rfl rfl ?_
  refine zs_getr (b := (Λ 1015)) (n := 15) dX16_exchange_12 gf_X16_10 (hR.kd (lvM h4 (by omega))) (hR.pt (lvM h4 (by omega)) rfl (by decide)) rfl ?_
  refine zs_iload_n (n := 16) dX16_exchange_15 rfl rfl ?_
  refine zc_getb (c := sc S 1000) (b := (Λ (1100 + i))) (n := 19) dX16_exchange_16 ml_X16_94 (hR.lP' h4) hi rfl (by simp) (by omega) rfl ?_
  refine zs_castS (ci := 18) (n := 22) dX16_exchange_19 rfl cl_X16_68 (hR.kP' hi) rfl ?_
  refine zs_getr (b := (Λ (1120 + i))) (n := 25) dX16_exchange_22 gf_X16_164 (hR.kP' hi) (hR.pT' hi) rfl ?_
  refine zc_size (c := sc S (1010 + i)) (n := 28) dX16_exchange_25 ml_X16_46 (hR.lT' hi) (by simp) (by omega) rfl ?_
  refine zs_iconst (v := 1) (n := 29) dX16_exchange_28 (by decide) rfl ?_
  refine zs_isub (n := 30) dX16_exchange_29 rfl ?_
  refine zs_i2l (n := 31) dX16_exchange_30 rfl ?_
  refine zc_S (n := 34) (As := [.long (nI t).toInt64, .long (0 : Int64), .long ((nI (sc S (1010 + i))) - (1 : Int32)).toInt64]) (mc := 0) (ms := 0) dX16_exchange_31 ok_X16_in ⟨ml_X16_50, st_X16_in⟩ rfl (Nat.le_of_ble_eq_true rfl) (by simp) (by omega) (Nat.le_refl _) (Nat.le_refl _) rfl rfl (m_in (x := (nI t)) (lo := (0 : Int32)) (hi := ((nI (sc S (1010 + i))) - (1 : Int32))) rfl (by first | rfl | decide) (by first | rfl | decide)) ?_
  refine zs_if_eq (tgt := 70) (n := 37) dX16_exchange_34 (by decide) rfl (fun h => absurd h (zb1.mpr (fIn_ix ht (by omega)))) (fun _ => ?_)
  refine zs_iload_n (n := 38) dX16_exchange_37 rfl rfl ?_
  refine zs_i2l (n := 39) dX16_exchange_38 rfl ?_
  refine zs_lconst (v := 0) (n := 40) dX16_exchange_39 (by decide) rfl ?_
  refine zs_aload_n (n := 41) dX16_exchange_40 rfl rfl ?_
  refine zs_getr (b := (Λ 1015)) (n := 44) dX16_exchange_41 gf_X16_10 (hR.kd (lvM h4 (by omega))) (hR.pt (lvM h4 (by omega)) rfl (by decide)) rfl ?_
  refine zs_iload_n (n := 45) dX16_exchange_44 rfl rfl ?_
  refine zc_getb (c := sc S 1000) (b := (Λ (1100 + i))) (n := 48) dX16_exchange_45 ml_X16_94 (hR.lP' h4) hi rfl (by simp) (by omega) rfl ?_
  refine zs_castS (ci := 18) (n := 51) dX16_exchange_48 rfl cl_X16_68 (hR.kP' hi) rfl ?_
  refine zs_getr (b := (Λ (1120 + i))) (n := 54) dX16_exchange_51 gf_X16_164 (hR.kP' hi) (hR.pT' hi) rfl ?_
  refine zc_size (c := sc S (1010 + i)) (n := 57) dX16_exchange_54 ml_X16_46 (hR.lT' hi) (by simp) (by omega) rfl ?_
  refine zs_iconst (v := 1) (n := 58) dX16_exchange_57 (by decide) rfl ?_
  refine zs_isub (n := 59) dX16_exchange_58 rfl ?_
  refine zs_i2l (n := 60) dX16_exchange_59 rfl ?_
  refine zc_S (n := 63) (As := [.long (nI o).toInt64, .long (0 : Int64), .long ((nI (sc S (1010 + i))) - (1 : Int32)).toInt64]) (mc := 0) (ms := 0) dX16_exchange_60 ok_X16_in ⟨ml_X16_50, st_X16_in⟩ rfl (Nat.le_of_ble_eq_true rfl) (by simp) (by omega) (Nat.le_refl _) (Nat.le_refl _) rfl rfl (m_in (x := (nI o)) (lo := (0 : Int32)) (hi := ((nI (sc S (1010 + i))) - (1 : Int32))) rfl (by first | rfl | decide) (by first | rfl | decide)) ?_
  refine zs_if_eq (tgt := 70) (n := 66) dX16_exchange_63 (by decide) rfl (fun h => absurd h (zb1.mpr (fIn_ix ho (by omega)))) (fun _ => ?_)
  refine zs_iconst (v := 1) (n := 67) dX16_exchange_66 (by decide) rfl ?_
  refine zs_goto (tgt := 71) dX16_exchange_67 (by decide) ?_
  refine zs_istore (n := 73) dX16_exchange_71 (by decide) rfl ?_
  refine zs_aload_n (n := 74) dX16_exchange_73 rfl rfl ?_
  refine zs_iload (n := 76) dX16_exchange_74 rfl rfl ?_
  refine zs_if_ne (tgt := 83) (n := 79) dX16_exchange_76 (by decide) rfl (fun _ => ?_) (fun h => absurd h (by decide))
  refine zs_aload_n (n := 84) dX16_exchange_83 rfl rfl ?_
  refine zs_getv (x := (sV S 1001 680)) (n := 87) dX16_exchange_84 gf_X16_161 (hR.kd (lvM h4 (by omega))) (hR.iv (lvM h4 (by omega)) (by decide) (by decide)) rfl ?_
  refine zs_if_eq (tgt := 94) (n := 90) dX16_exchange_87 (by decide) rfl (fun h => absurd h hp) (fun _ => ?_)
  refine zs_iconst (v := 2) (n := 91) dX16_exchange_90 (by decide) rfl ?_
  refine zs_goto (tgt := 95) dX16_exchange_91 (by decide) ?_
  refine zw_i (r := 1001) (n := 98) dX16_exchange_95 pf_X16_exchange_43 hR (lvM h4 (by omega)) (hR.kd (lvM h4 (by omega))) ⟨rfl, rfl⟩ (by decide) rfl ?_
  intro M hR hv
  refine zs_aload_n (n := 99) dX16_exchange_98 rfl rfl ?_
  refine zs_getv (x := (2 : Int32)) (n := 102) dX16_exchange_99 gf_X16_43 (hR.kd (lvM h4 (by omega))) (hR.iv (lvM h4 (by omega)) (by decide) (by decide)) rfl ?_
  refine zs_if_le (tgt := 107) (n := 105) dX16_exchange_102 (by decide) rfl (fun h => absurd h (by decide)) (fun _ => ?_)
  refine zs_iconst (v := 0) (n := 106) dX16_exchange_105 (by decide) rfl ?_
  refine zs_ireturn dX16_exchange_106 ⟨_, rfl, rfl⟩ ?_
  exact hQ _ hR
theorem k_exchange_5 {i t o : Nat} {A : Nat → Nat} (hR : zRp Z Λ S M) (h4 : sc S 4 = 1) (hi : i < sc S 1000) (ht : t < sc S (1010 + i)) (ho : o < sc S (1010 + i)) (hp : sV S 1001 680 = 0) (hA : ∀ k, k < sc S (1010 + i) → sV S (1160 + 8 * i + k) 608 = nI (A k) ∧ A k < 8) (hbad : fBd1 S (fun y => A (zsw t o y)) (sc S (1010 + i)) (sc S (1010 + i)) = true) : zG Z l 4 mth_X16_exchange [.ref (Λ 1001), .int (nI i), .int (nI t), .int (nI o)] M 3 19 (some (.int 0)) ((zRp Z Λ (mT (mT S 0) 3))) := by
  intro Q hQ
  have hb1 : sc S 1000 ≤ 6 := hR.bnd.2.1.1
  have hb3 := hR.bnd.2.2 i
  show zX Z l 4 mth_X16_exchange 0 [(0, .ref (Λ 1001)), (1, .int (nI i)), (2, .int (nI t)), (3, .int (nI o))] [] M 3 19 Q
  refine zs_aload_n (n := 1) dX16_exchange_0 rfl rfl ?_
  refine zs_iload_n (n := 2) dX16_exchange_1 rfl rfl ?_
  refine zc_V (n := 5) (As := [.int (nI i)]) (ci := 21) (mc := 0) (ms := 0) dX16_exchange_2 ok_X16_isPitch ⟨ml_X16_84, im_X16_isPitch, sl_X16_isPitch⟩ rfl (hR.kd (lvM h4 (by omega))) rfl (Nat.le_of_ble_eq_true rfl) (by simp) (by omega) (Nat.le_refl _) (Nat.le_refl _) rfl rfl (k_isPitch hR h4) ?_
  refine zs_if_eq (tgt := 70) (n := 8) dX16_exchange_5 (by decide) rfl (fun h => absurd h (zb1.mpr (fIn_ix hi (by omega)))) (fun _ => ?_)
  refine zs_iload_n (n := 9) dX16_exchange_8 rfl rfl ?_
  refine zs_i2l (n := 10) dX16_exchange_9 rfl ?_
  refine zs_lconst (v := 0) (n := 11) dX16_exchange_10 (by decide) rfl ?_
  refine zs_aload_n (n := 12) dX16_exchange_11 rfl rfl ?_
  refine zs_getr (b := (Λ 1015)) (n := 15) dX16_exchange_12 gf_X16_10 (hR.kd (lvM h4 (by omega))) (hR.pt (lvM h4 (by omega)) rfl (by decide)) rfl ?_
  refine zs_iload_n (n := 16) dX16_exchange_15 rfl rfl ?_
  refine zc_getb (c := sc S 1000) (b := (Λ (1100 + i))) (n := 19) dX16_exchange_16 ml_X16_94 (hR.lP' h4) hi rfl (by simp) (by omega) rfl ?_
  refine zs_castS (ci := 18) (n := 22) dX16_exchange_19 rfl cl_X16_68 (hR.kP' hi) rfl ?_
  refine zs_getr (b := (Λ (1120 + i))) (n := 25) dX16_exchange_22 gf_X16_164 (hR.kP' hi) (hR.pT' hi) rfl ?_
  refine zc_size (c := sc S (1010 + i)) (n := 28) dX16_exchange_25 ml_X16_46 (hR.lT' hi) (by simp) (by omega) rfl ?_
  refine zs_iconst (v := 1) (n := 29) dX16_exchange_28 (by decide) rfl ?_
  refine zs_isub (n := 30) dX16_exchange_29 rfl ?_
  refine zs_i2l (n := 31) dX16_exchange_30 rfl ?_
  refine zc_S (n := 34) (As := [.long (nI t).toInt64, .long (0 : Int64), .long ((nI (sc S (1010 + i))) - (1 : Int32)).toInt64]) (mc := 0) (ms := 0) dX16_exchange_31 ok_X16_in ⟨ml_X16_50, st_X16_in⟩ rfl (Nat.le_of_ble_eq_true rfl) (by simp) (by omega) (Nat.le_refl _) (Nat.le_refl _) rfl rfl (m_in (x := (nI t)) (lo := (0 : Int32)) (hi := ((nI (sc S (1010 + i))) - (1 : Int32))) rfl (by first | rfl | decide) (by first | rfl | decide)) ?_
  refine zs_if_eq (tgt := 70) (n := 37) dX16_exchange_34 (by decide) rfl (fun h => absurd h (zb1.mpr (fIn_ix ht (by omega)))) (fun _ => ?_)
  refine zs_iload_n (n := 38) dX16_exchange_37 rfl rfl ?_
  refine zs_i2l (n := 39) dX16_exchange_38 rfl ?_
  refine zs_lconst (v := 0) (n := 40) dX16_exchange_39 (by decide) rfl ?_
  refine zs_aload_n (n := 41) dX16_exchange_40 rfl rfl ?_
  refine zs_getr (b := (Λ 1015)) (n := 44) dX16_exchange_41 gf_X16_10 (hR.kd (lvM h4 (by omega))) (hR.pt (lvM h4 (by omega)) rfl (by decide)) rfl ?_
  refine zs_iload_n (n := 45) dX16_exchange_44 rfl rfl ?_
  refine zc_getb (c := sc S 1000) (b := (Λ (1100 + i))) (n := 48) dX16_exchange_45 ml_X16_94 (hR.lP' h4) hi rfl (by simp) (by omega) rfl ?_
  refine zs_castS (ci := 18) (n := 51) dX16_exchange_48 rfl cl_X16_68 (hR.kP' hi) rfl ?_
  refine zs_getr (b := (Λ (1120 + i))) (n := 54) dX16_exchange_51 gf_X16_164 (hR.kP' hi) (hR.pT' hi) rfl ?_
  refine zc_size (c := sc S (1010 + i)) (n := 57) dX16_exchange_54 ml_X16_46 (hR.lT' hi) (by simp) (by omega) rfl ?_
  refine zs_iconst (v := 1) (n := 58) dX16_exchange_57 (by decide) rfl ?_
  refine zs_isub (n := 59) dX16_exchange_58 rfl ?_
  refine zs_i2l (n := 60) dX16_exchange_59 rfl ?_
  refine zc_S (n := 63) (As := [.long (nI o).toInt64, .long (0 : Int64), .long ((nI (sc S (1010 + i))) - (1 : Int32)).toInt64]) (mc := 0) (ms := 0) dX16_exchange_60 ok_X16_in ⟨ml_X16_50, st_X16_in⟩ rfl (Nat.le_of_ble_eq_true rfl) (by simp) (by omega) (Nat.le_refl _) (Nat.le_refl _) rfl rfl (m_in (x := (nI o)) (lo := (0 : Int32)) (hi := ((nI (sc S (1010 + i))) - (1 : Int32))) rfl (by first | rfl | decide) (by first | rfl | decide)) ?_
  refine zs_if_eq (tgt := 70) (n := 66) dX16_exchange_63 (by decide) rfl (fun h => absurd h (zb1.mpr (fIn_ix ho (by omega)))) (fun _ => ?_)
  refine zs_iconst (v := 1) (n := 67) dX16_exchange_66 (by decide) rfl ?_
  refine zs_goto (tgt := 71) dX16_exchange_67 (by decide) ?_
  refine zs_istore (n := 73) dX16_exchange_71 (by decide) rfl ?_
  refine zs_aload_n (n := 74) dX16_exchange_73 rfl rfl ?_
  refine zs_iload (n := 76) dX16_exchange_74 rfl rfl ?_
  refine zs_if_ne (tgt := 83) (n := 79) dX16_exchange_76 (by decide) rfl (fun _ => ?_) (fun h => absurd h (by decide))
  refine zs_aload_n (n := 84) dX16_exchange_83 rfl rfl ?_
  refine zs_getv (x := (sV S 1001 680)) (n := 87) dX16_exchange_84 gf_X16_161 (hR.kd (lvM h4 (by omega))) (hR.iv (lvM h4 (by omega)) (by decide) (by decide)) rfl ?_
  refine zs_if_eq (tgt := 94) (n := 90) dX16_exchange_87 (by decide) rfl (fun _ => ?_) (fun h => absurd hp h)
  refine zs_iconst (v := 0) (n := 95) dX16_exchange_94 (by decide) rfl ?_
  refine zw_i (r := 1001) (n := 98) dX16_exchange_95 pf_X16_exchange_43 hR (lvM h4 (by omega)) (hR.kd (lvM h4 (by omega))) ⟨rfl, rfl⟩ (by decide) rfl ?_
  intro M hR hv
  refine zs_aload_n (n := 99) dX16_exchange_98 rfl rfl ?_
  refine zs_getv (x := (0 : Int32)) (n := 102) dX16_exchange_99 gf_X16_43 (hR.kd (lvM h4 (by omega))) (hR.iv (lvM h4 (by omega)) (by decide) (by decide)) rfl ?_
  refine zs_if_le (tgt := 107) (n := 105) dX16_exchange_102 (by decide) rfl (fun _ => ?_) (fun h => absurd (by decide) h)
  refine zs_new (kind := 14) (N := 3) (nc1 := 2) (ns1 := 16) (n := 110) 3000 dX16_exchange_107 nc_X16_7 rfl (by omega) (by omega) (fun q hq => ?_)
  have hR := hR.new0 (kind := 14) (len := 0) (g := 3000) hq
  have htq : zTmp (zNew M q 14 0 3000) q 3000 := ⟨by decide, u1_at, by rw [zNew_Kq]; decide⟩
  have hkq : mK (zNew M q 14 0 3000) q = 14 := zNew_Kq
  revert hR htq hkq
  generalize zNew M q 14 0 3000 = M
  intro hR htq hkq
  refine zs_dup (n := 111) dX16_exchange_110 rfl rfl ?_
  refine zs_aload_n (n := 112) dX16_exchange_111 rfl rfl ?_
  refine zs_getr (b := (Λ 1015)) (n := 115) dX16_exchange_112 gf_X16_10 (hR.kd (lvM h4 (by omega))) (hR.pt (lvM h4 (by omega)) rfl (by decide)) rfl ?_
  refine zs_iload_n (n := 116) dX16_exchange_115 rfl rfl ?_
  refine zc_getb (c := sc S 1000) (b := (Λ (1100 + i))) (n := 119) dX16_exchange_116 ml_X16_94 (hR.lP' h4) hi rfl (by simp) (by omega) rfl ?_
  refine zs_castS (ci := 18) (n := 122) dX16_exchange_119 rfl cl_X16_68 (hR.kP' hi) rfl ?_
  refine zs_getr (b := (Λ (1120 + i))) (n := 125) dX16_exchange_122 gf_X16_164 (hR.kP' hi) (hR.pT' hi) rfl ?_
  refine zt_cinit (ci := 19) (f := fun k => Λ (1160 + 8 * i + k)) (nc1 := 1) (ns1 := 8) (n := sc S (1010 + i)) (j := 128) dX16_exchange_125 ml_X16_178 hR htq hkq (hR.lT' hi) (hR.nt htq (lvT' hi)) (by omega) rfl co_X14 (fun k hk => hR.kK' hi hk) (by decide) (by simp) (by omega) (by omega) (by omega) rfl (fun M hR hT hf9 => ?_)
  refine zs_astore (n := 130) dX16_exchange_128 (by decide) rfl ?_
  refine zs_aload (n := 132) dX16_exchange_130 rfl rfl ?_
  refine zs_iload_n (n := 133) dX16_exchange_132 rfl rfl ?_
  refine zt_get2 (n := 136) dX16_exchange_133 ml_X16_94 hT ht (by simp) (by omega) rfl ?_
  refine zs_castS (ci := 19) (n := 139) dX16_exchange_136 rfl cl_X16_167 (hR.kK' hi ht) rfl ?_
  refine zs_astore (n := 141) dX16_exchange_139 (by decide) rfl ?_
  refine zs_aload (n := 143) dX16_exchange_141 rfl rfl ?_
  refine zs_iload_n (n := 144) dX16_exchange_143 rfl rfl ?_
  refine zs_aload (n := 146) dX16_exchange_144 rfl rfl ?_
  refine zt_set (ci := 19) (n := 149) dX16_exchange_146 ml_X16_181 hR hT ho (hR.kK' hi ht) rfl co_X14 (by simp) (by omega) rfl (fun M hR hT hk9 => ?_)
  refine zs_castS (ci := 19) (n := 152) dX16_exchange_149 rfl cl_X16_167 (hR.kK' hi ho) rfl ?_
  refine zs_astore (n := 154) dX16_exchange_152 (by decide) rfl ?_
  refine zs_aload (n := 156) dX16_exchange_154 rfl rfl ?_
  refine zs_iload_n (n := 157) dX16_exchange_156 rfl rfl ?_
  refine zs_aload (n := 159) dX16_exchange_157 rfl rfl ?_
  refine zt_set (ci := 19) (n := 162) dX16_exchange_159 ml_X16_181 hR hT ht (hR.kK' hi ho) rfl co_X14 (by simp) (by omega) rfl (fun M hR hT hk9 => ?_)
  rw [show (if t = o then Λ (1160 + 8 * i + t) else Λ (1160 + 8 * i + t)) = Λ (1160 + 8 * i + t) from by split <;> rfl]
  have hT := zTt.ext hT (f' := fun k => Λ (1160 + 8 * i + zsw t o k)) (fun k _ => zsw_f)
  refine zs_castS (ci := 19) (n := 165) dX16_exchange_162 rfl cl_X16_167 (hR.kK' hi ht) rfl ?_
  refine zs_astore (n := 167) dX16_exchange_165 (by decide) rfl ?_
  refine zs_iconst (v := 0) (n := 168) dX16_exchange_167 (by decide) rfl ?_
  refine zs_istore (n := 170) dX16_exchange_168 (by decide) rfl ?_
  refine zs_iconst (v := 0) (n := 171) dX16_exchange_170 (by decide) rfl ?_
  refine zs_istore (n := 173) dX16_exchange_171 (by decide) rfl ?_
  refine zX.sub (L' := [(0, .ref (Λ 1001)), (1, .int (nI i)), (2, .int (nI t)), (3, .int (nI o)), (5, .ref q), (6, .ref (Λ (1160 + 8 * i + t))), (7, .ref (Λ (1160 + 8 * i + o))), (9, .int (zb (fBd1 S (fun y => A (zsw t o y)) (sc S (1010 + i)) 0))), (10, .int (nI 0))]) ⟨rfl, rfl, rfl, rfl, rfl, rfl, rfl, rfl, rfl, trivial⟩ ?_
  refine zloop (n := sc S (1010 + i)) (X := fun k => zX Z l 4 mth_X16_exchange 173 [(0, .ref (Λ 1001)), (1, .int (nI i)), (2, .int (nI t)), (3, .int (nI o)), (5, .ref q), (6, .ref (Λ (1160 + 8 * i + t))), (7, .ref (Λ (1160 + 8 * i + o))), (9, .int (zb (fBd1 S (fun y => A (zsw t o y)) (sc S (1010 + i)) k))), (10, .int (nI k))] [] M 1 8 Q) (fun k hk ih => ?_) ?_ 0 (Nat.zero_le _)
  · refine zs_iload (n := 175) dX16_exchange_173 rfl rfl ?_
    refine zs_aload (n := 177) dX16_exchange_175 rfl rfl ?_
    refine zt_size2 (n := 180) dX16_exchange_177 ml_X16_46 hT (by simp) (by omega) rfl ?_
    refine zs_icmp_ge (tgt := 258) (n := 183) dX16_exchange_180 (by decide) rfl (fun h => absurd h (nI_ge hk (by omega))) (fun _ => ?_)
    refine zs_iload (n := 185) dX16_exchange_183 rfl rfl ?_
    refine zs_iconst (v := 1) (n := 186) dX16_exchange_185 (by decide) rfl ?_
    refine zs_iadd (n := 187) dX16_exchange_186 rfl ?_
    rw [nI_1]
    refine zs_istore (n := 189) dX16_exchange_187 (by decide) rfl ?_
    refine zX.sub (L' := [(0, .ref (Λ 1001)), (1, .int (nI i)), (2, .int (nI t)), (3, .int (nI o)), (5, .ref q), (6, .ref (Λ (1160 + 8 * i + t))), (7, .ref (Λ (1160 + 8 * i + o))), (9, .int (zb (fBd2 S (fun y => A (zsw t o y)) k 0 (fBd1 S (fun y => A (zsw t o y)) (sc S (1010 + i)) k)))), (10, .int (nI k)), (11, .int (nI (k + 1 + 0)))]) ⟨rfl, rfl, rfl, rfl, rfl, rfl, rfl, rfl, rfl, rfl, trivial⟩ ?_
    refine zloop (n := (sc S (1010 + i) - (k + 1))) (X := fun x => zX Z l 4 mth_X16_exchange 189 [(0, .ref (Λ 1001)), (1, .int (nI i)), (2, .int (nI t)), (3, .int (nI o)), (5, .ref q), (6, .ref (Λ (1160 + 8 * i + t))), (7, .ref (Λ (1160 + 8 * i + o))), (9, .int (zb (fBd2 S (fun y => A (zsw t o y)) k x (fBd1 S (fun y => A (zsw t o y)) (sc S (1010 + i)) k)))), (10, .int (nI k)), (11, .int (nI (k + 1 + x)))] [] M 1 8 Q) (fun x hx ihx => ?_) ?_ 0 (Nat.zero_le _)
    · refine zs_iload (n := 191) dX16_exchange_189 rfl rfl ?_
      refine zs_aload (n := 193) dX16_exchange_191 rfl rfl ?_
      refine zt_size2 (n := 196) dX16_exchange_193 ml_X16_46 hT (by simp) (by omega) rfl ?_
      refine zs_icmp_ge (tgt := 252) (n := 199) dX16_exchange_196 (by decide) rfl (fun h => absurd h (nI_ge (show k + 1 + x < sc S (1010 + i) by omega) (by omega))) (fun _ => ?_)
      refine zs_iload (n := 201) dX16_exchange_199 rfl rfl ?_
      refine zs_if_ne (tgt := 239) (n := 204) dX16_exchange_201 (by decide) rfl (fun h201 => ?_) (fun h201 => ?_)
      · refine zs_iconst (v := 1) (n := 240) dX16_exchange_239 (by decide) rfl ?_
        refine zs_goto (tgt := 244) dX16_exchange_240 (by decide) ?_
        refine zs_istore (n := 246) dX16_exchange_244 (by decide) rfl ?_
        refine zs_iinc (v := (nI ((k + 1 + x) + 1))) (n := 249) dX16_exchange_246 rfl (nI_1 _) (by decide) rfl ?_
        refine zs_goto (tgt := 189) dX16_exchange_249 (by decide) ?_
        refine zX.sub (L' := [(0, .ref (Λ 1001)), (1, .int (nI i)), (2, .int (nI t)), (3, .int (nI o)), (5, .ref q), (6, .ref (Λ (1160 + 8 * i + t))), (7, .ref (Λ (1160 + 8 * i + o))), (9, .int (zb (fBd2 S (fun y => A (zsw t o y)) k (x + 1) (fBd1 S (fun y => A (zsw t o y)) (sc S (1010 + i)) k)))), (10, .int (nI k)), (11, .int (nI (k + 1 + (x + 1))))]) ⟨rfl, rfl, rfl, rfl, rfl, rfl, rfl, (show some (Value.int (1 : Int32)) = some (Value.int (zb (fBd2 S (fun y => A (zsw t o y)) k (x + 1) (fBd1 S (fun y => A (zsw t o y)) (sc S (1010 + i)) k)))) from congrArg (fun z => some (Value.int z)) (by rw [show fBd2 S (fun y => A (zsw t o y)) k (x + 1) (fBd1 S (fun y => A (zsw t o y)) (sc S (1010 + i)) k) = (fBd2 S (fun y => A (zsw t o y)) k x (fBd1 S (fun y => A (zsw t o y)) (sc S (1010 + i)) k) || !decide (sW S (1030 + A (zsw t o (k + 1 + x))) (A (zsw t o k)) = 0)) from rfl]; cases h9 : fBd2 S (fun y => A (zsw t o y)) k x (fBd1 S (fun y => A (zsw t o y)) (sc S (1010 + i)) k) <;> simp_all [zb])), rfl, rfl, trivial⟩ ?_
        exact ihx
      · refine zs_aload_n (n := 205) dX16_exchange_204 rfl rfl ?_
        refine zs_getr (b := (Λ 1025)) (n := 208) dX16_exchange_205 gf_X16_30 (hR.kd (lvM h4 (by omega))) (hR.pt (lvM h4 (by omega)) rfl (by decide)) rfl ?_
        refine zs_aload (n := 210) dX16_exchange_208 rfl rfl ?_
        refine zs_iload (n := 212) dX16_exchange_210 rfl rfl ?_
        have hz1 : zsw t o (k + 1 + x) < sc S (1010 + i) := zsw_lt ht ho (by omega)
        refine zt_get2 (n := 215) dX16_exchange_212 ml_X16_94 hT (by omega) (by simp) (by omega) rfl ?_
        refine zs_castS (ci := 19) (n := 218) dX16_exchange_215 rfl cl_X16_167 (hR.kK' hi hz1) rfl ?_
        refine zs_getv (x := (sV S (1160 + 8 * i + (zsw t o (k + 1 + x))) 608)) (n := 221) dX16_exchange_218 gf_X16_169 (hR.kK' hi hz1) (hR.iv (lvK' hi hz1) (by decide) (by decide)) rfl ?_
        rw [(hA _ hz1).1]
        have hz1a := (hA _ hz1).2
        refine zs_aald (b := (Λ (1030 + (A (zsw t o (k + 1 + x)))))) (n := 222) dX16_exchange_221 (Or.inr (hR.kd (lvM h4 (by omega)))) (by rw [show mN M (Λ 1025) = 8 from (hR.ln (lvM h4 (by omega)) rfl (by decide))]; exact vp_in_nI (hA _ hz1).2 (by omega)) (by rw [nI_clamp (by omega)]; exact hR.cus h4 (hA _ hz1).2) rfl ?_
        refine zs_aload (n := 224) dX16_exchange_222 rfl rfl ?_
        refine zs_iload (n := 226) dX16_exchange_224 rfl rfl ?_
        have hz2 : zsw t o (k) < sc S (1010 + i) := zsw_lt ht ho (by omega)
        refine zt_get2 (n := 229) dX16_exchange_226 ml_X16_94 hT (by omega) (by simp) (by omega) rfl ?_
        refine zs_castS (ci := 19) (n := 232) dX16_exchange_229 rfl cl_X16_167 (hR.kK' hi hz2) rfl ?_
        refine zs_getv (x := (sV S (1160 + 8 * i + (zsw t o (k))) 608)) (n := 235) dX16_exchange_232 gf_X16_169 (hR.kK' hi hz2) (hR.iv (lvK' hi hz2) (by decide) (by decide)) rfl ?_
        rw [(hA _ hz2).1]
        have hz2a := (hA _ hz2).2
        refine zs_zaldv (x := (sW S (1030 + (A (zsw t o (k + 1 + x)))) (A (zsw t o (k))))) (n := 236) dX16_exchange_235 (hR.kC h4 (hA _ hz1).2) (by rw [show mN M (Λ (1030 + (A (zsw t o (k + 1 + x))))) = 8 from (hR.nC h4 (hA _ hz1).2)]; exact vp_in_nI (hA _ hz2).2 (by omega)) (by rw [nI_clamp (by omega)]; exact hR.av (lvM h4 (by omega))) rfl ?_
        refine zs_if_eq (tgt := 243) (n := 239) dX16_exchange_236 (by decide) rfl (fun h236 => ?_) (fun h236 => ?_)
        · refine zs_iconst (v := 0) (n := 244) dX16_exchange_243 (by decide) rfl ?_
          refine zs_istore (n := 246) dX16_exchange_244 (by decide) rfl ?_
          refine zs_iinc (v := (nI ((k + 1 + x) + 1))) (n := 249) dX16_exchange_246 rfl (nI_1 _) (by decide) rfl ?_
          refine zs_goto (tgt := 189) dX16_exchange_249 (by decide) ?_
          refine zX.sub (L' := [(0, .ref (Λ 1001)), (1, .int (nI i)), (2, .int (nI t)), (3, .int (nI o)), (5, .ref q), (6, .ref (Λ (1160 + 8 * i + t))), (7, .ref (Λ (1160 + 8 * i + o))), (9, .int (zb (fBd2 S (fun y => A (zsw t o y)) k (x + 1) (fBd1 S (fun y => A (zsw t o y)) (sc S (1010 + i)) k)))), (10, .int (nI k)), (11, .int (nI (k + 1 + (x + 1))))]) ⟨rfl, rfl, rfl, rfl, rfl, rfl, rfl, (show some (Value.int (0 : Int32)) = some (Value.int (zb (fBd2 S (fun y => A (zsw t o y)) k (x + 1) (fBd1 S (fun y => A (zsw t o y)) (sc S (1010 + i)) k)))) from congrArg (fun z => some (Value.int z)) (by rw [show fBd2 S (fun y => A (zsw t o y)) k (x + 1) (fBd1 S (fun y => A (zsw t o y)) (sc S (1010 + i)) k) = (fBd2 S (fun y => A (zsw t o y)) k x (fBd1 S (fun y => A (zsw t o y)) (sc S (1010 + i)) k) || !decide (sW S (1030 + A (zsw t o (k + 1 + x))) (A (zsw t o k)) = 0)) from rfl]; cases h9 : fBd2 S (fun y => A (zsw t o y)) k x (fBd1 S (fun y => A (zsw t o y)) (sc S (1010 + i)) k) <;> simp_all [zb])), rfl, rfl, trivial⟩ ?_
          exact ihx
        · refine zs_iconst (v := 1) (n := 240) dX16_exchange_239 (by decide) rfl ?_
          refine zs_goto (tgt := 244) dX16_exchange_240 (by decide) ?_
          refine zs_istore (n := 246) dX16_exchange_244 (by decide) rfl ?_
          refine zs_iinc (v := (nI ((k + 1 + x) + 1))) (n := 249) dX16_exchange_246 rfl (nI_1 _) (by decide) rfl ?_
          refine zs_goto (tgt := 189) dX16_exchange_249 (by decide) ?_
          refine zX.sub (L' := [(0, .ref (Λ 1001)), (1, .int (nI i)), (2, .int (nI t)), (3, .int (nI o)), (5, .ref q), (6, .ref (Λ (1160 + 8 * i + t))), (7, .ref (Λ (1160 + 8 * i + o))), (9, .int (zb (fBd2 S (fun y => A (zsw t o y)) k (x + 1) (fBd1 S (fun y => A (zsw t o y)) (sc S (1010 + i)) k)))), (10, .int (nI k)), (11, .int (nI (k + 1 + (x + 1))))]) ⟨rfl, rfl, rfl, rfl, rfl, rfl, rfl, (show some (Value.int (1 : Int32)) = some (Value.int (zb (fBd2 S (fun y => A (zsw t o y)) k (x + 1) (fBd1 S (fun y => A (zsw t o y)) (sc S (1010 + i)) k)))) from congrArg (fun z => some (Value.int z)) (by rw [show fBd2 S (fun y => A (zsw t o y)) k (x + 1) (fBd1 S (fun y => A (zsw t o y)) (sc S (1010 + i)) k) = (fBd2 S (fun y => A (zsw t o y)) k x (fBd1 S (fun y => A (zsw t o y)) (sc S (1010 + i)) k) || !decide (sW S (1030 + A (zsw t o (k + 1 + x))) (A (zsw t o k)) = 0)) from rfl]; cases h9 : fBd2 S (fun y => A (zsw t o y)) k x (fBd1 S (fun y => A (zsw t o y)) (sc S (1010 + i)) k) <;> simp_all [zb])), rfl, rfl, trivial⟩ ?_
          exact ihx
    · refine zs_iload (n := 191) dX16_exchange_189 rfl rfl ?_
      refine zs_aload (n := 193) dX16_exchange_191 rfl rfl ?_
      refine zt_size2 (n := 196) dX16_exchange_193 ml_X16_46 hT (by simp) (by omega) rfl ?_
      refine zs_icmp_ge (tgt := 252) (n := 199) dX16_exchange_196 (by decide) rfl (fun _ => ?_) (fun h => absurd (nI_le (show sc S (1010 + i) ≤ k + 1 + (sc S (1010 + i) - (k + 1)) by omega) (by omega)) h)
      refine zs_iinc (v := (nI (k + 1))) (n := 255) dX16_exchange_252 rfl (nI_1 _) (by decide) rfl ?_
      refine zs_goto (tgt := 173) dX16_exchange_255 (by decide) ?_
      refine zX.sub (L' := [(0, .ref (Λ 1001)), (1, .int (nI i)), (2, .int (nI t)), (3, .int (nI o)), (5, .ref q), (6, .ref (Λ (1160 + 8 * i + t))), (7, .ref (Λ (1160 + 8 * i + o))), (9, .int (zb (fBd1 S (fun y => A (zsw t o y)) (sc S (1010 + i)) (k + 1)))), (10, .int (nI (k + 1)))]) ⟨rfl, rfl, rfl, rfl, rfl, rfl, rfl, rfl, rfl, trivial⟩ ?_
      exact ih
  · refine zs_iload (n := 175) dX16_exchange_173 rfl rfl ?_
    refine zs_aload (n := 177) dX16_exchange_175 rfl rfl ?_
    refine zt_size2 (n := 180) dX16_exchange_177 ml_X16_46 hT (by simp) (by omega) rfl ?_
    refine zs_icmp_ge (tgt := 258) (n := 183) dX16_exchange_180 (by decide) rfl (fun _ => ?_) (fun h => absurd (nI_le (Nat.le_refl _) (by omega)) h)
    refine zs_aload_n (n := 259) dX16_exchange_258 rfl rfl ?_
    refine zs_iload (n := 261) dX16_exchange_259 rfl rfl ?_
    refine zs_if_eq (tgt := 268) (n := 264) dX16_exchange_261 (by decide) rfl (fun h => absurd h (zb1.mpr hbad)) (fun _ => ?_)
    refine zs_iconst (v := 3) (n := 265) dX16_exchange_264 (by decide) rfl ?_
    refine zs_goto (tgt := 269) dX16_exchange_265 (by decide) ?_
    refine zw_i (r := 1001) (n := 272) dX16_exchange_269 pf_X16_exchange_43 hR (lvM h4 (by omega)) (hR.kd (lvM h4 (by omega))) ⟨rfl, rfl⟩ (by decide) rfl ?_
    intro M hR hv
    refine zs_aload_n (n := 273) dX16_exchange_272 rfl rfl ?_
    refine zs_getv (x := (3 : Int32)) (n := 276) dX16_exchange_273 gf_X16_43 (hR.kd (lvM h4 (by omega))) (hR.iv (lvM h4 (by omega)) (by decide) (by decide)) rfl ?_
    refine zs_if_le (tgt := 281) (n := 279) dX16_exchange_276 (by decide) rfl (fun h => absurd h (by decide)) (fun _ => ?_)
    refine zs_iconst (v := 0) (n := 280) dX16_exchange_279 (by decide) rfl ?_
    refine zs_ireturn dX16_exchange_280 ⟨_, rfl, rfl⟩ ?_
    exact hQ _ hR
theorem k_exchange {i t o : Nat} {A : Nat → Nat} (hR : zRp Z Λ S M) (h4 : sc S 4 = 1) (hi : i < sc S 1000) (ht : t < sc S (1010 + i)) (ho : o < sc S (1010 + i)) (hp : sV S 1001 680 = 0) (hA : ∀ k, k < sc S (1010 + i) → sV S (1160 + 8 * i + k) 608 = nI (A k) ∧ A k < 8) (hbad : fBd1 S (fun y => A (zsw t o y)) (sc S (1010 + i)) (sc S (1010 + i)) = false)
    (hQ : ∀ M', zRp Z (fun s => Λ (zsw (1160 + 8 * i + t) (1160 + 8 * i + o) s)) (fSwapM (mT (mT S 0) 0) i t o) M' → Q (.inl (some (.int (zb (decide (¬ nI (A t) = nI (A o))))))) M') : zX Z l 5 mth_X16_exchange 0 (lv_args 0 [.ref (Λ 1001), .int (nI i), .int (nI t), .int (nI o)]) [] M 3 19 Q := by
  show zX Z l 5 mth_X16_exchange 0 [(0, .ref (Λ 1001)), (1, .int (nI i)), (2, .int (nI t)), (3, .int (nI o))] [] M 3 19 Q
  have hb1 : sc S 1000 ≤ 6 := hR.bnd.2.1.1
  have hb3 := hR.bnd.2.2 i
  refine zs_aload_n (n := 1) dX16_exchange_0 rfl rfl ?_
  refine zs_iload_n (n := 2) dX16_exchange_1 rfl rfl ?_
  refine zc_V (n := 5) (As := [.int (nI i)]) (ci := 21) (mc := 0) (ms := 0) dX16_exchange_2 ok_X16_isPitch ⟨ml_X16_84, im_X16_isPitch, sl_X16_isPitch⟩ rfl (hR.kd (lvM h4 (by omega))) rfl (Nat.le_of_ble_eq_true rfl) (by simp) (by omega) (Nat.le_refl _) (Nat.le_refl _) rfl rfl (k_isPitch hR h4) ?_
  refine zs_if_eq (tgt := 70) (n := 8) dX16_exchange_5 (by decide) rfl (fun h => absurd h (zb1.mpr (fIn_ix hi (by omega)))) (fun _ => ?_)
  refine zs_iload_n (n := 9) dX16_exchange_8 rfl rfl ?_
  refine zs_i2l (n := 10) dX16_exchange_9 rfl ?_
  refine zs_lconst (v := 0) (n := 11) dX16_exchange_10 (by decide) rfl ?_
  refine zs_aload_n (n := 12) dX16_exchange_11 rfl rfl ?_
  refine zs_getr (b := (Λ 1015)) (n := 15) dX16_exchange_12 gf_X16_10 (hR.kd (lvM h4 (by omega))) (hR.pt (lvM h4 (by omega)) rfl (by decide)) rfl ?_
  refine zs_iload_n (n := 16) dX16_exchange_15 rfl rfl ?_
  refine zc_getb (c := sc S 1000) (b := (Λ (1100 + i))) (n := 19) dX16_exchange_16 ml_X16_94 (hR.lP' h4) hi rfl (by simp) (by omega) rfl ?_
  refine zs_castS (ci := 18) (n := 22) dX16_exchange_19 rfl cl_X16_68 (hR.kP' hi) rfl ?_
  refine zs_getr (b := (Λ (1120 + i))) (n := 25) dX16_exchange_22 gf_X16_164 (hR.kP' hi) (hR.pT' hi) rfl ?_
  refine zc_size (c := sc S (1010 + i)) (n := 28) dX16_exchange_25 ml_X16_46 (hR.lT' hi) (by simp) (by omega) rfl ?_
  refine zs_iconst (v := 1) (n := 29) dX16_exchange_28 (by decide) rfl ?_
  refine zs_isub (n := 30) dX16_exchange_29 rfl ?_
  refine zs_i2l (n := 31) dX16_exchange_30 rfl ?_
  refine zc_S (n := 34) (As := [.long (nI t).toInt64, .long (0 : Int64), .long ((nI (sc S (1010 + i))) - (1 : Int32)).toInt64]) (mc := 0) (ms := 0) dX16_exchange_31 ok_X16_in ⟨ml_X16_50, st_X16_in⟩ rfl (Nat.le_of_ble_eq_true rfl) (by simp) (by omega) (Nat.le_refl _) (Nat.le_refl _) rfl rfl (m_in (x := (nI t)) (lo := (0 : Int32)) (hi := ((nI (sc S (1010 + i))) - (1 : Int32))) rfl (by first | rfl | decide) (by first | rfl | decide)) ?_
  refine zs_if_eq (tgt := 70) (n := 37) dX16_exchange_34 (by decide) rfl (fun h => absurd h (zb1.mpr (fIn_ix ht (by omega)))) (fun _ => ?_)
  refine zs_iload_n (n := 38) dX16_exchange_37 rfl rfl ?_
  refine zs_i2l (n := 39) dX16_exchange_38 rfl ?_
  refine zs_lconst (v := 0) (n := 40) dX16_exchange_39 (by decide) rfl ?_
  refine zs_aload_n (n := 41) dX16_exchange_40 rfl rfl ?_
  refine zs_getr (b := (Λ 1015)) (n := 44) dX16_exchange_41 gf_X16_10 (hR.kd (lvM h4 (by omega))) (hR.pt (lvM h4 (by omega)) rfl (by decide)) rfl ?_
  refine zs_iload_n (n := 45) dX16_exchange_44 rfl rfl ?_
  refine zc_getb (c := sc S 1000) (b := (Λ (1100 + i))) (n := 48) dX16_exchange_45 ml_X16_94 (hR.lP' h4) hi rfl (by simp) (by omega) rfl ?_
  refine zs_castS (ci := 18) (n := 51) dX16_exchange_48 rfl cl_X16_68 (hR.kP' hi) rfl ?_
  refine zs_getr (b := (Λ (1120 + i))) (n := 54) dX16_exchange_51 gf_X16_164 (hR.kP' hi) (hR.pT' hi) rfl ?_
  refine zc_size (c := sc S (1010 + i)) (n := 57) dX16_exchange_54 ml_X16_46 (hR.lT' hi) (by simp) (by omega) rfl ?_
  refine zs_iconst (v := 1) (n := 58) dX16_exchange_57 (by decide) rfl ?_
  refine zs_isub (n := 59) dX16_exchange_58 rfl ?_
  refine zs_i2l (n := 60) dX16_exchange_59 rfl ?_
  refine zc_S (n := 63) (As := [.long (nI o).toInt64, .long (0 : Int64), .long ((nI (sc S (1010 + i))) - (1 : Int32)).toInt64]) (mc := 0) (ms := 0) dX16_exchange_60 ok_X16_in ⟨ml_X16_50, st_X16_in⟩ rfl (Nat.le_of_ble_eq_true rfl) (by simp) (by omega) (Nat.le_refl _) (Nat.le_refl _) rfl rfl (m_in (x := (nI o)) (lo := (0 : Int32)) (hi := ((nI (sc S (1010 + i))) - (1 : Int32))) rfl (by first | rfl | decide) (by first | rfl | decide)) ?_
  refine zs_if_eq (tgt := 70) (n := 66) dX16_exchange_63 (by decide) rfl (fun h => absurd h (zb1.mpr (fIn_ix ho (by omega)))) (fun _ => ?_)
  refine zs_iconst (v := 1) (n := 67) dX16_exchange_66 (by decide) rfl ?_
  refine zs_goto (tgt := 71) dX16_exchange_67 (by decide) ?_
  refine zs_istore (n := 73) dX16_exchange_71 (by decide) rfl ?_
  refine zs_aload_n (n := 74) dX16_exchange_73 rfl rfl ?_
  refine zs_iload (n := 76) dX16_exchange_74 rfl rfl ?_
  refine zs_if_ne (tgt := 83) (n := 79) dX16_exchange_76 (by decide) rfl (fun _ => ?_) (fun h => absurd h (by decide))
  refine zs_aload_n (n := 84) dX16_exchange_83 rfl rfl ?_
  refine zs_getv (x := (sV S 1001 680)) (n := 87) dX16_exchange_84 gf_X16_161 (hR.kd (lvM h4 (by omega))) (hR.iv (lvM h4 (by omega)) (by decide) (by decide)) rfl ?_
  refine zs_if_eq (tgt := 94) (n := 90) dX16_exchange_87 (by decide) rfl (fun _ => ?_) (fun h => absurd hp h)
  refine zs_iconst (v := 0) (n := 95) dX16_exchange_94 (by decide) rfl ?_
  refine zw_i (r := 1001) (n := 98) dX16_exchange_95 pf_X16_exchange_43 hR (lvM h4 (by omega)) (hR.kd (lvM h4 (by omega))) ⟨rfl, rfl⟩ (by decide) rfl ?_
  intro M hR hv
  refine zs_aload_n (n := 99) dX16_exchange_98 rfl rfl ?_
  refine zs_getv (x := (0 : Int32)) (n := 102) dX16_exchange_99 gf_X16_43 (hR.kd (lvM h4 (by omega))) (hR.iv (lvM h4 (by omega)) (by decide) (by decide)) rfl ?_
  refine zs_if_le (tgt := 107) (n := 105) dX16_exchange_102 (by decide) rfl (fun _ => ?_) (fun h => absurd (by decide) h)
  refine zs_new (kind := 14) (N := 3) (nc1 := 2) (ns1 := 16) (n := 110) 3000 dX16_exchange_107 nc_X16_7 rfl (by omega) (by omega) (fun q hq => ?_)
  have hR := hR.new0 (kind := 14) (len := 0) (g := 3000) hq
  have htq : zTmp (zNew M q 14 0 3000) q 3000 := ⟨by decide, u1_at, by rw [zNew_Kq]; decide⟩
  have hkq : mK (zNew M q 14 0 3000) q = 14 := zNew_Kq
  revert hR htq hkq
  generalize zNew M q 14 0 3000 = M
  intro hR htq hkq
  refine zs_dup (n := 111) dX16_exchange_110 rfl rfl ?_
  refine zs_aload_n (n := 112) dX16_exchange_111 rfl rfl ?_
  refine zs_getr (b := (Λ 1015)) (n := 115) dX16_exchange_112 gf_X16_10 (hR.kd (lvM h4 (by omega))) (hR.pt (lvM h4 (by omega)) rfl (by decide)) rfl ?_
  refine zs_iload_n (n := 116) dX16_exchange_115 rfl rfl ?_
  refine zc_getb (c := sc S 1000) (b := (Λ (1100 + i))) (n := 119) dX16_exchange_116 ml_X16_94 (hR.lP' h4) hi rfl (by simp) (by omega) rfl ?_
  refine zs_castS (ci := 18) (n := 122) dX16_exchange_119 rfl cl_X16_68 (hR.kP' hi) rfl ?_
  refine zs_getr (b := (Λ (1120 + i))) (n := 125) dX16_exchange_122 gf_X16_164 (hR.kP' hi) (hR.pT' hi) rfl ?_
  refine zt_cinit (ci := 19) (f := fun k => Λ (1160 + 8 * i + k)) (nc1 := 1) (ns1 := 8) (n := sc S (1010 + i)) (j := 128) dX16_exchange_125 ml_X16_178 hR htq hkq (hR.lT' hi) (hR.nt htq (lvT' hi)) (by omega) rfl co_X14 (fun k hk => hR.kK' hi hk) (by decide) (by simp) (by omega) (by omega) (by omega) rfl (fun M hR hT hf9 => ?_)
  refine zs_astore (n := 130) dX16_exchange_128 (by decide) rfl ?_
  refine zs_aload (n := 132) dX16_exchange_130 rfl rfl ?_
  refine zs_iload_n (n := 133) dX16_exchange_132 rfl rfl ?_
  refine zt_get2 (n := 136) dX16_exchange_133 ml_X16_94 hT ht (by simp) (by omega) rfl ?_
  refine zs_castS (ci := 19) (n := 139) dX16_exchange_136 rfl cl_X16_167 (hR.kK' hi ht) rfl ?_
  refine zs_astore (n := 141) dX16_exchange_139 (by decide) rfl ?_
  refine zs_aload (n := 143) dX16_exchange_141 rfl rfl ?_
  refine zs_iload_n (n := 144) dX16_exchange_143 rfl rfl ?_
  refine zs_aload (n := 146) dX16_exchange_144 rfl rfl ?_
  refine zt_set (ci := 19) (n := 149) dX16_exchange_146 ml_X16_181 hR hT ho (hR.kK' hi ht) rfl co_X14 (by simp) (by omega) rfl (fun M hR hT hk9 => ?_)
  refine zs_castS (ci := 19) (n := 152) dX16_exchange_149 rfl cl_X16_167 (hR.kK' hi ho) rfl ?_
  refine zs_astore (n := 154) dX16_exchange_152 (by decide) rfl ?_
  refine zs_aload (n := 156) dX16_exchange_154 rfl rfl ?_
  refine zs_iload_n (n := 157) dX16_exchange_156 rfl rfl ?_
  refine zs_aload (n := 159) dX16_exchange_157 rfl rfl ?_
  refine zt_set (ci := 19) (n := 162) dX16_exchange_159 ml_X16_181 hR hT ht (hR.kK' hi ho) rfl co_X14 (by simp) (by omega) rfl (fun M hR hT hk9 => ?_)
  rw [show (if t = o then Λ (1160 + 8 * i + t) else Λ (1160 + 8 * i + t)) = Λ (1160 + 8 * i + t) from by split <;> rfl]
  have hT := zTt.ext hT (f' := fun k => Λ (1160 + 8 * i + zsw t o k)) (fun k _ => zsw_f)
  refine zs_castS (ci := 19) (n := 165) dX16_exchange_162 rfl cl_X16_167 (hR.kK' hi ht) rfl ?_
  refine zs_astore (n := 167) dX16_exchange_165 (by decide) rfl ?_
  refine zs_iconst (v := 0) (n := 168) dX16_exchange_167 (by decide) rfl ?_
  refine zs_istore (n := 170) dX16_exchange_168 (by decide) rfl ?_
  refine zs_iconst (v := 0) (n := 171) dX16_exchange_170 (by decide) rfl ?_
  refine zs_istore (n := 173) dX16_exchange_171 (by decide) rfl ?_
  refine zX.sub (L' := [(0, .ref (Λ 1001)), (1, .int (nI i)), (2, .int (nI t)), (3, .int (nI o)), (5, .ref q), (6, .ref (Λ (1160 + 8 * i + t))), (7, .ref (Λ (1160 + 8 * i + o))), (9, .int (zb (fBd1 S (fun y => A (zsw t o y)) (sc S (1010 + i)) 0))), (10, .int (nI 0))]) ⟨rfl, rfl, rfl, rfl, rfl, rfl, rfl, rfl, rfl, trivial⟩ ?_
  refine zloop (n := sc S (1010 + i)) (X := fun k => zX Z l 5 mth_X16_exchange 173 [(0, .ref (Λ 1001)), (1, .int (nI i)), (2, .int (nI t)), (3, .int (nI o)), (5, .ref q), (6, .ref (Λ (1160 + 8 * i + t))), (7, .ref (Λ (1160 + 8 * i + o))), (9, .int (zb (fBd1 S (fun y => A (zsw t o y)) (sc S (1010 + i)) k))), (10, .int (nI k))] [] M 1 8 Q) (fun k hk ih => ?_) ?_ 0 (Nat.zero_le _)
  · refine zs_iload (n := 175) dX16_exchange_173 rfl rfl ?_
    refine zs_aload (n := 177) dX16_exchange_175 rfl rfl ?_
    refine zt_size2 (n := 180) dX16_exchange_177 ml_X16_46 hT (by simp) (by omega) rfl ?_
    refine zs_icmp_ge (tgt := 258) (n := 183) dX16_exchange_180 (by decide) rfl (fun h => absurd h (nI_ge hk (by omega))) (fun _ => ?_)
    refine zs_iload (n := 185) dX16_exchange_183 rfl rfl ?_
    refine zs_iconst (v := 1) (n := 186) dX16_exchange_185 (by decide) rfl ?_
    refine zs_iadd (n := 187) dX16_exchange_186 rfl ?_
    rw [nI_1]
    refine zs_istore (n := 189) dX16_exchange_187 (by decide) rfl ?_
    refine zX.sub (L' := [(0, .ref (Λ 1001)), (1, .int (nI i)), (2, .int (nI t)), (3, .int (nI o)), (5, .ref q), (6, .ref (Λ (1160 + 8 * i + t))), (7, .ref (Λ (1160 + 8 * i + o))), (9, .int (zb (fBd2 S (fun y => A (zsw t o y)) k 0 (fBd1 S (fun y => A (zsw t o y)) (sc S (1010 + i)) k)))), (10, .int (nI k)), (11, .int (nI (k + 1 + 0)))]) ⟨rfl, rfl, rfl, rfl, rfl, rfl, rfl, rfl, rfl, rfl, trivial⟩ ?_
    refine zloop (n := (sc S (1010 + i) - (k + 1))) (X := fun x => zX Z l 5 mth_X16_exchange 189 [(0, .ref (Λ 1001)), (1, .int (nI i)), (2, .int (nI t)), (3, .int (nI o)), (5, .ref q), (6, .ref (Λ (1160 + 8 * i + t))), (7, .ref (Λ (1160 + 8 * i + o))), (9, .int (zb (fBd2 S (fun y => A (zsw t o y)) k x (fBd1 S (fun y => A (zsw t o y)) (sc S (1010 + i)) k)))), (10, .int (nI k)), (11, .int (nI (k + 1 + x)))] [] M 1 8 Q) (fun x hx ihx => ?_) ?_ 0 (Nat.zero_le _)
    · refine zs_iload (n := 191) dX16_exchange_189 rfl rfl ?_
      refine zs_aload (n := 193) dX16_exchange_191 rfl rfl ?_
      refine zt_size2 (n := 196) dX16_exchange_193 ml_X16_46 hT (by simp) (by omega) rfl ?_
      refine zs_icmp_ge (tgt := 252) (n := 199) dX16_exchange_196 (by decide) rfl (fun h => absurd h (nI_ge (show k + 1 + x < sc S (1010 + i) by omega) (by omega))) (fun _ => ?_)
      refine zs_iload (n := 201) dX16_exchange_199 rfl rfl ?_
      refine zs_if_ne (tgt := 239) (n := 204) dX16_exchange_201 (by decide) rfl (fun h201 => ?_) (fun h201 => ?_)
      · refine zs_iconst (v := 1) (n := 240) dX16_exchange_239 (by decide) rfl ?_
        refine zs_goto (tgt := 244) dX16_exchange_240 (by decide) ?_
        refine zs_istore (n := 246) dX16_exchange_244 (by decide) rfl ?_
        refine zs_iinc (v := (nI ((k + 1 + x) + 1))) (n := 249) dX16_exchange_246 rfl (nI_1 _) (by decide) rfl ?_
        refine zs_goto (tgt := 189) dX16_exchange_249 (by decide) ?_
        refine zX.sub (L' := [(0, .ref (Λ 1001)), (1, .int (nI i)), (2, .int (nI t)), (3, .int (nI o)), (5, .ref q), (6, .ref (Λ (1160 + 8 * i + t))), (7, .ref (Λ (1160 + 8 * i + o))), (9, .int (zb (fBd2 S (fun y => A (zsw t o y)) k (x + 1) (fBd1 S (fun y => A (zsw t o y)) (sc S (1010 + i)) k)))), (10, .int (nI k)), (11, .int (nI (k + 1 + (x + 1))))]) ⟨rfl, rfl, rfl, rfl, rfl, rfl, rfl, (show some (Value.int (1 : Int32)) = some (Value.int (zb (fBd2 S (fun y => A (zsw t o y)) k (x + 1) (fBd1 S (fun y => A (zsw t o y)) (sc S (1010 + i)) k)))) from congrArg (fun z => some (Value.int z)) (by rw [show fBd2 S (fun y => A (zsw t o y)) k (x + 1) (fBd1 S (fun y => A (zsw t o y)) (sc S (1010 + i)) k) = (fBd2 S (fun y => A (zsw t o y)) k x (fBd1 S (fun y => A (zsw t o y)) (sc S (1010 + i)) k) || !decide (sW S (1030 + A (zsw t o (k + 1 + x))) (A (zsw t o k)) = 0)) from rfl]; cases h9 : fBd2 S (fun y => A (zsw t o y)) k x (fBd1 S (fun y => A (zsw t o y)) (sc S (1010 + i)) k) <;> simp_all [zb])), rfl, rfl, trivial⟩ ?_
        exact ihx
      · refine zs_aload_n (n := 205) dX16_exchange_204 rfl rfl ?_
        refine zs_getr (b := (Λ 1025)) (n := 208) dX16_exchange_205 gf_X16_30 (hR.kd (lvM h4 (by omega))) (hR.pt (lvM h4 (by omega)) rfl (by decide)) rfl ?_
        refine zs_aload (n := 210) dX16_exchange_208 rfl rfl ?_
        refine zs_iload (n := 212) dX16_exchange_210 rfl rfl ?_
        have hz1 : zsw t o (k + 1 + x) < sc S (1010 + i) := zsw_lt ht ho (by omega)
        refine zt_get2 (n := 215) dX16_exchange_212 ml_X16_94 hT (by omega) (by simp) (by omega) rfl ?_
        refine zs_castS (ci := 19) (n := 218) dX16_exchange_215 rfl cl_X16_167 (hR.kK' hi hz1) rfl ?_
        refine zs_getv (x := (sV S (1160 + 8 * i + (zsw t o (k + 1 + x))) 608)) (n := 221) dX16_exchange_218 gf_X16_169 (hR.kK' hi hz1) (hR.iv (lvK' hi hz1) (by decide) (by decide)) rfl ?_
        rw [(hA _ hz1).1]
        have hz1a := (hA _ hz1).2
        refine zs_aald (b := (Λ (1030 + (A (zsw t o (k + 1 + x)))))) (n := 222) dX16_exchange_221 (Or.inr (hR.kd (lvM h4 (by omega)))) (by rw [show mN M (Λ 1025) = 8 from (hR.ln (lvM h4 (by omega)) rfl (by decide))]; exact vp_in_nI (hA _ hz1).2 (by omega)) (by rw [nI_clamp (by omega)]; exact hR.cus h4 (hA _ hz1).2) rfl ?_
        refine zs_aload (n := 224) dX16_exchange_222 rfl rfl ?_
        refine zs_iload (n := 226) dX16_exchange_224 rfl rfl ?_
        have hz2 : zsw t o (k) < sc S (1010 + i) := zsw_lt ht ho (by omega)
        refine zt_get2 (n := 229) dX16_exchange_226 ml_X16_94 hT (by omega) (by simp) (by omega) rfl ?_
        refine zs_castS (ci := 19) (n := 232) dX16_exchange_229 rfl cl_X16_167 (hR.kK' hi hz2) rfl ?_
        refine zs_getv (x := (sV S (1160 + 8 * i + (zsw t o (k))) 608)) (n := 235) dX16_exchange_232 gf_X16_169 (hR.kK' hi hz2) (hR.iv (lvK' hi hz2) (by decide) (by decide)) rfl ?_
        rw [(hA _ hz2).1]
        have hz2a := (hA _ hz2).2
        refine zs_zaldv (x := (sW S (1030 + (A (zsw t o (k + 1 + x)))) (A (zsw t o (k))))) (n := 236) dX16_exchange_235 (hR.kC h4 (hA _ hz1).2) (by rw [show mN M (Λ (1030 + (A (zsw t o (k + 1 + x))))) = 8 from (hR.nC h4 (hA _ hz1).2)]; exact vp_in_nI (hA _ hz2).2 (by omega)) (by rw [nI_clamp (by omega)]; exact hR.av (lvM h4 (by omega))) rfl ?_
        refine zs_if_eq (tgt := 243) (n := 239) dX16_exchange_236 (by decide) rfl (fun h236 => ?_) (fun h236 => ?_)
        · refine zs_iconst (v := 0) (n := 244) dX16_exchange_243 (by decide) rfl ?_
          refine zs_istore (n := 246) dX16_exchange_244 (by decide) rfl ?_
          refine zs_iinc (v := (nI ((k + 1 + x) + 1))) (n := 249) dX16_exchange_246 rfl (nI_1 _) (by decide) rfl ?_
          refine zs_goto (tgt := 189) dX16_exchange_249 (by decide) ?_
          refine zX.sub (L' := [(0, .ref (Λ 1001)), (1, .int (nI i)), (2, .int (nI t)), (3, .int (nI o)), (5, .ref q), (6, .ref (Λ (1160 + 8 * i + t))), (7, .ref (Λ (1160 + 8 * i + o))), (9, .int (zb (fBd2 S (fun y => A (zsw t o y)) k (x + 1) (fBd1 S (fun y => A (zsw t o y)) (sc S (1010 + i)) k)))), (10, .int (nI k)), (11, .int (nI (k + 1 + (x + 1))))]) ⟨rfl, rfl, rfl, rfl, rfl, rfl, rfl, (show some (Value.int (0 : Int32)) = some (Value.int (zb (fBd2 S (fun y => A (zsw t o y)) k (x + 1) (fBd1 S (fun y => A (zsw t o y)) (sc S (1010 + i)) k)))) from congrArg (fun z => some (Value.int z)) (by rw [show fBd2 S (fun y => A (zsw t o y)) k (x + 1) (fBd1 S (fun y => A (zsw t o y)) (sc S (1010 + i)) k) = (fBd2 S (fun y => A (zsw t o y)) k x (fBd1 S (fun y => A (zsw t o y)) (sc S (1010 + i)) k) || !decide (sW S (1030 + A (zsw t o (k + 1 + x))) (A (zsw t o k)) = 0)) from rfl]; cases h9 : fBd2 S (fun y => A (zsw t o y)) k x (fBd1 S (fun y => A (zsw t o y)) (sc S (1010 + i)) k) <;> simp_all [zb])), rfl, rfl, trivial⟩ ?_
          exact ihx
        · refine zs_iconst (v := 1) (n := 240) dX16_exchange_239 (by decide) rfl ?_
          refine zs_goto (tgt := 244) dX16_exchange_240 (by decide) ?_
          refine zs_istore (n := 246) dX16_exchange_244 (by decide) rfl ?_
          refine zs_iinc (v := (nI ((k + 1 + x) + 1))) (n := 249) dX16_exchange_246 rfl (nI_1 _) (by decide) rfl ?_
          refine zs_goto (tgt := 189) dX16_exchange_249 (by decide) ?_
          refine zX.sub (L' := [(0, .ref (Λ 1001)), (1, .int (nI i)), (2, .int (nI t)), (3, .int (nI o)), (5, .ref q), (6, .ref (Λ (1160 + 8 * i + t))), (7, .ref (Λ (1160 + 8 * i + o))), (9, .int (zb (fBd2 S (fun y => A (zsw t o y)) k (x + 1) (fBd1 S (fun y => A (zsw t o y)) (sc S (1010 + i)) k)))), (10, .int (nI k)), (11, .int (nI (k + 1 + (x + 1))))]) ⟨rfl, rfl, rfl, rfl, rfl, rfl, rfl, (show some (Value.int (1 : Int32)) = some (Value.int (zb (fBd2 S (fun y => A (zsw t o y)) k (x + 1) (fBd1 S (fun y => A (zsw t o y)) (sc S (1010 + i)) k)))) from congrArg (fun z => some (Value.int z)) (by rw [show fBd2 S (fun y => A (zsw t o y)) k (x + 1) (fBd1 S (fun y => A (zsw t o y)) (sc S (1010 + i)) k) = (fBd2 S (fun y => A (zsw t o y)) k x (fBd1 S (fun y => A (zsw t o y)) (sc S (1010 + i)) k) || !decide (sW S (1030 + A (zsw t o (k + 1 + x))) (A (zsw t o k)) = 0)) from rfl]; cases h9 : fBd2 S (fun y => A (zsw t o y)) k x (fBd1 S (fun y => A (zsw t o y)) (sc S (1010 + i)) k) <;> simp_all [zb])), rfl, rfl, trivial⟩ ?_
          exact ihx
    · refine zs_iload (n := 191) dX16_exchange_189 rfl rfl ?_
      refine zs_aload (n := 193) dX16_exchange_191 rfl rfl ?_
      refine zt_size2 (n := 196) dX16_exchange_193 ml_X16_46 hT (by simp) (by omega) rfl ?_
      refine zs_icmp_ge (tgt := 252) (n := 199) dX16_exchange_196 (by decide) rfl (fun _ => ?_) (fun h => absurd (nI_le (show sc S (1010 + i) ≤ k + 1 + (sc S (1010 + i) - (k + 1)) by omega) (by omega)) h)
      refine zs_iinc (v := (nI (k + 1))) (n := 255) dX16_exchange_252 rfl (nI_1 _) (by decide) rfl ?_
      refine zs_goto (tgt := 173) dX16_exchange_255 (by decide) ?_
      refine zX.sub (L' := [(0, .ref (Λ 1001)), (1, .int (nI i)), (2, .int (nI t)), (3, .int (nI o)), (5, .ref q), (6, .ref (Λ (1160 + 8 * i + t))), (7, .ref (Λ (1160 + 8 * i + o))), (9, .int (zb (fBd1 S (fun y => A (zsw t o y)) (sc S (1010 + i)) (k + 1)))), (10, .int (nI (k + 1)))]) ⟨rfl, rfl, rfl, rfl, rfl, rfl, rfl, rfl, rfl, trivial⟩ ?_
      exact ih
  · refine zs_iload (n := 175) dX16_exchange_173 rfl rfl ?_
    refine zs_aload (n := 177) dX16_exchange_175 rfl rfl ?_
    refine zt_size2 (n := 180) dX16_exchange_177 ml_X16_46 hT (by simp) (by omega) rfl ?_
    refine zs_icmp_ge (tgt := 258) (n := 183) dX16_exchange_180 (by decide) rfl (fun _ => ?_) (fun h => absurd (nI_le (Nat.le_refl _) (by omega)) h)
    refine zs_aload_n (n := 259) dX16_exchange_258 rfl rfl ?_
    refine zs_iload (n := 261) dX16_exchange_259 rfl rfl ?_
    refine zs_if_eq (tgt := 268) (n := 264) dX16_exchange_261 (by decide) rfl (fun _ => ?_) (fun h => absurd (zb0.mpr hbad) h)
    refine zs_iconst (v := 0) (n := 269) dX16_exchange_268 (by decide) rfl ?_
    have hlM : zlv (sc S) 1001 := lvM h4 (by omega)
    refine zs_puti (n := 272) dX16_exchange_269 pf_X16_exchange_43 (hR.kd hlM) ⟨rfl, rfl⟩ rfl ?_
    have hT := zTt.sI (k := 672) (v := 0) hT (hR.nt (r := 1001) hT.tmp hlM)
    have hR := hR.sI (s := 1001) (k := 672) (v := 0) hlM (by decide) (by decide) (by decide)
    revert hR hT
    generalize sI M (Λ 1001) 672 0 = M
    intro hT hR
    refine zs_aload_n (n := 273) dX16_exchange_272 rfl rfl ?_
    refine zs_getv (x := (0 : Int32)) (n := 276) dX16_exchange_273 gf_X16_43 (hR.kd (lvM h4 (by omega))) (hR.iv (lvM h4 (by omega)) (by decide) (by decide)) rfl ?_
    refine zs_if_le (tgt := 281) (n := 279) dX16_exchange_276 (by decide) rfl (fun _ => ?_) (fun h => absurd (by decide) h)
    refine zs_aload_n (n := 282) dX16_exchange_281 rfl rfl ?_
    refine zs_getr (b := (Λ 1015)) (n := 285) dX16_exchange_282 gf_X16_10 (hR.kd (lvM h4 (by omega))) (hR.pt (lvM h4 (by omega)) rfl (by decide)) rfl ?_
    refine zs_iload_n (n := 286) dX16_exchange_285 rfl rfl ?_
    refine zc_getb (c := sc S 1000) (b := (Λ (1100 + i))) (n := 289) dX16_exchange_286 ml_X16_94 (hR.lP' h4) hi rfl (by simp) (by omega) rfl ?_
    refine zs_castS (ci := 18) (n := 292) dX16_exchange_289 rfl cl_X16_68 (hR.kP' hi) rfl ?_
    refine zs_getr (b := (Λ (1120 + i))) (n := 295) dX16_exchange_292 gf_X16_164 (hR.kP' hi) (hR.pT' hi) rfl ?_
    have hR : zRp Z Λ (mT (mT S 0) 0) M := hR
    refine zc_clear (n := 298) dX16_exchange_295 ml_X16_140 (hR.lT' hi) (by simp) (by omega) rfl ?_
    have hR0 := hR
    have hi0 := hi
    have h40 := h4
    have hR : zRp Z Λ (cset (sc (mT (mT S 0) 0)) (1010 + i) 0, sV (mT (mT S 0) 0), sW (mT (mT S 0) 0), sT (mT (mT S 0) 0), sP (mT (mT S 0) 0)) _ := hR0.clrT' hi
    have hi : i < sc (cset (sc (mT (mT S 0) 0)) (1010 + i) 0, sV (mT (mT S 0) 0), sW (mT (mT S 0) 0), sT (mT (mT S 0) 0), sP (mT (mT S 0) 0)) 1000 := by rw [show sc (cset (sc (mT (mT S 0) 0)) (1010 + i) 0, sV (mT (mT S 0) 0), sW (mT (mT S 0) 0), sT (mT (mT S 0) 0), sP (mT (mT S 0) 0)) 1000 = sc S 1000 from cset_ne (by omega)]; exact hi0
    have h4 : sc (cset (sc (mT (mT S 0) 0)) (1010 + i) 0, sV (mT (mT S 0) 0), sW (mT (mT S 0) 0), sT (mT (mT S 0) 0), sP (mT (mT S 0) 0)) 4 = 1 := (cset_ne (by omega)).trans h40
    refine zs_aload_n (n := 299) dX16_exchange_298 rfl rfl ?_
    refine zs_getr (b := (Λ 1015)) (n := 302) dX16_exchange_299 gf_X16_10 (hR.kd (lvM h4 (by omega))) (hR.pt (lvM h4 (by omega)) rfl (by decide)) rfl ?_
    refine zs_iload_n (n := 303) dX16_exchange_302 rfl rfl ?_
    refine zc_getb (c := sc (cset (sc (mT (mT S 0) 0)) (1010 + i) 0, sV (mT (mT S 0) 0), sW (mT (mT S 0) 0), sT (mT (mT S 0) 0), sP (mT (mT S 0) 0)) 1000) (b := (Λ (1100 + i))) (n := 306) dX16_exchange_303 ml_X16_94 (hR.lP' h4) hi rfl (by simp) (by omega) rfl ?_
    refine zs_castS (ci := 18) (n := 309) dX16_exchange_306 rfl cl_X16_68 (hR.kP' hi) rfl ?_
    refine zs_getr (b := (Λ (1120 + i))) (n := 312) dX16_exchange_309 gf_X16_164 (hR.kP' hi) (hR.pT' hi) rfl ?_
    refine zs_aload (n := 314) dX16_exchange_312 rfl rfl ?_
    clear hR
    refine zw_exch (nc1 := 0) (ns1 := 0) (n := 317) dX16_exchange_314 ml_X16_185 hR0 hi0 ht ho hT (fun k _ => rfl) (by simp) (by omega) (by omega) (show 0 + sc S (1010 + i) ≤ 8 by omega) rfl (fun M hR => ?_)
    have ez : zsw (1160 + 8 * i + t) (1160 + 8 * i + o) (1160 + 8 * i + o) = 1160 + 8 * i + t := zsw_b
    have ez2 : zsw (1160 + 8 * i + t) (1160 + 8 * i + o) (1160 + 8 * i + t) = 1160 + 8 * i + o := zsw_a
    have hlo := lvK' (S := S) hi0 ho
    have hlt := lvK' (S := S) hi0 ht
    refine zs_pop (n := 318) dX16_exchange_317 rfl rfl ?_
    refine zs_aload (n := 320) dX16_exchange_318 rfl rfl ?_
    refine zs_getv (x := nI (A t)) (n := 323) dX16_exchange_320 gf_X16_169 (by have h9 := hR.kd hlo; rw [show zki (1160 + 8 * i + o) = 29 from by rw [Nat.add_assoc]; exact zki_Km (by omega)] at h9; simp only [ez] at h9; exact h9) (by have h9 := hR.iv (k := 608) hlo (by decide) (by decide); simp only [ez] at h9; rw [h9]; show sV S (zsw _ _ (1160 + 8 * i + o)) 608 = _; rw [ez]; exact (hA _ ht).1) rfl ?_
    refine zs_aload (n := 325) dX16_exchange_323 rfl rfl ?_
    refine zs_getv (x := nI (A o)) (n := 328) dX16_exchange_325 gf_X16_169 (by have h9 := hR.kd hlt; rw [show zki (1160 + 8 * i + t) = 29 from by rw [Nat.add_assoc]; exact zki_Km (by omega)] at h9; simp only [ez2] at h9; exact h9) (by have h9 := hR.iv (k := 608) hlt (by decide) (by decide); simp only [ez2] at h9; rw [h9]; show sV S (zsw _ _ (1160 + 8 * i + t)) 608 = _; rw [ez2]; exact (hA _ ho).1) rfl ?_
    refine zs_icmp_eq (tgt := 335) (n := 331) dX16_exchange_328 (by decide) rfl (fun h328 => ?_) (fun h328 => ?_)
    · refine zs_iconst (v := 0) (n := 336) dX16_exchange_335 (by decide) rfl ?_
      refine zs_ireturn dX16_exchange_336 ⟨_, rfl, rfl⟩ ?_
      first
      | (rw [show zb (decide (¬ nI (A t) = nI (A o))) = 1 from by rw [decide_eq_true h328]; rfl] at hQ; exact hQ _ hR)
      | (rw [show zb (decide (¬ nI (A t) = nI (A o))) = 0 from by rw [decide_eq_false (fun h => h h328)]; rfl] at hQ; exact hQ _ hR)
    · refine zs_iconst (v := 1) (n := 332) dX16_exchange_331 (by decide) rfl ?_
      refine zs_goto (tgt := 336) dX16_exchange_332 (by decide) ?_
      refine zs_ireturn dX16_exchange_336 ⟨_, rfl, rfl⟩ ?_
      first
      | (rw [show zb (decide (¬ nI (A t) = nI (A o))) = 1 from by rw [decide_eq_true h328]; rfl] at hQ; exact hQ _ hR)
      | (rw [show zb (decide (¬ nI (A t) = nI (A o))) = 0 from by rw [decide_eq_false (fun h => h h328)]; rfl] at hQ; exact hQ _ hR)
end ZEXCHM
