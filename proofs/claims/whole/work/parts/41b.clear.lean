/-! CLEARED: all turns, the visits -/
section ZCLEAR
variable {Z : zPar} {l : Launch} {Λ : Nat → Nat} {S : zSt} {M : zMem} {d : Nat} {mm : zMeth} {pc n nc ns ix : Nat} {L : List (Nat × Value)} {st : List Value} {Q : zO → zMem → Prop}
theorem zw_clrT {i : Nat} (hd : decode (zMC mm) pc = .ok (.invokevirtual ix, 3)) (hw : zwd (.methodLink (zMY mm).cls ix yJx4a65c_clear_da8c8)) (hR : zRp Z Λ S M) (hi : i < sc S 0) (hst : st.length ≤ 4) (hdd : 0 < d) (hn : pc + 3 = n) (kk : ∀ M', zRp Z Λ (cset (sc S) (10 + i) 0, sV S, sW S, sT S, sP S) M' → zX Z l d mm n L st M' nc ns Q) : zX Z l d mm pc L (.ref (Λ (120 + i)) :: st) M nc ns Q := zc_clear hd hw (hR.lT hi) hst hdd hn (kk _ (hR.clrT hi))
theorem zw_clrV (hd : decode (zMC mm) pc = .ok (.invokevirtual ix, 3)) (hw : zwd (.methodLink (zMY mm).cls ix yJx4a65c_clear_da8c8)) (hR : zRp Z Λ S M) (h3 : sc S 3 = 1) (hst : st.length ≤ 4) (hdd : 0 < d) (hn : pc + 3 = n) (kk : ∀ M', zRp Z Λ (cset (sc S) 2 0, sV S, sW S, sT S, sP S) M' → zX Z l d mm n L st M' nc ns Q) : zX Z l d mm pc L (.ref (Λ 19) :: st) M nc ns Q := zc_clear hd hw (hR.lV h3) hst hdd hn (kk _ (hR.clrV h3))
abbrev wC (S : zSt) (c : Nat → Nat) : zSt := (c, sV S, sW S, sT S, sP S)
def fClr (j : Nat) (c : Nat → Nat) : Nat → Nat := zit (fun i c => cset c (10 + i) 0) j c
theorem fClr_lo {c : Nat → Nat} {k : Nat} (hk : k < 10 ∨ 1000 ≤ k) : ∀ j, j ≤ 100 → fClr j c k = c k
  | 0, _ => rfl
  | j + 1, h => (cset_ne (by omega)).trans (fClr_lo hk j (by omega))
theorem c_clearTurns  (hR : zRp Z Λ S M) (h3 : sc S 3 = 1) : zG Z l 3 mth_X7_clearTurns [.ref (Λ 2)] M 0 0 none (zRp Z Λ (wC S (fClr (sc S 0) (sc S)))) := by
  intro Q hQ
  have hb9 : sc S 0 ≤ 6 := hR.bnd.1.1
  show zX Z l 3 mth_X7_clearTurns 0 [(0, .ref (Λ 2))] [] M 0 0 Q
  refine zs_iconst (v := 0) (n := 1) dX7_clearTurns_0 (by decide) rfl ?_
  refine zs_istore_n (n := 2) dX7_clearTurns_1 (by decide) rfl ?_
  refine zX.sub (L' := [(0, .ref (Λ 2)), (1, .int (nI 0))]) ⟨rfl, rfl, trivial⟩ ?_
  refine zloop (n := sc S 0) (X := fun j => ∀ M, zRp Z Λ (wC S (fClr j (sc S))) M → zX Z l 3 mth_X7_clearTurns 2 [(0, .ref (Λ 2)), (1, .int (nI j))] [] M 0 0 Q) (fun j hj ih => ?_) ?_ 0 (Nat.zero_le _) M ?_
  · intro M hR
    have hb : sc S 0 ≤ 6 := hb9
    have e0 : fClr j (sc S) 0 = sc S 0 := fClr_lo (Or.inl (by decide)) _ (by omega)
    have h3 : fClr j (sc S) 3 = 1 := (fClr_lo (Or.inl (by decide)) _ (by omega)).trans h3
    have hj : j < fClr j (sc S) 0 := e0 ▸ hj
    refine zs_iload_n (n := 3) dX7_clearTurns_2 rfl rfl ?_
    refine zs_aload_n (n := 4) dX7_clearTurns_3 rfl rfl ?_
    refine zs_getr (b := (Λ 15)) (n := 7) dX7_clearTurns_4 gf_X7_10 (hR.kd (lvC h3 (by omega))) (hR.pt (lvC h3 (by omega)) rfl (by decide)) rfl ?_
    refine zc_size (c := sc (wC S (fClr j (sc S))) 0) (n := 10) dX7_clearTurns_7 ml_X7_19 (hR.lP h3) (by simp) (by omega) rfl ?_
    refine zs_icmp_ge (tgt := 36) (n := 13) dX7_clearTurns_10 (by decide) rfl (fun h => absurd h (nI_ge (b := fClr j (sc S) 0) hj (by omega))) (fun _ => ?_)
    refine zs_aload_n (n := 14) dX7_clearTurns_13 rfl rfl ?_
    refine zs_getr (b := (Λ 15)) (n := 17) dX7_clearTurns_14 gf_X7_10 (hR.kd (lvC h3 (by omega))) (hR.pt (lvC h3 (by omega)) rfl (by decide)) rfl ?_
    refine zs_iload_n (n := 18) dX7_clearTurns_17 rfl rfl ?_
    refine zc_getb (c := sc (wC S (fClr j (sc S))) 0) (b := (Λ (100 + j))) (n := 21) dX7_clearTurns_18 ml_X7_23 (hR.lP h3) hj rfl (by simp) (by omega) rfl ?_
    refine zs_castS (ci := 11) (n := 24) dX7_clearTurns_21 rfl cl_X7_27 (hR.kP hj) rfl ?_
    refine zs_getr (b := (Λ (120 + j))) (n := 27) dX7_clearTurns_24 gf_X7_36 (hR.kP hj) (hR.pT hj) rfl ?_
    refine zw_clrT (n := 30) dX7_clearTurns_27 ml_X7_39 hR hj (by simp) (by omega) rfl ?_
    intro M hR
    refine zs_iinc (v := (nI (j + 1))) (n := 33) dX7_clearTurns_30 rfl (nI_1 _) (by decide) rfl ?_
    refine zs_goto (tgt := 2) dX7_clearTurns_33 (by decide) ?_
    refine zX.sub (L' := [(0, .ref (Λ 2)), (1, .int (nI (j + 1)))]) ⟨rfl, rfl, trivial⟩ ?_
    exact ih M hR
  · intro M hR
    have hb : sc S 0 ≤ 6 := hb9
    have e0 : fClr (sc S 0) (sc S) 0 = sc S 0 := fClr_lo (Or.inl (by decide)) _ (by omega)
    have h3 : fClr (sc S 0) (sc S) 3 = 1 := (fClr_lo (Or.inl (by decide)) _ (by omega)).trans h3
    refine zs_iload_n (n := 3) dX7_clearTurns_2 rfl rfl ?_
    refine zs_aload_n (n := 4) dX7_clearTurns_3 rfl rfl ?_
    refine zs_getr (b := (Λ 15)) (n := 7) dX7_clearTurns_4 gf_X7_10 (hR.kd (lvC h3 (by omega))) (hR.pt (lvC h3 (by omega)) rfl (by decide)) rfl ?_
    refine zc_size (c := sc (wC S (fClr (sc S 0) (sc S))) 0) (n := 10) dX7_clearTurns_7 ml_X7_19 (hR.lP h3) (by simp) (by omega) rfl ?_
    refine zs_icmp_ge (tgt := 36) (n := 13) dX7_clearTurns_10 (by decide) rfl (fun _ => ?_) (fun h => absurd (nI_le (Nat.le_of_eq e0) (by omega)) h)
    refine zs_return dX7_clearTurns_36 rfl ?_
    exact hQ _ hR
  · exact hR
theorem c_begin  (hR : zRp Z Λ S M) (h3 : sc S 3 = 1) : zG Z l 1 mth_X2_begin [.ref (Λ 7)] M 0 0 none (zRp Z Λ (cset (sc S) 2 0, u2 (u2 (u2 (sV S) 7 228 0) 7 230 0) 7 229 (sV S 7 229 + 1), sW S, sT S, sP S)) := by
  intro Q hQ
  show zX Z l 1 mth_X2_begin 0 [(0, .ref (Λ 7))] [] M 0 0 Q
  refine zs_aload_n (n := 1) dX2_begin_0 rfl rfl ?_
  refine zs_getr (b := (Λ 19)) (n := 4) dX2_begin_1 gf_X2_26 (hR.kd (lvC h3 (by omega))) (hR.pt (lvC h3 (by omega)) rfl (by decide)) rfl ?_
  refine zw_clrV (n := 7) dX2_begin_4 ml_X2_30 hR h3 (by simp) (by omega) rfl ?_
  intro M hR
  refine zs_aload_n (n := 8) dX2_begin_7 rfl rfl ?_
  refine zs_iconst (v := 0) (n := 9) dX2_begin_8 (by decide) rfl ?_
  refine zw_i (r := 7) (n := 12) dX2_begin_9 pf_X2_begin_33 hR (lvC h3 (by omega)) (hR.kd (lvC h3 (by omega))) ⟨by decide, by decide⟩ (by decide) rfl ?_
  intro M hR hv
  refine zs_aload_n (n := 13) dX2_begin_12 rfl rfl ?_
  refine zs_iconst (v := 0) (n := 14) dX2_begin_13 (by decide) rfl ?_
  refine zw_i (r := 7) (n := 17) dX2_begin_14 pf_X2_begin_37 hR (lvC h3 (by omega)) (hR.kd (lvC h3 (by omega))) ⟨rfl, rfl⟩ (by decide) rfl ?_
  intro M hR hv
  refine zs_aload_n (n := 18) dX2_begin_17 rfl rfl ?_
  refine zs_dup (n := 19) dX2_begin_18 rfl rfl ?_
  refine zs_getv (x := (sV (sc (sc (wC S (cset (sc S) 2 0)), u2 (sV (wC S (cset (sc S) 2 0))) 7 228 (0 : Int32), sW (wC S (cset (sc S) 2 0)), sT (wC S (cset (sc S) 2 0)), sP (wC S (cset (sc S) 2 0))), u2 (sV (sc (wC S (cset (sc S) 2 0)), u2 (sV (wC S (cset (sc S) 2 0))) 7 228 (0 : Int32), sW (wC S (cset (sc S) 2 0)), sT (wC S (cset (sc S) 2 0)), sP (wC S (cset (sc S) 2 0)))) 7 230 (0 : Int32), sW (sc (wC S (cset (sc S) 2 0)), u2 (sV (wC S (cset (sc S) 2 0))) 7 228 (0 : Int32), sW (wC S (cset (sc S) 2 0)), sT (wC S (cset (sc S) 2 0)), sP (wC S (cset (sc S) 2 0))), sT (sc (wC S (cset (sc S) 2 0)), u2 (sV (wC S (cset (sc S) 2 0))) 7 228 (0 : Int32), sW (wC S (cset (sc S) 2 0)), sT (wC S (cset (sc S) 2 0)), sP (wC S (cset (sc S) 2 0))), sP (sc (wC S (cset (sc S) 2 0)), u2 (sV (wC S (cset (sc S) 2 0))) 7 228 (0 : Int32), sW (wC S (cset (sc S) 2 0)), sT (wC S (cset (sc S) 2 0)), sP (wC S (cset (sc S) 2 0)))) 7 229)) (n := 22) dX2_begin_19 gf_X2_41 (hR.kd (lvC h3 (by omega))) (hR.iv (lvC h3 (by omega)) (by decide) (by decide)) rfl ?_
  refine zs_iconst (v := 1) (n := 23) dX2_begin_22 (by decide) rfl ?_
  refine zs_iadd (n := 24) dX2_begin_23 rfl ?_
  refine zw_i (r := 7) (n := 27) dX2_begin_24 pf_X2_begin_41 hR (lvC h3 (by omega)) (hR.kd (lvC h3 (by omega))) ⟨rfl, rfl⟩ (by decide) rfl ?_
  intro M hR hv
  refine zs_return dX2_begin_27 rfl ?_
  exact hQ _ hR
theorem c_endRain (hR : zRp Z Λ S M) (h3 : sc S 3 = 1) : zG Z l 0 mth_X10_endRain [.ref (Λ 5)] M 0 0 none (zRp Z Λ (sc S, u2 (u2 (sV S) 5 480 0) 5 481 (-1), sW S, sT S, sP S)) := by
  intro Q hQ
  have hl : zlv (sc S) 5 := lvC h3 (by omega)
  exact m_endRain (hR.kd hl) Q (hQ _ ((hR.sI (k := 480) hl (by decide) (by decide) (by decide)).sI (k := 481) hl (by decide) (by decide) (by decide)))
end ZCLEAR
