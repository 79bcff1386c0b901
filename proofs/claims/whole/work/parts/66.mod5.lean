/-! THE MODEL: which act is free, counts, orders -/
section ZMOD5
variable {Z : zPar} {l : Launch} {Λ : Nat → Nat} {S : zSt} {M M0 : zMem} {d d' : Nat} {mm : zMeth} {pc n nc ns ix nc1 ns1 : Nat} {L : List (Nat × Value)} {st : List Value} {Q : zO → zMem → Prop}
/-- an int row of the moment -/
def zTr (M : zMem) (q g N : Nat) (row : Nat → Int32) : Prop := zTmp M q g ∧ mK M q = 1 ∧ mN M q = N ∧ aI M q = row
theorem zTr.keep {M' : zMem} {q g N : Nat} {row : Nat → Int32} (h : zTr M q g N row) (h1 : zAg M M' q) : zTr M' q g N row := ⟨h.1.keep h1, h1.1.trans h.2.1, h1.2.1.trans h.2.2.1, h1.2.2.2.2.2.1.trans h.2.2.2⟩
theorem zt_iald {q g N i : Nat} {row : Nat → Int32} (hd : decode (zMC mm) pc = .ok (.iaload, 1)) (hT : zTr M q g N row) (hi : i < N) (hN : N < 2 ^ 31) (hn : pc + 1 = n) (kk : zX Z l d mm n L (.int (row i) :: st) M nc ns Q) : zX Z l d mm pc L (.int (nI i) :: .ref q :: st) M nc ns Q :=
  zs_ialdv hd hT.2.1 (by rw [hT.2.2.1]; exact vp_in_nI hi hN) (by rw [nI_clamp (by omega), hT.2.2.2]) hn kk
theorem zt_iast {q g N i : Nat} {row : Nat → Int32} {x : Int32} (hd : decode (zMC mm) pc = .ok (.iastore, 1)) (hR : zRp Z Λ S M) (hT : zTr M q g N row) (hi : i < N) (hN : N < 2 ^ 31) (hn : pc + 1 = n) (kk : ∀ M', zRp Z Λ S M' → zTr M' q g N (u1 row i x) → zX Z l d mm n L st M' nc ns Q) : zX Z l d mm pc L (.int x :: .int (nI i) :: .ref q :: st) M nc ns Q := by
  refine zs_iast hd hT.2.1 (by rw [hT.2.2.1]; exact vp_in_nI hi hN) hn ?_
  rw [nI_clamp (by omega)]
  refine kk _ (hR.tmp hT.1 (fun a ha => ⟨rfl, rfl, rfl, rfl, rfl, u2_ne ha, rfl, rfl, rfl⟩)) ⟨hT.1, hT.2.1, hT.2.2.1, ?_⟩
  show u2 (aI M) q i x q = u1 row i x
  rw [u2_row, hT.2.2.2]
  rfl
def fSb (p a : Int32) : Int32 := (p >>> (a &&& 31)) &&& 1
def fFrm (S : zSt) (a : Nat) (p : Int32) (j : Nat) : Bool := zit (fun k b => b && (decide (fSb p (nI k) = 1) || decide (sW S (1030 + k) a = 0))) j (decide (fSb p (nI a) = 0))
theorem k_isFree {a : Nat} {p : Int32} (hR : zRp Z Λ S M) (h4 : sc S 4 = 1) (ha : a < sc S 1001) : zD Z l 1 mth_X16_isFree [.ref (Λ 1001), .int (nI a), .int p] M 0 0 (some (.int (zb (fFrm S a p (sc S 1001))))) M := by
  intro Q hQ
  have hb2 : sc S 1001 ≤ 8 := hR.bnd.2.1.2.1
  show zX Z l 1 mth_X16_isFree 0 [(0, .ref (Λ 1001)), (1, .int (nI a)), (2, .int p)] [] M 0 0 Q
  refine zs_iload_n (n := 1) dX16_isFree_0 rfl rfl ?_
  refine zs_iload_n (n := 2) dX16_isFree_1 rfl rfl ?_
  refine zs_ishr (n := 3) dX16_isFree_2 rfl ?_
  refine zs_iconst (v := 1) (n := 4) dX16_isFree_3 (by decide) rfl ?_
  refine zs_iand (n := 5) dX16_isFree_4 rfl ?_
  refine zs_if_ne (tgt := 12) (n := 8) dX16_isFree_5 (by decide) rfl (fun h5 => ?_) (fun h5 => ?_)
  · refine zs_iconst (v := 0) (n := 13) dX16_isFree_12 (by decide) rfl ?_
    refine zs_istore_n (n := 14) dX16_isFree_13 (by decide) rfl ?_
    refine zs_iconst (v := 0) (n := 15) dX16_isFree_14 (by decide) rfl ?_
    refine zs_istore (n := 17) dX16_isFree_15 (by decide) rfl ?_
    refine zX.sub (L' := [(0, .ref (Λ 1001)), (1, .int (nI a)), (2, .int p), (3, .int (zb (fFrm S a p 0))), (4, .int (nI 0))]) ⟨rfl, rfl, rfl, (by first | (rw [show fFrm S a p 0 = true from decide_eq_true h5]; rfl) | (rw [show fFrm S a p 0 = false from decide_eq_false h5]; rfl)), rfl, trivial⟩ ?_
    refine zloop (n := sc S 1001) (X := fun j => zX Z l 1 mth_X16_isFree 17 [(0, .ref (Λ 1001)), (1, .int (nI a)), (2, .int p), (3, .int (zb (fFrm S a p j))), (4, .int (nI j))] [] M 0 0 Q) (fun j hj ih => ?_) ?_ 0 (Nat.zero_le _)
    · have hb9 : sc S 1001 ≤ 8 := hR.bnd.2.1.2.1
      have hj8 : j < 8 := by omega
      refine zs_iload (n := 19) dX16_isFree_17 rfl rfl ?_
      refine zs_aload_n (n := 20) dX16_isFree_19 rfl rfl ?_
      refine zs_getr (b := (Λ 1017)) (n := 23) dX16_isFree_20 gf_X16_16 (hR.kd (lvM h4 (by omega))) (hR.pt (lvM h4 (by omega)) rfl (by decide)) rfl ?_
      refine zc_size (c := sc S 1001) (n := 26) dX16_isFree_23 ml_X16_46 (hR.lA' h4) (by simp) (by omega) rfl ?_
      refine zs_icmp_ge (tgt := 67) (n := 29) dX16_isFree_26 (by decide) rfl (fun h => absurd h (nI_ge hj (by omega))) (fun _ => ?_)
      refine zs_iload_n (n := 30) dX16_isFree_29 rfl rfl ?_
      refine zs_if_eq (tgt := 59) (n := 33) dX16_isFree_30 (by decide) rfl (fun h30 => ?_) (fun h30 => ?_)
      · refine zs_iconst (v := 0) (n := 60) dX16_isFree_59 (by decide) rfl ?_
        refine zs_istore_n (n := 61) dX16_isFree_60 (by decide) rfl ?_
        refine zs_iinc (v := (nI (j + 1))) (n := 64) dX16_isFree_61 rfl (nI_1 _) (by decide) rfl ?_
        refine zs_goto (tgt := 17) dX16_isFree_64 (by decide) ?_
        refine zX.sub (L' := [(0, .ref (Λ 1001)), (1, .int (nI a)), (2, .int p), (3, .int (zb (fFrm S a p (j + 1)))), (4, .int (nI (j + 1)))]) ⟨rfl, rfl, rfl, (show some (Value.int (0 : Int32)) = some (Value.int (zb (fFrm S a p (j + 1)))) from congrArg (fun z => some (Value.int z)) (by rw [show fFrm S a p (j + 1) = (fFrm S a p j && (decide (fSb p (nI j) = 1) || decide (sW S (1030 + j) a = 0))) from rfl]; first | (rw [zb0.mp h30]; rfl) | (rw [zb1.mp h30, decide_eq_true (p := fSb p (nI j) = 1) h40]; rfl) | (rw [zb1.mp h30, decide_eq_false (p := fSb p (nI j) = 1) h40, decide_eq_true h52]; rfl) | (rw [zb1.mp h30, decide_eq_false (p := fSb p (nI j) = 1) h40, decide_eq_false h52]; rfl))), rfl, trivial⟩ ?_
        exact ih
      · refine zs_iload_n (n := 34) dX16_isFree_33 rfl rfl ?_
        refine zs_iload (n := 36) dX16_isFree_34 rfl rfl ?_
        refine zs_ishr (n := 37) dX16_isFree_36 rfl ?_
        refine zs_iconst (v := 1) (n := 38) dX16_isFree_37 (by decide) rfl ?_
        refine zs_iand (n := 39) dX16_isFree_38 rfl ?_
        refine zs_iconst (v := 1) (n := 40) dX16_isFree_39 (by decide) rfl ?_
        refine zs_icmp_eq (tgt := 55) (n := 43) dX16_isFree_40 (by decide) rfl (fun h40 => ?_) (fun h40 => ?_)
        · refine zs_iconst (v := 1) (n := 56) dX16_isFree_55 (by decide) rfl ?_
          refine zs_goto (tgt := 60) dX16_isFree_56 (by decide) ?_
          refine zs_istore_n (n := 61) dX16_isFree_60 (by decide) rfl ?_
          refine zs_iinc (v := (nI (j + 1))) (n := 64) dX16_isFree_61 rfl (nI_1 _) (by decide) rfl ?_
          refine zs_goto (tgt := 17) dX16_isFree_64 (by decide) ?_
          refine zX.sub (L' := [(0, .ref (Λ 1001)), (1, .int (nI a)), (2, .int p), (3, .int (zb (fFrm S a p (j + 1)))), (4, .int (nI (j + 1)))]) ⟨rfl, rfl, rfl, (show some (Value.int (1 : Int32)) = some (Value.int (zb (fFrm S a p (j + 1)))) from congrArg (fun z => some (Value.int z)) (by rw [show fFrm S a p (j + 1) = (fFrm S a p j && (decide (fSb p (nI j) = 1) || decide (sW S (1030 + j) a = 0))) from rfl]; first | (rw [zb0.mp h30]; rfl) | (rw [zb1.mp h30, decide_eq_true (p := fSb p (nI j) = 1) h40]; rfl) | (rw [zb1.mp h30, decide_eq_false (p := fSb p (nI j) = 1) h40, decide_eq_true h52]; rfl) | (rw [zb1.mp h30, decide_eq_false (p := fSb p (nI j) = 1) h40, decide_eq_false h52]; rfl))), rfl, trivial⟩ ?_
          exact ih
        · refine zs_aload_n (n := 44) dX16_isFree_43 rfl rfl ?_
          refine zs_getr (b := (Λ 1025)) (n := 47) dX16_isFree_44 gf_X16_30 (hR.kd (lvM h4 (by omega))) (hR.pt (lvM h4 (by omega)) rfl (by decide)) rfl ?_
          refine zs_iload (n := 49) dX16_isFree_47 rfl rfl ?_
          refine zs_aald (b := (Λ (1030 + j))) (n := 50) dX16_isFree_49 (Or.inr (hR.kd (lvM h4 (by omega)))) (by rw [show mN M (Λ 1025) = 8 from (hR.ln (lvM h4 (by omega)) rfl (by decide))]; exact vp_in_nI hj8 (by omega)) (by rw [nI_clamp (by omega)]; exact hR.cus h4 hj8) rfl ?_
          refine zs_iload_n (n := 51) dX16_isFree_50 rfl rfl ?_
          refine zs_zaldv (x := (sW S (1030 + j) a)) (n := 52) dX16_isFree_51 (hR.kC h4 hj8) (by rw [show mN M (Λ (1030 + j)) = 8 from (hR.nC h4 hj8)]; exact vp_in_nI (show a < 8 from by omega) (by omega)) (by rw [nI_clamp (by omega)]; exact hR.av (lvM h4 (by omega))) rfl ?_
          refine zs_if_ne (tgt := 59) (n := 55) dX16_isFree_52 (by decide) rfl (fun h52 => ?_) (fun h52 => ?_)
          · refine zs_iconst (v := 0) (n := 60) dX16_isFree_59 (by decide) rfl ?_
            refine zs_istore_n (n := 61) dX16_isFree_60 (by decide) rfl ?_
            refine zs_iinc (v := (nI (j + 1))) (n := 64) dX16_isFree_61 rfl (nI_1 _) (by decide) rfl ?_
            refine zs_goto (tgt := 17) dX16_isFree_64 (by decide) ?_
            refine zX.sub (L' := [(0, .ref (Λ 1001)), (1, .int (nI a)), (2, .int p), (3, .int (zb (fFrm S a p (j + 1)))), (4, .int (nI (j + 1)))]) ⟨rfl, rfl, rfl, (show some (Value.int (0 : Int32)) = some (Value.int (zb (fFrm S a p (j + 1)))) from congrArg (fun z => some (Value.int z)) (by rw [show fFrm S a p (j + 1) = (fFrm S a p j && (decide (fSb p (nI j) = 1) || decide (sW S (1030 + j) a = 0))) from rfl]; first | (rw [zb0.mp h30]; rfl) | (rw [zb1.mp h30, decide_eq_true (p := fSb p (nI j) = 1) h40]; rfl) | (rw [zb1.mp h30, decide_eq_false (p := fSb p (nI j) = 1) h40, decide_eq_true h52]; rfl) | (rw [zb1.mp h30, decide_eq_false (p := fSb p (nI j) = 1) h40, decide_eq_false h52]; rfl))), rfl, trivial⟩ ?_
            exact ih
          · refine zs_iconst (v := 1) (n := 56) dX16_isFree_55 (by decide) rfl ?_
            refine zs_goto (tgt := 60) dX16_isFree_56 (by decide) ?_
            refine zs_istore_n (n := 61) dX16_isFree_60 (by decide) rfl ?_
            refine zs_iinc (v := (nI (j + 1))) (n := 64) dX16_isFree_61 rfl (nI_1 _) (by decide) rfl ?_
            refine zs_goto (tgt := 17) dX16_isFree_64 (by decide) ?_
            refine zX.sub (L' := [(0, .ref (Λ 1001)), (1, .int (nI a)), (2, .int p), (3, .int (zb (fFrm S a p (j + 1)))), (4, .int (nI (j + 1)))]) ⟨rfl, rfl, rfl, (show some (Value.int (1 : Int32)) = some (Value.int (zb (fFrm S a p (j + 1)))) from congrArg (fun z => some (Value.int z)) (by rw [show fFrm S a p (j + 1) = (fFrm S a p j && (decide (fSb p (nI j) = 1) || decide (sW S (1030 + j) a = 0))) from rfl]; first | (rw [zb0.mp h30]; rfl) | (rw [zb1.mp h30, decide_eq_true (p := fSb p (nI j) = 1) h40]; rfl) | (rw [zb1.mp h30, decide_eq_false (p := fSb p (nI j) = 1) h40, decide_eq_true h52]; rfl) | (rw [zb1.mp h30, decide_eq_false (p := fSb p (nI j) = 1) h40, decide_eq_false h52]; rfl))), rfl, trivial⟩ ?_
            exact ih
    · have hb9 : sc S 1001 ≤ 8 := hR.bnd.2.1.2.1
      refine zs_iload (n := 19) dX16_isFree_17 rfl rfl ?_
      refine zs_aload_n (n := 20) dX16_isFree_19 rfl rfl ?_
      refine zs_getr (b := (Λ 1017)) (n := 23) dX16_isFree_20 gf_X16_16 (hR.kd (lvM h4 (by omega))) (hR.pt (lvM h4 (by omega)) rfl (by decide)) rfl ?_
      refine zc_size (c := sc S 1001) (n := 26) dX16_isFree_23 ml_X16_46 (hR.lA' h4) (by simp) (by omega) rfl ?_
      refine zs_icmp_ge (tgt := 67) (n := 29) dX16_isFree_26 (by decide) rfl (fun _ => ?_) (fun h => absurd (nI_le (Nat.le_refl _) (by omega)) h)
      refine zs_iload_n (n := 68) dX16_isFree_67 rfl rfl ?_
      refine zs_ireturn dX16_isFree_68 ⟨_, rfl, (znb _)⟩ ?_
      exact hQ
  · refine zs_iconst (v := 1) (n := 9) dX16_isFree_8 (by decide) rfl ?_
    refine zs_goto (tgt := 13) dX16_isFree_9 (by decide) ?_
    refine zs_istore_n (n := 14) dX16_isFree_13 (by decide) rfl ?_
    refine zs_iconst (v := 0) (n := 15) dX16_isFree_14 (by decide) rfl ?_
    refine zs_istore (n := 17) dX16_isFree_15 (by decide) rfl ?_
    refine zX.sub (L' := [(0, .ref (Λ 1001)), (1, .int (nI a)), (2, .int p), (3, .int (zb (fFrm S a p 0))), (4, .int (nI 0))]) ⟨rfl, rfl, rfl, (by first | (rw [show fFrm S a p 0 = true from decide_eq_true h5]; rfl) | (rw [show fFrm S a p 0 = false from decide_eq_false h5]; rfl)), rfl, trivial⟩ ?_
    refine zloop (n := sc S 1001) (X := fun j => zX Z l 1 mth_X16_isFree 17 [(0, .ref (Λ 1001)), (1, .int (nI a)), (2, .int p), (3, .int (zb (fFrm S a p j))), (4, .int (nI j))] [] M 0 0 Q) (fun j hj ih => ?_) ?_ 0 (Nat.zero_le _)
    · have hb9 : sc S 1001 ≤ 8 := hR.bnd.2.1.2.1
      have hj8 : j < 8 := by omega
      refine zs_iload (n := 19) dX16_isFree_17 rfl rfl ?_
      refine zs_aload_n (n := 20) dX16_isFree_19 rfl rfl ?_
      refine zs_getr (b := (Λ 1017)) (n := 23) dX16_isFree_20 gf_X16_16 (hR.kd (lvM h4 (by omega))) (hR.pt (lvM h4 (by omega)) rfl (by decide)) rfl ?_
      refine zc_size (c := sc S 1001) (n := 26) dX16_isFree_23 ml_X16_46 (hR.lA' h4) (by simp) (by omega) rfl ?_
      refine zs_icmp_ge (tgt := 67) (n := 29) dX16_isFree_26 (by decide) rfl (fun h => absurd h (nI_ge hj (by omega))) (fun _ => ?_)
      refine zs_iload_n (n := 30) dX16_isFree_29 rfl rfl ?_
      refine zs_if_eq (tgt := 59) (n := 33) dX16_isFree_30 (by decide) rfl (fun h30 => ?_) (fun h30 => ?_)
      · refine zs_iconst (v := 0) (n := 60) dX16_isFree_59 (by decide) rfl ?_
        refine zs_istore_n (n := 61) dX16_isFree_60 (by decide) rfl ?_
        refine zs_iinc (v := (nI (j + 1))) (n := 64) dX16_isFree_61 rfl (nI_1 _) (by decide) rfl ?_
        refine zs_goto (tgt := 17) dX16_isFree_64 (by decide) ?_
        refine zX.sub (L' := [(0, .ref (Λ 1001)), (1, .int (nI a)), (2, .int p), (3, .int (zb (fFrm S a p (j + 1)))), (4, .int (nI (j + 1)))]) ⟨rfl, rfl, rfl, (show some (Value.int (0 : Int32)) = some (Value.int (zb (fFrm S a p (j + 1)))) from congrArg (fun z => some (Value.int z)) (by rw [show fFrm S a p (j + 1) = (fFrm S a p j && (decide (fSb p (nI j) = 1) || decide (sW S (1030 + j) a = 0))) from rfl]; first | (rw [zb0.mp h30]; rfl) | (rw [zb1.mp h30, decide_eq_true (p := fSb p (nI j) = 1) h40]; rfl) | (rw [zb1.mp h30, decide_eq_false (p := fSb p (nI j) = 1) h40, decide_eq_true h52]; rfl) | (rw [zb1.mp h30, decide_eq_false (p := fSb p (nI j) = 1) h40, decide_eq_false h52]; rfl))), rfl, trivial⟩ ?_
        exact ih
      · refine zs_iload_n (n := 34) dX16_isFree_33 rfl rfl ?_
        refine zs_iload (n := 36) dX16_isFree_34 rfl rfl ?_
        refine zs_ishr (n := 37) dX16_isFree_36 rfl ?_
        refine zs_iconst (v := 1) (n := 38) dX16_isFree_37 (by decide) rfl ?_
        refine zs_iand (n := 39) dX16_isFree_38 rfl ?_
        refine zs_iconst (v := 1) (n := 40) dX16_isFree_39 (by decide) rfl ?_
        refine zs_icmp_eq (tgt := 55) (n := 43) dX16_isFree_40 (by decide) rfl (fun h40 => ?_) (fun h40 => ?_)
        · refine zs_iconst (v := 1) (n := 56) dX16_isFree_55 (by decide) rfl ?_
          refine zs_goto (tgt := 60) dX16_isFree_56 (by decide) ?_
          refine zs_istore_n (n := 61) dX16_isFree_60 (by decide) rfl ?_
          refine zs_iinc (v := (nI (j + 1))) (n := 64) dX16_isFree_61 rfl (nI_1 _) (by decide) rfl ?_
          refine zs_goto (tgt := 17) dX16_isFree_64 (by decide) ?_
          refine zX.sub (L' := [(0, .ref (Λ 1001)), (1, .int (nI a)), (2, .int p), (3, .int (zb (fFrm S a p (j + 1)))), (4, .int (nI (j + 1)))]) ⟨rfl, rfl, rfl, (show some (Value.int (1 : Int32)) = some (Value.int (zb (fFrm S a p (j + 1)))) from congrArg (fun z => some (Value.int z)) (by rw [show fFrm S a p (j + 1) = (fFrm S a p j && (decide (fSb p (nI j) = 1) || decide (sW S (1030 + j) a = 0))) from rfl]; first | (rw [zb0.mp h30]; rfl) | (rw [zb1.mp h30, decide_eq_true (p := fSb p (nI j) = 1) h40]; rfl) | (rw [zb1.mp h30, decide_eq_false (p := fSb p (nI j) = 1) h40, decide_eq_true h52]; rfl) | (rw [zb1.mp h30, decide_eq_false (p := fSb p (nI j) = 1) h40, decide_eq_false h52]; rfl))), rfl, trivial⟩ ?_
          exact ih
        · refine zs_aload_n (n := 44) dX16_isFree_43 rfl rfl ?_
          refine zs_getr (b := (Λ 1025)) (n := 47) dX16_isFree_44 gf_X16_30 (hR.kd (lvM h4 (by omega))) (hR.pt (lvM h4 (by omega)) rfl (by decide)) rfl ?_
          refine zs_iload (n := 49) dX16_isFree_47 rfl rfl ?_
          refine zs_aald (b := (Λ (1030 + j))) (n := 50) dX16_isFree_49 (Or.inr (hR.kd (lvM h4 (by omega)))) (by rw [show mN M (Λ 1025) = 8 from (hR.ln (lvM h4 (by omega)) rfl (by decide))]; exact vp_in_nI hj8 (by omega)) (by rw [nI_clamp (by omega)]; exact hR.cus h4 hj8) rfl ?_
          refine zs_iload_n (n := 51) dX16_isFree_50 rfl rfl ?_
          refine zs_zaldv (x := (sW S (1030 + j) a)) (n := 52) dX16_isFree_51 (hR.kC h4 hj8) (by rw [show mN M (Λ (1030 + j)) = 8 from (hR.nC h4 hj8)]; exact vp_in_nI (show a < 8 from by omega) (by omega)) (by rw [nI_clamp (by omega)]; exact hR.av (lvM h4 (by omega))) rfl ?_
          refine zs_if_ne (tgt := 59) (n := 55) dX16_isFree_52 (by decide) rfl (fun h52 => ?_) (fun h52 => ?_)
          · refine zs_iconst (v := 0) (n := 60) dX16_isFree_59 (by decide) rfl ?_
            refine zs_istore_n (n := 61) dX16_isFree_60 (by decide) rfl ?_
            refine zs_iinc (v := (nI (j + 1))) (n := 64) dX16_isFree_61 rfl (nI_1 _) (by decide) rfl ?_
            refine zs_goto (tgt := 17) dX16_isFree_64 (by decide) ?_
            refine zX.sub (L' := [(0, .ref (Λ 1001)), (1, .int (nI a)), (2, .int p), (3, .int (zb (fFrm S a p (j + 1)))), (4, .int (nI (j + 1)))]) ⟨rfl, rfl, rfl, (show some (Value.int (0 : Int32)) = some (Value.int (zb (fFrm S a p (j + 1)))) from congrArg (fun z => some (Value.int z)) (by rw [show fFrm S a p (j + 1) = (fFrm S a p j && (decide (fSb p (nI j) = 1) || decide (sW S (1030 + j) a = 0))) from rfl]; first | (rw [zb0.mp h30]; rfl) | (rw [zb1.mp h30, decide_eq_true (p := fSb p (nI j) = 1) h40]; rfl) | (rw [zb1.mp h30, decide_eq_false (p := fSb p (nI j) = 1) h40, decide_eq_true h52]; rfl) | (rw [zb1.mp h30, decide_eq_false (p := fSb p (nI j) = 1) h40, decide_eq_false h52]; rfl))), rfl, trivial⟩ ?_
            exact ih
          · refine zs_iconst (v := 1) (n := 56) dX16_isFree_55 (by decide) rfl ?_
            refine zs_goto (tgt := 60) dX16_isFree_56 (by decide) ?_
            refine zs_istore_n (n := 61) dX16_isFree_60 (by decide) rfl ?_
            refine zs_iinc (v := (nI (j + 1))) (n := 64) dX16_isFree_61 rfl (nI_1 _) (by decide) rfl ?_
            refine zs_goto (tgt := 17) dX16_isFree_64 (by decide) ?_
            refine zX.sub (L' := [(0, .ref (Λ 1001)), (1, .int (nI a)), (2, .int p), (3, .int (zb (fFrm S a p (j + 1)))), (4, .int (nI (j + 1)))]) ⟨rfl, rfl, rfl, (show some (Value.int (1 : Int32)) = some (Value.int (zb (fFrm S a p (j + 1)))) from congrArg (fun z => some (Value.int z)) (by rw [show fFrm S a p (j + 1) = (fFrm S a p j && (decide (fSb p (nI j) = 1) || decide (sW S (1030 + j) a = 0))) from rfl]; first | (rw [zb0.mp h30]; rfl) | (rw [zb1.mp h30, decide_eq_true (p := fSb p (nI j) = 1) h40]; rfl) | (rw [zb1.mp h30, decide_eq_false (p := fSb p (nI j) = 1) h40, decide_eq_true h52]; rfl) | (rw [zb1.mp h30, decide_eq_false (p := fSb p (nI j) = 1) h40, decide_eq_false h52]; rfl))), rfl, trivial⟩ ?_
            exact ih
    · have hb9 : sc S 1001 ≤ 8 := hR.bnd.2.1.2.1
      refine zs_iload (n := 19) dX16_isFree_17 rfl rfl ?_
      refine zs_aload_n (n := 20) dX16_isFree_19 rfl rfl ?_
      refine zs_getr (b := (Λ 1017)) (n := 23) dX16_isFree_20 gf_X16_16 (hR.kd (lvM h4 (by omega))) (hR.pt (lvM h4 (by omega)) rfl (by decide)) rfl ?_
      refine zc_size (c := sc S 1001) (n := 26) dX16_isFree_23 ml_X16_46 (hR.lA' h4) (by simp) (by omega) rfl ?_
      refine zs_icmp_ge (tgt := 67) (n := 29) dX16_isFree_26 (by decide) rfl (fun _ => ?_) (fun h => absurd (nI_le (Nat.le_refl _) (by omega)) h)
      refine zs_iload_n (n := 68) dX16_isFree_67 rfl rfl ?_
      refine zs_ireturn dX16_isFree_68 ⟨_, rfl, (znb _)⟩ ?_
      exact hQ
def fCnK (S : zSt) (p k : Nat) (row : Nat → Int32) : Nat → Int32 := zit (fun a row => u1 row p (row p + (if fFrm S a (nI p) (sc S 1001) = true then row (p ||| 2 ^ a) else 0))) k row
def fCn (S : zSt) (F j : Nat) : Nat → Int32 := zit (fun j row => fCnK S (F - 1 - j) (sc S 1001) row) j (u1 (fun _ => 0) F 1)
theorem nI_m2 (F : Nat) : nI (F + 1) - (2 : Int32) = nI (F - 0) - 1 := by
  rw [nI_succ, Nat.sub_zero, Int32.sub_eq_add_neg, Int32.sub_eq_add_neg, Int32.add_assoc]
  have e : (1 : Int32) + -2 = -1 := by decide
  rw [e]
theorem zor_lt2 {n F p k : Nat} (hF : F + 1 = 2 ^ n) (hk : k < n) (hp : p < F + 1) : p ||| 2 ^ k < F + 1 := by
  rw [hF] at hp ⊢
  exact Nat.or_lt_two_pow hp (Nat.pow_lt_pow_right (by decide) hk)
theorem k_counts {F : Nat} (hR : zRp Z Λ S M) (h4 : sc S 4 = 1) (hF : F + 1 = 2 ^ sc S 1001) {Q : zO → zMem → Prop} (hQ : ∀ q M', zRp Z Λ S M' → zTr M' q 3000 (F + 1) (fCn S F F) → Q (.inl (some (.ref q))) M') : zX Z l 2 mth_X16_counts 0 (lv_args 0 [.ref (Λ 1001)]) [] M 1 256 Q := by
  have hb2 : sc S 1001 ≤ 8 := hR.bnd.2.1.2.1
  have hp8 : 2 ^ sc S 1001 ≤ 2 ^ 8 := Nat.pow_le_pow_right (by decide) hb2
  have hF2 : F < 256 := by omega
  show zX Z l 2 mth_X16_counts 0 [(0, .ref (Λ 1001))] [] M 1 256 Q
  refine zs_iconst (v := 1) (n := 1) dX16_counts_0 (by decide) rfl ?_
  refine zs_aload_n (n := 2) dX16_counts_1 rfl rfl ?_
  refine zs_getr (b := (Λ 1017)) (n := 5) dX16_counts_2 gf_X16_16 (hR.kd (lvM h4 (by omega))) (hR.pt (lvM h4 (by omega)) rfl (by decide)) rfl ?_
  refine zc_size (c := sc S 1001) (n := 8) dX16_counts_5 ml_X16_46 (hR.lA' h4) (by simp) (by omega) rfl ?_
  refine zs_ishl (n := 9) dX16_counts_8 rfl ?_
  rw [show (1 : Int32) <<< (nI (sc S 1001) &&& 31) = nI (F + 1) from by rw [zbit_pow _ (by omega), ← hF]]
  refine zs_newI (N := F + 1) (nc1 := 0) (ns1 := 0) (n := 11) 3000 dX16_counts_9 w_ac_int (nI_pos (by omega)) (nI_clamp (by omega)) (by omega) rfl (by omega) (by omega) (fun q9 hq9 => ?_)
  have hT : zTr (zNew M q9 1 (F + 1) 3000) q9 3000 (F + 1) (fun _ => 0) := ⟨⟨by decide, u1_at, Or.inl u1_at⟩, u1_at, u1_at, u1_at⟩
  have hag9 : ∀ a, mK M a ≠ 0 → zAg M (zNew M q9 1 (F + 1) 3000) a := zNew_ag hq9
  have hR := hR.new0 (kind := 1) (len := F + 1) (g := 3000) hq9
  revert hR hT
  generalize zNew M q9 1 (F + 1) 3000 = M
  intro hT hR
  refine zs_astore_n (n := 12) dX16_counts_11 (by decide) rfl ?_
  refine zs_aload_n (n := 13) dX16_counts_12 rfl rfl ?_
  refine zs_aload_n (n := 14) dX16_counts_13 rfl rfl ?_
  refine zs_alen (n := 15) dX16_counts_14 (by rw [hT.2.1]; decide) rfl ?_
  rw [hT.2.2.1]
  refine zs_iconst (v := 1) (n := 16) dX16_counts_15 (by decide) rfl ?_
  refine zs_isub (n := 17) dX16_counts_16 rfl ?_
  rw [show nI (F + 1) - (1 : Int32) = nI F from nI_pred _]
  refine zs_iconst (v := 1) (n := 18) dX16_counts_17 (by decide) rfl ?_
  refine zt_iast (n := 19) dX16_counts_18 hR hT (show F < F + 1 from by omega) (by omega) rfl ?_
  intro M hR hT
  refine zs_aload_n (n := 20) dX16_counts_19 rfl rfl ?_
  refine zs_alen (n := 21) dX16_counts_20 (by rw [hT.2.1]; decide) rfl ?_
  rw [hT.2.2.1]
  refine zs_iconst (v := 2) (n := 22) dX16_counts_21 (by decide) rfl ?_
  refine zs_isub (n := 23) dX16_counts_22 rfl ?_
  rw [show nI (F + 1) - (2 : Int32) = nI (F - 0) - 1 from nI_m2 F]
  refine zs_istore_n (n := 24) dX16_counts_23 (by decide) rfl ?_
  refine zX.sub (L' := [(0, .ref (Λ 1001)), (1, .ref q9), (2, .int (nI (F - 0) - 1))]) ⟨rfl, rfl, rfl, trivial⟩ ?_
  refine zloop (n := F) (X := fun j => ∀ M, zRp Z Λ S M ∧ zTr M q9 3000 (F + 1) (fCn S F j) → zX Z l 2 mth_X16_counts 24 [(0, .ref (Λ 1001)), (1, .ref q9), (2, .int (nI (F - j) - 1))] [] M 0 0 Q) (fun j hj ih => ?_) ?_ 0 (Nat.zero_le _) M ?_
  · intro M hR9
    obtain ⟨hR, hT⟩ := hR9
    have hb9 : sc S 1001 ≤ 8 := hR.bnd.2.1.2.1
    rw [show nI (F - j) - 1 = nI (F - 1 - j) from by rw [show (1 : Int32) = nI 1 from rfl, pk_sub (by omega), show F - j - 1 = F - 1 - j from by omega]]
    have hFj : F - 1 - j < F + 1 := by omega
    refine zs_iload_n (n := 25) dX16_counts_24 rfl rfl ?_
    refine zs_if_lt (tgt := 79) (n := 28) dX16_counts_25 (by decide) rfl (fun h => absurd h (nI_pos (by omega))) (fun _ => ?_)
    refine zs_iconst (v := 0) (n := 29) dX16_counts_28 (by decide) rfl ?_
    refine zs_istore_n (n := 30) dX16_counts_29 (by decide) rfl ?_
    refine zX.sub (L' := [(0, .ref (Λ 1001)), (1, .ref q9), (2, .int (nI (F - 1 - j))), (3, .int (nI 0))]) ⟨rfl, rfl, rfl, rfl, trivial⟩ ?_
    refine zloop (n := sc S 1001) (X := fun k => ∀ M, zRp Z Λ S M ∧ zTr M q9 3000 (F + 1) (fCnK S (F - 1 - j) k (fCn S F j)) → zX Z l 2 mth_X16_counts 30 [(0, .ref (Λ 1001)), (1, .ref q9), (2, .int (nI (F - 1 - j))), (3, .int (nI k))] [] M 0 0 Q) (fun k hk ihk => ?_) ?_ 0 (Nat.zero_le _) M ?_
    · intro M hR9
      obtain ⟨hR, hT⟩ := hR9
      have hb9 : sc S 1001 ≤ 8 := hR.bnd.2.1.2.1
      have hk8 : k < 8 := by omega
      refine zs_iload_n (n := 31) dX16_counts_30 rfl rfl ?_
      refine zs_aload_n (n := 32) dX16_counts_31 rfl rfl ?_
      refine zs_getr (b := (Λ 1017)) (n := 35) dX16_counts_32 gf_X16_16 (hR.kd (lvM h4 (by omega))) (hR.pt (lvM h4 (by omega)) rfl (by decide)) rfl ?_
      refine zc_size (c := sc S 1001) (n := 38) dX16_counts_35 ml_X16_46 (hR.lA' h4) (by simp) (by omega) rfl ?_
      refine zs_icmp_ge (tgt := 73) (n := 41) dX16_counts_38 (by decide) rfl (fun h => absurd h (nI_ge hk (by omega))) (fun _ => ?_)
      refine zs_aload_n (n := 42) dX16_counts_41 rfl rfl ?_
      refine zs_iload_n (n := 43) dX16_counts_42 rfl rfl ?_
      refine zs_dup2 (n := 44) dX16_counts_43 rfl rfl rfl ?_
      refine zt_iald (n := 45) dX16_counts_44 hT hFj (by omega) rfl ?_
      refine zs_aload_n (n := 46) dX16_counts_45 rfl rfl ?_
      refine zs_iload_n (n := 47) dX16_counts_46 rfl rfl ?_
      refine zs_iload_n (n := 48) dX16_counts_47 rfl rfl ?_
      refine zc_V (n := 51) (As := [.int (nI k), .int (nI (F - 1 - j))]) (ci := 21) (mc := 0) (ms := 0) dX16_counts_48 ok_X16_isFree ⟨ml_X16_133, im_X16_isFree, sl_X16_isFree⟩ rfl (hR.kd (lvM h4 (by omega))) rfl (Nat.le_of_ble_eq_true rfl) (by simp) (by omega) (Nat.le_refl _) (Nat.le_refl _) rfl rfl (k_isFree hR h4 (by omega)) ?_
      refine zs_if_eq (tgt := 64) (n := 54) dX16_counts_51 (by decide) rfl (fun h51 => ?_) (fun h51 => ?_)
      · refine zs_iconst (v := 0) (n := 65) dX16_counts_64 (by decide) rfl ?_
        refine zs_iadd (n := 66) dX16_counts_65 rfl ?_
        refine zt_iast (n := 67) dX16_counts_66 hR hT hFj (by omega) rfl ?_
        intro M hR hT
        refine zs_iinc (v := (nI (k + 1))) (n := 70) dX16_counts_67 rfl (nI_1 _) (by decide) rfl ?_
        refine zs_goto (tgt := 30) dX16_counts_70 (by decide) ?_
        refine zX.sub (L' := [(0, .ref (Λ 1001)), (1, .ref q9), (2, .int (nI (F - 1 - j))), (3, .int (nI (k + 1)))]) ⟨rfl, rfl, rfl, rfl, trivial⟩ ?_
        have hT : zTr M q9 3000 (F + 1) (fCnK S (F - 1 - j) (k + 1) (fCn S F j)) := by
          show zTr M q9 3000 (F + 1) (u1 (fCnK S (F - 1 - j) k (fCn S F j)) (F - 1 - j) (fCnK S (F - 1 - j) k (fCn S F j) (F - 1 - j) + (if fFrm S k (nI (F - 1 - j)) (sc S 1001) = true then fCnK S (F - 1 - j) k (fCn S F j) ((F - 1 - j) ||| 2 ^ k) else 0)))
          first
          | (rw [if_pos (zb1.mp h51)]; exact hT)
          | (rw [if_neg (by rw [zb0.mp h51]; decide)]; exact hT)
        exact ihk M ⟨hR, hT⟩
      · refine zs_aload_n (n := 55) dX16_counts_54 rfl rfl ?_
        refine zs_iload_n (n := 56) dX16_counts_55 rfl rfl ?_
        refine zs_iconst (v := 1) (n := 57) dX16_counts_56 (by decide) rfl ?_
        refine zs_iload_n (n := 58) dX16_counts_57 rfl rfl ?_
        refine zs_ishl (n := 59) dX16_counts_58 rfl ?_
        refine zs_ior (n := 60) dX16_counts_59 rfl ?_
        rw [zor_bit (by omega)]
        have hor : (F - 1 - j) ||| 2 ^ k < F + 1 := zor_lt2 hF (by omega) hFj
        refine zt_iald (n := 61) dX16_counts_60 hT hor (by omega) rfl ?_
        refine zs_goto (tgt := 65) dX16_counts_61 (by decide) ?_
        refine zs_iadd (n := 66) dX16_counts_65 rfl ?_
        refine zt_iast (n := 67) dX16_counts_66 hR hT hFj (by omega) rfl ?_
        intro M hR hT
        refine zs_iinc (v := (nI (k + 1))) (n := 70) dX16_counts_67 rfl (nI_1 _) (by decide) rfl ?_
        refine zs_goto (tgt := 30) dX16_counts_70 (by decide) ?_
        refine zX.sub (L' := [(0, .ref (Λ 1001)), (1, .ref q9), (2, .int (nI (F - 1 - j))), (3, .int (nI (k + 1)))]) ⟨rfl, rfl, rfl, rfl, trivial⟩ ?_
        have hT : zTr M q9 3000 (F + 1) (fCnK S (F - 1 - j) (k + 1) (fCn S F j)) := by
          show zTr M q9 3000 (F + 1) (u1 (fCnK S (F - 1 - j) k (fCn S F j)) (F - 1 - j) (fCnK S (F - 1 - j) k (fCn S F j) (F - 1 - j) + (if fFrm S k (nI (F - 1 - j)) (sc S 1001) = true then fCnK S (F - 1 - j) k (fCn S F j) ((F - 1 - j) ||| 2 ^ k) else 0)))
          first
          | (rw [if_pos (zb1.mp h51)]; exact hT)
          | (rw [if_neg (by rw [zb0.mp h51]; decide)]; exact hT)
        exact ihk M ⟨hR, hT⟩
    · intro M hR9
      obtain ⟨hR, hT⟩ := hR9
      have hb9 : sc S 1001 ≤ 8 := hR.bnd.2.1.2.1
      refine zs_iload_n (n := 31) dX16_counts_30 rfl rfl ?_
      refine zs_aload_n (n := 32) dX16_counts_31 rfl rfl ?_
      refine zs_getr (b := (Λ 1017)) (n := 35) dX16_counts_32 gf_X16_16 (hR.kd (lvM h4 (by omega))) (hR.pt (lvM h4 (by omega)) rfl (by decide)) rfl ?_
      refine zc_size (c := sc S 1001) (n := 38) dX16_counts_35 ml_X16_46 (hR.lA' h4) (by simp) (by omega) rfl ?_
      refine zs_icmp_ge (tgt := 73) (n := 41) dX16_counts_38 (by decide) rfl (fun _ => ?_) (fun h => absurd (nI_le (Nat.le_refl _) (by omega)) h)
      refine zs_iinc (n := 76) dX16_counts_73 rfl rfl (by decide) rfl ?_
      refine zs_goto (tgt := 24) dX16_counts_76 (by decide) ?_
      refine zX.sub (L' := [(0, .ref (Λ 1001)), (1, .ref q9), (2, .int (nI (F - (j + 1)) - 1))]) ⟨rfl, rfl, (show some (Value.int ((nI (F - 1 - j)) + Int32.ofInt (-1))) = some (Value.int (nI (F - (j + 1)) - 1)) from congrArg (fun z => some (Value.int z)) (by rw [show F - (j + 1) = F - 1 - j from by omega, Int32.sub_eq_add_neg]; rfl)), trivial⟩ ?_
      exact ih M ⟨hR, hT⟩
    · exact ⟨hR, hT⟩
  · intro M hR9
    obtain ⟨hR, hT⟩ := hR9
    refine zs_iload_n (n := 25) dX16_counts_24 rfl rfl ?_
    refine zs_if_lt (tgt := 79) (n := 28) dX16_counts_25 (by decide) rfl (fun _ => ?_) (fun h => absurd (by rw [Nat.sub_self]; decide) h)
    refine zs_aload_n (n := 80) dX16_counts_79 rfl rfl ?_
    refine zs_areturn dX16_counts_80 ⟨_, rfl, Or.inr ⟨_, rfl⟩⟩ ?_
    exact hQ _ _ hR hT
  · exact ⟨hR, hT⟩
end ZMOD5
