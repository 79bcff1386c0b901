/-! STREET and its pitches: methods that only look -/
section ZSTREET
variable {Z : zPar} {l : Launch} {Λ : Nat → Nat} {S : zSt} {M : zMem}
theorem c_hasPitchAt {y : Int32} (hR : zRp Z Λ S M) (h3 : sc S 3 = 1) : zD Z l 3 mth_X7_hasPitchAt [.ref (Λ 2), .int y] M 0 0 (some (.int (zb (zany (fun i => decide (sV S (100 + i) 352 = y)) (sc S 0))))) M := by
  intro Q hQ
  show zX Z l 3 mth_X7_hasPitchAt 0 [(0, .ref (Λ 2)), (1, .int y)] [] M 0 0 Q
  refine zs_iconst (v := 0) (n := 1) dX7_hasPitchAt_0 (by decide) rfl ?_
  refine zs_istore_n (n := 2) dX7_hasPitchAt_1 (by decide) rfl ?_
  refine zX.sub (L' := [(0, .ref (Λ 2)), (1, .int y), (2, .int (nI 0))]) ⟨rfl, rfl, rfl, trivial⟩ ?_
  refine zloop (n := sc S 0) (X := fun j => zany (fun i => decide (sV S (100 + i) 352 = y)) j = false → zX Z l 3 mth_X7_hasPitchAt 2 [(0, .ref (Λ 2)), (1, .int y), (2, .int (nI j))] [] M 0 0 Q) (fun j hj ih => ?_) ?_ 0 (Nat.zero_le _) ?_
  · intro H
    have hb : sc S 0 ≤ _ := hR.bnd.1.1
    refine zs_iload_n (n := 3) dX7_hasPitchAt_2 rfl rfl ?_
    refine zs_aload_n (n := 4) dX7_hasPitchAt_3 rfl rfl ?_
    refine zs_getr (b := (Λ 15)) (n := 7) dX7_hasPitchAt_4 gf_X7_10 (hR.kd (lvC h3 (by omega))) (hR.pt (lvC h3 (by omega)) rfl (by decide)) rfl ?_
    refine zc_size (c := sc S 0) (n := 10) dX7_hasPitchAt_7 ml_X7_19 (hR.lP h3) (by simp) (by omega) rfl ?_
    refine zs_icmp_ge (tgt := 39) (n := 13) dX7_hasPitchAt_10 (by decide) rfl (fun h => absurd h (nI_ge hj (by omega))) (fun _ => ?_)
    refine zs_aload_n (n := 14) dX7_hasPitchAt_13 rfl rfl ?_
    refine zs_getr (b := (Λ 15)) (n := 17) dX7_hasPitchAt_14 gf_X7_10 (hR.kd (lvC h3 (by omega))) (hR.pt (lvC h3 (by omega)) rfl (by decide)) rfl ?_
    refine zs_iload_n (n := 18) dX7_hasPitchAt_17 rfl rfl ?_
    refine zc_getb (c := sc S 0) (b := (Λ (100 + j))) (n := 21) dX7_hasPitchAt_18 ml_X7_23 (hR.lP h3) hj rfl (by simp) (by omega) rfl ?_
    refine zs_castS (ci := 11) (n := 24) dX7_hasPitchAt_21 rfl cl_X7_27 (hR.kP hj) rfl ?_
    refine zs_getv (x := (sV S (100 + j) 352)) (n := 27) dX7_hasPitchAt_24 gf_X7_29 (hR.kP hj) (hR.iv (lvP hj) (by decide) (by decide)) rfl ?_
    refine zs_iload_n (n := 28) dX7_hasPitchAt_27 rfl rfl ?_
    refine zs_icmp_ne (tgt := 33) (n := 31) dX7_hasPitchAt_28 (by decide) rfl (fun h28 => ?_) (fun h28 => ?_)
    · refine zs_iinc (v := (nI (j + 1))) (n := 36) dX7_hasPitchAt_33 rfl (nI_1 _) (by decide) rfl ?_
      refine zs_goto (tgt := 2) dX7_hasPitchAt_36 (by decide) ?_
      refine zX.sub (L' := [(0, .ref (Λ 2)), (1, .int y), (2, .int (nI (j + 1)))]) ⟨rfl, rfl, rfl, trivial⟩ ?_
      exact ih (zany_no H (by simp [h28]))
    · refine zs_iconst (v := 1) (n := 32) dX7_hasPitchAt_31 (by decide) rfl ?_
      refine zs_ireturn dX7_hasPitchAt_32 ⟨_, rfl, rfl⟩ ?_
      rw [zany_hit (p := fun i => decide (sV S (100 + i) 352 = y)) (by simp [h28]) hj] at hQ
      exact hQ
  · intro H
    have hb : sc S 0 ≤ _ := hR.bnd.1.1
    refine zs_iload_n (n := 3) dX7_hasPitchAt_2 rfl rfl ?_
    refine zs_aload_n (n := 4) dX7_hasPitchAt_3 rfl rfl ?_
    refine zs_getr (b := (Λ 15)) (n := 7) dX7_hasPitchAt_4 gf_X7_10 (hR.kd (lvC h3 (by omega))) (hR.pt (lvC h3 (by omega)) rfl (by decide)) rfl ?_
    refine zc_size (c := sc S 0) (n := 10) dX7_hasPitchAt_7 ml_X7_19 (hR.lP h3) (by simp) (by omega) rfl ?_
    refine zs_icmp_ge (tgt := 39) (n := 13) dX7_hasPitchAt_10 (by decide) rfl (fun _ => ?_) (fun h => absurd (nI_le (Nat.le_refl _) (by omega)) h)
    refine zs_iconst (v := 0) (n := 40) dX7_hasPitchAt_39 (by decide) rfl ?_
    refine zs_ireturn dX7_hasPitchAt_40 ⟨_, rfl, rfl⟩ ?_
    rw [H] at hQ
    exact hQ
  · rfl
/-- a bit -/
abbrev zbit (a : Int32) : Int32 := (1 : Int32) <<< (a &&& 31)
/-- the acts of a pitch's turns, as bits -/
def fActs (S : zSt) (i : Nat) (n : Nat) : Int32 := zit (fun k a => a ||| zbit (sV S (140 + sT S i k) 160)) n 0
/-- when what was played of a pitch was over -/
def fOver (S : zSt) (i : Nat) (n : Nat) : Int32 := zit (fun k o => if sV S (160 + 8 * i + k) 423 = 0 then o else sV S (160 + 8 * i + k) 418) n 599
def fApart (S : zSt) (i : Nat) : Prop := ∀ k, k < sc S (10 + i) → ¬ sV S (160 + 8 * i + k) 423 = 0 → ¬ sV S (160 + 8 * i + k) 417 ≤ fOver S i k ∧ ¬ sV S (160 + 8 * i + k) 418 < sV S (160 + 8 * i + k) 417
theorem c_actsOfTurns {i : Nat} (hR : zRp Z Λ S M) (hi : i < sc S 0) : zD Z l 3 mth_X6_actsOfTurns [.ref (Λ (100 + i))] M 0 0 (some (.int (fActs S i (sc S (10 + i))))) M := by
  intro Q hQ
  show zX Z l 3 mth_X6_actsOfTurns 0 [(0, .ref (Λ (100 + i)))] [] M 0 0 Q
  refine zs_iconst (v := 0) (n := 1) dX6_actsOfTurns_0 (by decide) rfl ?_
  refine zs_istore_n (n := 2) dX6_actsOfTurns_1 (by decide) rfl ?_
  refine zs_iconst (v := 0) (n := 3) dX6_actsOfTurns_2 (by decide) rfl ?_
  refine zs_istore_n (n := 4) dX6_actsOfTurns_3 (by decide) rfl ?_
  refine zX.sub (L' := [(0, .ref (Λ (100 + i))), (1, .int (fActs S i 0)), (2, .int (nI 0))]) ⟨rfl, rfl, rfl, trivial⟩ ?_
  refine zloop (n := sc S (10 + i)) (X := fun j => zX Z l 3 mth_X6_actsOfTurns 4 [(0, .ref (Λ (100 + i))), (1, .int (fActs S i j)), (2, .int (nI j))] [] M 0 0 Q) (fun j hj ih => ?_) ?_ 0 (Nat.zero_le _)
  · have hb : sc S (10 + i) ≤ _ := hR.bnd.1.2.2.2 i
    refine zs_iload_n (n := 5) dX6_actsOfTurns_4 rfl rfl ?_
    refine zs_aload_n (n := 6) dX6_actsOfTurns_5 rfl rfl ?_
    refine zs_getr (b := (Λ (120 + i))) (n := 9) dX6_actsOfTurns_6 gf_X6_29 (hR.kP hi) (hR.pT hi) rfl ?_
    refine zc_size (c := sc S (10 + i)) (n := 12) dX6_actsOfTurns_9 ml_X6_67 (hR.lT hi) (by simp) (by omega) rfl ?_
    refine zs_icmp_ge (tgt := 43) (n := 15) dX6_actsOfTurns_12 (by decide) rfl (fun h => absurd h (nI_ge hj (by omega))) (fun _ => ?_)
    refine zs_iload_n (n := 16) dX6_actsOfTurns_15 rfl rfl ?_
    refine zs_iconst (v := 1) (n := 17) dX6_actsOfTurns_16 (by decide) rfl ?_
    refine zs_aload_n (n := 18) dX6_actsOfTurns_17 rfl rfl ?_
    refine zs_getr (b := (Λ (120 + i))) (n := 21) dX6_actsOfTurns_18 gf_X6_29 (hR.kP hi) (hR.pT hi) rfl ?_
    refine zs_iload_n (n := 22) dX6_actsOfTurns_21 rfl rfl ?_
    refine zc_getb (c := sc S (10 + i)) (b := (Λ (160 + 8 * i + j))) (n := 25) dX6_actsOfTurns_22 ml_X6_75 (hR.lT hi) hj rfl (by simp) (by omega) rfl ?_
    refine zs_castS (ci := 13) (n := 28) dX6_actsOfTurns_25 rfl cl_X6_63 (hR.kK hi hj) rfl ?_
    refine zs_getr (b := (Λ (140 + (sT S i j)))) (n := 31) dX6_actsOfTurns_28 gf_X6_85 (hR.kK hi hj) (hR.act hi hj) rfl ?_
    refine zs_getv (x := (sV S (140 + (sT S i j)) 160)) (n := 34) dX6_actsOfTurns_31 gf_X6_89 (hR.kA (hR.actb hi hj)) (hR.iv (lvA (hR.actb hi hj)) (by decide) (by decide)) rfl ?_
    refine zs_ishl (n := 35) dX6_actsOfTurns_34 rfl ?_
    refine zs_ior (n := 36) dX6_actsOfTurns_35 rfl ?_
    refine zs_istore_n (n := 37) dX6_actsOfTurns_36 (by decide) rfl ?_
    refine zs_iinc (v := (nI (j + 1))) (n := 40) dX6_actsOfTurns_37 rfl (nI_1 _) (by decide) rfl ?_
    refine zs_goto (tgt := 4) dX6_actsOfTurns_40 (by decide) ?_
    refine zX.sub (L' := [(0, .ref (Λ (100 + i))), (1, .int (fActs S i (j + 1))), (2, .int (nI (j + 1)))]) ⟨rfl, rfl, rfl, trivial⟩ ?_
    exact ih
  · have hb : sc S (10 + i) ≤ _ := hR.bnd.1.2.2.2 i
    refine zs_iload_n (n := 5) dX6_actsOfTurns_4 rfl rfl ?_
    refine zs_aload_n (n := 6) dX6_actsOfTurns_5 rfl rfl ?_
    refine zs_getr (b := (Λ (120 + i))) (n := 9) dX6_actsOfTurns_6 gf_X6_29 (hR.kP hi) (hR.pT hi) rfl ?_
    refine zc_size (c := sc S (10 + i)) (n := 12) dX6_actsOfTurns_9 ml_X6_67 (hR.lT hi) (by simp) (by omega) rfl ?_
    refine zs_icmp_ge (tgt := 43) (n := 15) dX6_actsOfTurns_12 (by decide) rfl (fun _ => ?_) (fun h => absurd (nI_le (Nat.le_refl _) (by omega)) h)
    refine zs_iload_n (n := 44) dX6_actsOfTurns_43 rfl rfl ?_
    refine zs_ireturn dX6_actsOfTurns_44 ⟨_, rfl, rfl⟩ ?_
    exact hQ
theorem c_PhasTurnsApart {i : Nat} (hR : zRp Z Λ S M) (hi : i < sc S 0) (hA : fApart S i) : zD Z l 3 mth_X6_hasTurnsApart [.ref (Λ (100 + i))] M 0 0 (some (.int 1)) M := by
  intro Q hQ
  show zX Z l 3 mth_X6_hasTurnsApart 0 [(0, .ref (Λ (100 + i)))] [] M 0 0 Q
  refine zs_sipush (v := 599) (n := 3) dX6_hasTurnsApart_0 (by decide) rfl ?_
  refine zs_istore_n (n := 4) dX6_hasTurnsApart_3 (by decide) rfl ?_
  refine zs_iconst (v := 0) (n := 5) dX6_hasTurnsApart_4 (by decide) rfl ?_
  refine zs_istore_n (n := 6) dX6_hasTurnsApart_5 (by decide) rfl ?_
  refine zX.sub (L' := [(0, .ref (Λ (100 + i))), (1, .int (fOver S i 0)), (2, .int (nI 0))]) ⟨rfl, rfl, rfl, trivial⟩ ?_
  refine zloop (n := sc S (10 + i)) (X := fun j => zX Z l 3 mth_X6_hasTurnsApart 6 [(0, .ref (Λ (100 + i))), (1, .int (fOver S i j)), (2, .int (nI j))] [] M 0 0 Q) (fun j hj ih => ?_) ?_ 0 (Nat.zero_le _)
  · have hb : sc S (10 + i) ≤ _ := hR.bnd.1.2.2.2 i
    refine zs_iload_n (n := 7) dX6_hasTurnsApart_6 rfl rfl ?_
    refine zs_aload_n (n := 8) dX6_hasTurnsApart_7 rfl rfl ?_
    refine zs_getr (b := (Λ (120 + i))) (n := 11) dX6_hasTurnsApart_8 gf_X6_29 (hR.kP hi) (hR.pT hi) rfl ?_
    refine zc_size (c := sc S (10 + i)) (n := 14) dX6_hasTurnsApart_11 ml_X6_67 (hR.lT hi) (by simp) (by omega) rfl ?_
    refine zs_icmp_ge (tgt := 75) (n := 17) dX6_hasTurnsApart_14 (by decide) rfl (fun h => absurd h (nI_ge hj (by omega))) (fun _ => ?_)
    refine zs_aload_n (n := 18) dX6_hasTurnsApart_17 rfl rfl ?_
    refine zs_getr (b := (Λ (120 + i))) (n := 21) dX6_hasTurnsApart_18 gf_X6_29 (hR.kP hi) (hR.pT hi) rfl ?_
    refine zs_iload_n (n := 22) dX6_hasTurnsApart_21 rfl rfl ?_
    refine zc_getb (c := sc S (10 + i)) (b := (Λ (160 + 8 * i + j))) (n := 25) dX6_hasTurnsApart_22 ml_X6_75 (hR.lT hi) hj rfl (by simp) (by omega) rfl ?_
    refine zs_castS (ci := 13) (n := 28) dX6_hasTurnsApart_25 rfl cl_X6_63 (hR.kK hi hj) rfl ?_
    refine zs_astore_n (n := 29) dX6_hasTurnsApart_28 (by decide) rfl ?_
    refine zs_aload_n (n := 30) dX6_hasTurnsApart_29 rfl rfl ?_
    refine zs_getv (x := (sV S (160 + 8 * i + j) 423)) (n := 33) dX6_hasTurnsApart_30 gf_X6_92 (hR.kK hi hj) (hR.iv (lvK hi hj) (by decide) (by decide)) rfl ?_
    refine zs_if_eq (tgt := 57) (n := 36) dX6_hasTurnsApart_33 (by decide) rfl (fun h33 => ?_) (fun h33 => ?_)
    · refine zs_aload_n (n := 58) dX6_hasTurnsApart_57 rfl rfl ?_
      refine zs_getv (x := (sV S (160 + 8 * i + j) 423)) (n := 61) dX6_hasTurnsApart_58 gf_X6_92 (hR.kK hi hj) (hR.iv (lvK hi hj) (by decide) (by decide)) rfl ?_
      refine zs_if_eq (tgt := 69) (n := 64) dX6_hasTurnsApart_61 (by decide) rfl (fun h61 => ?_) (fun h61 => ?_)
      · refine zs_iinc (v := (nI (j + 1))) (n := 72) dX6_hasTurnsApart_69 rfl (nI_1 _) (by decide) rfl ?_
        refine zs_goto (tgt := 6) dX6_hasTurnsApart_72 (by decide) ?_
        refine zX.sub (L' := [(0, .ref (Λ (100 + i))), (1, .int (fOver S i (j + 1))), (2, .int (nI (j + 1)))]) ⟨rfl, (show some (Value.int (fOver S i j)) = some (Value.int (fOver S i (j + 1))) from congrArg (fun z => some (Value.int z)) (by simp_all [fOver, zit])), rfl, trivial⟩ ?_
        exact ih
      · refine zs_aload_n (n := 65) dX6_hasTurnsApart_64 rfl rfl ?_
        refine zs_getv (x := (sV S (160 + 8 * i + j) 418)) (n := 68) dX6_hasTurnsApart_65 gf_X6_62 (hR.kK hi hj) (hR.iv (lvK hi hj) (by decide) (by decide)) rfl ?_
        refine zs_istore_n (n := 69) dX6_hasTurnsApart_68 (by decide) rfl ?_
        refine zs_iinc (v := (nI (j + 1))) (n := 72) dX6_hasTurnsApart_69 rfl (nI_1 _) (by decide) rfl ?_
        refine zs_goto (tgt := 6) dX6_hasTurnsApart_72 (by decide) ?_
        refine zX.sub (L' := [(0, .ref (Λ (100 + i))), (1, .int (fOver S i (j + 1))), (2, .int (nI (j + 1)))]) ⟨rfl, (show some (Value.int (sV S (160 + 8 * i + j) 418)) = some (Value.int (fOver S i (j + 1))) from congrArg (fun z => some (Value.int z)) (by simp_all [fOver, zit])), rfl, trivial⟩ ?_
        exact ih
    · refine zs_aload_n (n := 37) dX6_hasTurnsApart_36 rfl rfl ?_
      refine zs_getv (x := (sV S (160 + 8 * i + j) 417)) (n := 40) dX6_hasTurnsApart_37 gf_X6_95 (hR.kK hi hj) (hR.iv (lvK hi hj) (by decide) (by decide)) rfl ?_
      refine zs_iload_n (n := 41) dX6_hasTurnsApart_40 rfl rfl ?_
      refine zs_icmp_le (tgt := 55) (n := 44) dX6_hasTurnsApart_41 (by decide) rfl (fun h => absurd h (hA j hj h33).1) (fun _ => ?_)
      refine zs_aload_n (n := 45) dX6_hasTurnsApart_44 rfl rfl ?_
      refine zs_getv (x := (sV S (160 + 8 * i + j) 418)) (n := 48) dX6_hasTurnsApart_45 gf_X6_62 (hR.kK hi hj) (hR.iv (lvK hi hj) (by decide) (by decide)) rfl ?_
      refine zs_aload_n (n := 49) dX6_hasTurnsApart_48 rfl rfl ?_
      refine zs_getv (x := (sV S (160 + 8 * i + j) 417)) (n := 52) dX6_hasTurnsApart_49 gf_X6_95 (hR.kK hi hj) (hR.iv (lvK hi hj) (by decide) (by decide)) rfl ?_
      refine zs_icmp_ge (tgt := 57) (n := 55) dX6_hasTurnsApart_52 (by decide) rfl (fun _ => ?_) (fun h => absurd (Int32.not_lt.mp (hA j hj h33).2) h)
      refine zs_aload_n (n := 58) dX6_hasTurnsApart_57 rfl rfl ?_
      refine zs_getv (x := (sV S (160 + 8 * i + j) 423)) (n := 61) dX6_hasTurnsApart_58 gf_X6_92 (hR.kK hi hj) (hR.iv (lvK hi hj) (by decide) (by decide)) rfl ?_
      refine zs_if_eq (tgt := 69) (n := 64) dX6_hasTurnsApart_61 (by decide) rfl (fun h61 => ?_) (fun h61 => ?_)
      · refine zs_iinc (v := (nI (j + 1))) (n := 72) dX6_hasTurnsApart_69 rfl (nI_1 _) (by decide) rfl ?_
        refine zs_goto (tgt := 6) dX6_hasTurnsApart_72 (by decide) ?_
        refine zX.sub (L' := [(0, .ref (Λ (100 + i))), (1, .int (fOver S i (j + 1))), (2, .int (nI (j + 1)))]) ⟨rfl, (show some (Value.int (fOver S i j)) = some (Value.int (fOver S i (j + 1))) from congrArg (fun z => some (Value.int z)) (by simp_all [fOver, zit])), rfl, trivial⟩ ?_
        exact ih
      · refine zs_aload_n (n := 65) dX6_hasTurnsApart_64 rfl rfl ?_
        refine zs_getv (x := (sV S (160 + 8 * i + j) 418)) (n := 68) dX6_hasTurnsApart_65 gf_X6_62 (hR.kK hi hj) (hR.iv (lvK hi hj) (by decide) (by decide)) rfl ?_
        refine zs_istore_n (n := 69) dX6_hasTurnsApart_68 (by decide) rfl ?_
        refine zs_iinc (v := (nI (j + 1))) (n := 72) dX6_hasTurnsApart_69 rfl (nI_1 _) (by decide) rfl ?_
        refine zs_goto (tgt := 6) dX6_hasTurnsApart_72 (by decide) ?_
        refine zX.sub (L' := [(0, .ref (Λ (100 + i))), (1, .int (fOver S i (j + 1))), (2, .int (nI (j + 1)))]) ⟨rfl, (show some (Value.int (sV S (160 + 8 * i + j) 418)) = some (Value.int (fOver S i (j + 1))) from congrArg (fun z => some (Value.int z)) (by simp_all [fOver, zit])), rfl, trivial⟩ ?_
        exact ih
  · have hb : sc S (10 + i) ≤ _ := hR.bnd.1.2.2.2 i
    refine zs_iload_n (n := 7) dX6_hasTurnsApart_6 rfl rfl ?_
    refine zs_aload_n (n := 8) dX6_hasTurnsApart_7 rfl rfl ?_
    refine zs_getr (b := (Λ (120 + i))) (n := 11) dX6_hasTurnsApart_8 gf_X6_29 (hR.kP hi) (hR.pT hi) rfl ?_
    refine zc_size (c := sc S (10 + i)) (n := 14) dX6_hasTurnsApart_11 ml_X6_67 (hR.lT hi) (by simp) (by omega) rfl ?_
    refine zs_icmp_ge (tgt := 75) (n := 17) dX6_hasTurnsApart_14 (by decide) rfl (fun _ => ?_) (fun h => absurd (nI_le (Nat.le_refl _) (by omega)) h)
    refine zs_iconst (v := 1) (n := 76) dX6_hasTurnsApart_75 (by decide) rfl ?_
    refine zs_ireturn dX6_hasTurnsApart_76 ⟨_, rfl, rfl⟩ ?_
    exact hQ
theorem c_ShasTurnsApart  (hR : zRp Z Λ S M) (h3 : sc S 3 = 1) (hA : ∀ i, i < sc S 0 → fApart S i) : zD Z l 4 mth_X7_hasTurnsApart [.ref (Λ 2)] M 0 0 (some (.int 1)) M := by
  intro Q hQ
  show zX Z l 4 mth_X7_hasTurnsApart 0 [(0, .ref (Λ 2))] [] M 0 0 Q
  refine zs_iconst (v := 0) (n := 1) dX7_hasTurnsApart_0 (by decide) rfl ?_
  refine zs_istore_n (n := 2) dX7_hasTurnsApart_1 (by decide) rfl ?_
  refine zX.sub (L' := [(0, .ref (Λ 2)), (1, .int (nI 0))]) ⟨rfl, rfl, trivial⟩ ?_
  refine zloop (n := sc S 0) (X := fun j => zX Z l 4 mth_X7_hasTurnsApart 2 [(0, .ref (Λ 2)), (1, .int (nI j))] [] M 0 0 Q) (fun j hj ih => ?_) ?_ 0 (Nat.zero_le _)
  · have hb : sc S 0 ≤ _ := hR.bnd.1.1
    refine zs_iload_n (n := 3) dX7_hasTurnsApart_2 rfl rfl ?_
    refine zs_aload_n (n := 4) dX7_hasTurnsApart_3 rfl rfl ?_
    refine zs_getr (b := (Λ 15)) (n := 7) dX7_hasTurnsApart_4 gf_X7_10 (hR.kd (lvC h3 (by omega))) (hR.pt (lvC h3 (by omega)) rfl (by decide)) rfl ?_
    refine zc_size (c := sc S 0) (n := 10) dX7_hasTurnsApart_7 ml_X7_19 (hR.lP h3) (by simp) (by omega) rfl ?_
    refine zs_icmp_ge (tgt := 38) (n := 13) dX7_hasTurnsApart_10 (by decide) rfl (fun h => absurd h (nI_ge hj (by omega))) (fun _ => ?_)
    refine zs_aload_n (n := 14) dX7_hasTurnsApart_13 rfl rfl ?_
    refine zs_getr (b := (Λ 15)) (n := 17) dX7_hasTurnsApart_14 gf_X7_10 (hR.kd (lvC h3 (by omega))) (hR.pt (lvC h3 (by omega)) rfl (by decide)) rfl ?_
    refine zs_iload_n (n := 18) dX7_hasTurnsApart_17 rfl rfl ?_
    refine zc_getb (c := sc S 0) (b := (Λ (100 + j))) (n := 21) dX7_hasTurnsApart_18 ml_X7_23 (hR.lP h3) hj rfl (by simp) (by omega) rfl ?_
    refine zs_castS (ci := 11) (n := 24) dX7_hasTurnsApart_21 rfl cl_X7_27 (hR.kP hj) rfl ?_
    refine zc_V (n := 27) (As := []) (ci := 11) (mc := 0) (ms := 0) dX7_hasTurnsApart_24 ok_X6_hasTurnsApart ⟨ml_X7_91, im_X6_hasTurnsApart, sl_X6_hasTurnsApart⟩ rfl (hR.kP hj) rfl (Nat.le_of_ble_eq_true rfl) (by simp) (by omega) (Nat.le_refl _) (Nat.le_refl _) rfl rfl (c_PhasTurnsApart hR hj (hA _ hj)) ?_
    refine zs_if_ne (tgt := 32) (n := 30) dX7_hasTurnsApart_27 (by decide) rfl (fun _ => ?_) (fun h => absurd h (by decide))
    refine zs_iinc (v := (nI (j + 1))) (n := 35) dX7_hasTurnsApart_32 rfl (nI_1 _) (by decide) rfl ?_
    refine zs_goto (tgt := 2) dX7_hasTurnsApart_35 (by decide) ?_
    refine zX.sub (L' := [(0, .ref (Λ 2)), (1, .int (nI (j + 1)))]) ⟨rfl, rfl, trivial⟩ ?_
    exact ih
  · have hb : sc S 0 ≤ _ := hR.bnd.1.1
    refine zs_iload_n (n := 3) dX7_hasTurnsApart_2 rfl rfl ?_
    refine zs_aload_n (n := 4) dX7_hasTurnsApart_3 rfl rfl ?_
    refine zs_getr (b := (Λ 15)) (n := 7) dX7_hasTurnsApart_4 gf_X7_10 (hR.kd (lvC h3 (by omega))) (hR.pt (lvC h3 (by omega)) rfl (by decide)) rfl ?_
    refine zc_size (c := sc S 0) (n := 10) dX7_hasTurnsApart_7 ml_X7_19 (hR.lP h3) (by simp) (by omega) rfl ?_
    refine zs_icmp_ge (tgt := 38) (n := 13) dX7_hasTurnsApart_10 (by decide) rfl (fun _ => ?_) (fun h => absurd (nI_le (Nat.le_refl _) (by omega)) h)
    refine zs_iconst (v := 1) (n := 39) dX7_hasTurnsApart_38 (by decide) rfl ?_
    refine zs_ireturn dX7_hasTurnsApart_39 ⟨_, rfl, rfl⟩ ?_
    exact hQ
def fBefore (S : zSt) (n : Nat) : Int32 := zit (fun i b => b ||| fActs S i (sc S (10 + i))) n 0
theorem c_hasActsOnOnePitch  (hR : zRp Z Λ S M) (h3 : sc S 3 = 1) (hO : ∀ i, i < sc S 0 → fBefore S i &&& fActs S i (sc S (10 + i)) = 0) : zD Z l 4 mth_X7_hasActsOnOnePitch [.ref (Λ 2)] M 0 0 (some (.int 1)) M := by
  intro Q hQ
  show zX Z l 4 mth_X7_hasActsOnOnePitch 0 [(0, .ref (Λ 2))] [] M 0 0 Q
  refine zs_iconst (v := 0) (n := 1) dX7_hasActsOnOnePitch_0 (by decide) rfl ?_
  refine zs_istore_n (n := 2) dX7_hasActsOnOnePitch_1 (by decide) rfl ?_
  refine zs_iconst (v := 0) (n := 3) dX7_hasActsOnOnePitch_2 (by decide) rfl ?_
  refine zs_istore_n (n := 4) dX7_hasActsOnOnePitch_3 (by decide) rfl ?_
  refine zX.sub (L' := [(0, .ref (Λ 2)), (1, .int (fBefore S 0)), (2, .int (nI 0))]) ⟨rfl, rfl, rfl, trivial⟩ ?_
  refine zloop (n := sc S 0) (X := fun j => zX Z l 4 mth_X7_hasActsOnOnePitch 4 [(0, .ref (Λ 2)), (1, .int (fBefore S j)), (2, .int (nI j))] [] M 0 0 Q) (fun j hj ih => ?_) ?_ 0 (Nat.zero_le _)
  · have hb : sc S 0 ≤ _ := hR.bnd.1.1
    refine zs_iload_n (n := 5) dX7_hasActsOnOnePitch_4 rfl rfl ?_
    refine zs_aload_n (n := 6) dX7_hasActsOnOnePitch_5 rfl rfl ?_
    refine zs_getr (b := (Λ 15)) (n := 9) dX7_hasActsOnOnePitch_6 gf_X7_10 (hR.kd (lvC h3 (by omega))) (hR.pt (lvC h3 (by omega)) rfl (by decide)) rfl ?_
    refine zc_size (c := sc S 0) (n := 12) dX7_hasActsOnOnePitch_9 ml_X7_19 (hR.lP h3) (by simp) (by omega) rfl ?_
    refine zs_icmp_ge (tgt := 48) (n := 15) dX7_hasActsOnOnePitch_12 (by decide) rfl (fun h => absurd h (nI_ge hj (by omega))) (fun _ => ?_)
    refine zs_aload_n (n := 16) dX7_hasActsOnOnePitch_15 rfl rfl ?_
    refine zs_getr (b := (Λ 15)) (n := 19) dX7_hasActsOnOnePitch_16 gf_X7_10 (hR.kd (lvC h3 (by omega))) (hR.pt (lvC h3 (by omega)) rfl (by decide)) rfl ?_
    refine zs_iload_n (n := 20) dX7_hasActsOnOnePitch_19 rfl rfl ?_
    refine zc_getb (c := sc S 0) (b := (Λ (100 + j))) (n := 23) dX7_hasActsOnOnePitch_20 ml_X7_23 (hR.lP h3) hj rfl (by simp) (by omega) rfl ?_
    refine zs_castS (ci := 11) (n := 26) dX7_hasActsOnOnePitch_23 rfl cl_X7_27 (hR.kP hj) rfl ?_
    refine zc_V (n := 29) (As := []) (ci := 11) (mc := 0) (ms := 0) dX7_hasActsOnOnePitch_26 ok_X6_actsOfTurns ⟨ml_X7_33, im_X6_actsOfTurns, sl_X6_actsOfTurns⟩ rfl (hR.kP hj) rfl (Nat.le_of_ble_eq_true rfl) (by simp) (by omega) (Nat.le_refl _) (Nat.le_refl _) rfl rfl (c_actsOfTurns hR hj) ?_
    refine zs_istore_n (n := 30) dX7_hasActsOnOnePitch_29 (by decide) rfl ?_
    refine zs_iload_n (n := 31) dX7_hasActsOnOnePitch_30 rfl rfl ?_
    refine zs_iload_n (n := 32) dX7_hasActsOnOnePitch_31 rfl rfl ?_
    refine zs_iand (n := 33) dX7_hasActsOnOnePitch_32 rfl ?_
    refine zs_if_eq (tgt := 38) (n := 36) dX7_hasActsOnOnePitch_33 (by decide) rfl (fun _ => ?_) (fun h => absurd (hO j hj) h)
    refine zs_iload_n (n := 39) dX7_hasActsOnOnePitch_38 rfl rfl ?_
    refine zs_iload_n (n := 40) dX7_hasActsOnOnePitch_39 rfl rfl ?_
    refine zs_ior (n := 41) dX7_hasActsOnOnePitch_40 rfl ?_
    refine zs_istore_n (n := 42) dX7_hasActsOnOnePitch_41 (by decide) rfl ?_
    refine zs_iinc (v := (nI (j + 1))) (n := 45) dX7_hasActsOnOnePitch_42 rfl (nI_1 _) (by decide) rfl ?_
    refine zs_goto (tgt := 4) dX7_hasActsOnOnePitch_45 (by decide) ?_
    refine zX.sub (L' := [(0, .ref (Λ 2)), (1, .int (fBefore S (j + 1))), (2, .int (nI (j + 1)))]) ⟨rfl, rfl, rfl, trivial⟩ ?_
    exact ih
  · have hb : sc S 0 ≤ _ := hR.bnd.1.1
    refine zs_iload_n (n := 5) dX7_hasActsOnOnePitch_4 rfl rfl ?_
    refine zs_aload_n (n := 6) dX7_hasActsOnOnePitch_5 rfl rfl ?_
    refine zs_getr (b := (Λ 15)) (n := 9) dX7_hasActsOnOnePitch_6 gf_X7_10 (hR.kd (lvC h3 (by omega))) (hR.pt (lvC h3 (by omega)) rfl (by decide)) rfl ?_
    refine zc_size (c := sc S 0) (n := 12) dX7_hasActsOnOnePitch_9 ml_X7_19 (hR.lP h3) (by simp) (by omega) rfl ?_
    refine zs_icmp_ge (tgt := 48) (n := 15) dX7_hasActsOnOnePitch_12 (by decide) rfl (fun _ => ?_) (fun h => absurd (nI_le (Nat.le_refl _) (by omega)) h)
    refine zs_iconst (v := 1) (n := 49) dX7_hasActsOnOnePitch_48 (by decide) rfl ?_
    refine zs_ireturn dX7_hasActsOnOnePitch_49 ⟨_, rfl, rfl⟩ ?_
    exact hQ
def fMoney (S : zSt) (n : Nat) : Int32 := zit (fun a b => b + sV S (140 + a) 167) n 0
def fCountT (S : zSt) (n : Nat) : Int32 := zit (fun i b => b + nI (sc S (10 + i))) n 0
def fGood (S : zSt) (i k : Nat) : Bool := decide (¬ sV S (160 + 8 * i + k) 423 = 0) && decide (sV S (160 + 8 * i + k) 424 = 0)
theorem c_wasGood {i k : Nat} (hR : zRp Z Λ S M) (hi : i < sc S 0) (hk : k < sc S (10 + i)) : zD Z l 0 mth_X8_wasGood [.ref (Λ (160 + 8 * i + k))] M 0 0 (some (.int (zb (fGood S i k)))) M := by
  have h9 := m_wasGood (Z := Z) (l := l) (M := M) (hR.kK hi hk)
  rw [hR.iv (lvK hi hk) (by decide) (by decide), hR.iv (lvK hi hk) (by decide) (by decide)] at h9
  exact h9
def fGoodP (S : zSt) (i n : Nat) (b : Int32) : Int32 := zit (fun k b => b + zb (fGood S i k)) n b
def fGoodT (S : zSt) (n : Nat) : Int32 := zit (fun i b => fGoodP S i (sc S (10 + i)) b) n 0
def fElse (S : zSt) (x : Int32) (p : Nat) : Bool := zany (fun i => !decide (i = p) && !decide (fActs S i (sc S (10 + i)) &&& zbit x = 0)) (sc S 0)
theorem c_sumMoney  (hR : zRp Z Λ S M) (h3 : sc S 3 = 1) : zD Z l 3 mth_X7_sumMoney [.ref (Λ 2)] M 0 0 (some (.int (fMoney S (sc S 1)))) M := by
  intro Q hQ
  show zX Z l 3 mth_X7_sumMoney 0 [(0, .ref (Λ 2))] [] M 0 0 Q
  refine zs_iconst (v := 0) (n := 1) dX7_sumMoney_0 (by decide) rfl ?_
  refine zs_istore_n (n := 2) dX7_sumMoney_1 (by decide) rfl ?_
  refine zs_iconst (v := 0) (n := 3) dX7_sumMoney_2 (by decide) rfl ?_
  refine zs_istore_n (n := 4) dX7_sumMoney_3 (by decide) rfl ?_
  refine zX.sub (L' := [(0, .ref (Λ 2)), (1, .int (fMoney S 0)), (2, .int (nI 0))]) ⟨rfl, rfl, rfl, trivial⟩ ?_
  refine zloop (n := sc S 1) (X := fun j => zX Z l 3 mth_X7_sumMoney 4 [(0, .ref (Λ 2)), (1, .int (fMoney S j)), (2, .int (nI j))] [] M 0 0 Q) (fun j hj ih => ?_) ?_ 0 (Nat.zero_le _)
  · have hb : sc S 1 ≤ _ := hR.bnd.1.2.1
    refine zs_iload_n (n := 5) dX7_sumMoney_4 rfl rfl ?_
    refine zs_aload_n (n := 6) dX7_sumMoney_5 rfl rfl ?_
    refine zs_getr (b := (Λ 17)) (n := 9) dX7_sumMoney_6 gf_X7_16 (hR.kd (lvC h3 (by omega))) (hR.pt (lvC h3 (by omega)) rfl (by decide)) rfl ?_
    refine zc_size (c := sc S 1) (n := 12) dX7_sumMoney_9 ml_X7_19 (hR.lA h3) (by simp) (by omega) rfl ?_
    refine zs_icmp_ge (tgt := 38) (n := 15) dX7_sumMoney_12 (by decide) rfl (fun h => absurd h (nI_ge hj (by omega))) (fun _ => ?_)
    refine zs_iload_n (n := 16) dX7_sumMoney_15 rfl rfl ?_
    refine zs_aload_n (n := 17) dX7_sumMoney_16 rfl rfl ?_
    refine zs_getr (b := (Λ 17)) (n := 20) dX7_sumMoney_17 gf_X7_16 (hR.kd (lvC h3 (by omega))) (hR.pt (lvC h3 (by omega)) rfl (by decide)) rfl ?_
    refine zs_iload_n (n := 21) dX7_sumMoney_20 rfl rfl ?_
    refine zc_getb (c := sc S 1) (b := (Λ (140 + j))) (n := 24) dX7_sumMoney_21 ml_X7_23 (hR.lA h3) hj rfl (by simp) (by omega) rfl ?_
    refine zs_castS (ci := 5) (n := 27) dX7_sumMoney_24 rfl cl_X7_43 (hR.kA hj) rfl ?_
    refine zs_getv (x := (sV S (140 + j) 167)) (n := 30) dX7_sumMoney_27 gf_X7_53 (hR.kA hj) (hR.iv (lvA hj) (by decide) (by decide)) rfl ?_
    refine zs_iadd (n := 31) dX7_sumMoney_30 rfl ?_
    refine zs_istore_n (n := 32) dX7_sumMoney_31 (by decide) rfl ?_
    refine zs_iinc (v := (nI (j + 1))) (n := 35) dX7_sumMoney_32 rfl (nI_1 _) (by decide) rfl ?_
    refine zs_goto (tgt := 4) dX7_sumMoney_35 (by decide) ?_
    refine zX.sub (L' := [(0, .ref (Λ 2)), (1, .int (fMoney S (j + 1))), (2, .int (nI (j + 1)))]) ⟨rfl, rfl, rfl, trivial⟩ ?_
    exact ih
  · have hb : sc S 1 ≤ _ := hR.bnd.1.2.1
    refine zs_iload_n (n := 5) dX7_sumMoney_4 rfl rfl ?_
    refine zs_aload_n (n := 6) dX7_sumMoney_5 rfl rfl ?_
    refine zs_getr (b := (Λ 17)) (n := 9) dX7_sumMoney_6 gf_X7_16 (hR.kd (lvC h3 (by omega))) (hR.pt (lvC h3 (by omega)) rfl (by decide)) rfl ?_
    refine zc_size (c := sc S 1) (n := 12) dX7_sumMoney_9 ml_X7_19 (hR.lA h3) (by simp) (by omega) rfl ?_
    refine zs_icmp_ge (tgt := 38) (n := 15) dX7_sumMoney_12 (by decide) rfl (fun _ => ?_) (fun h => absurd (nI_le (Nat.le_refl _) (by omega)) h)
    refine zs_iload_n (n := 39) dX7_sumMoney_38 rfl rfl ?_
    refine zs_ireturn dX7_sumMoney_39 ⟨_, rfl, rfl⟩ ?_
    exact hQ
theorem c_countTurns  (hR : zRp Z Λ S M) (h3 : sc S 3 = 1) : zD Z l 3 mth_X7_countTurns [.ref (Λ 2)] M 0 0 (some (.int (fCountT S (sc S 0)))) M := by
  intro Q hQ
  show zX Z l 3 mth_X7_countTurns 0 [(0, .ref (Λ 2))] [] M 0 0 Q
  refine zs_iconst (v := 0) (n := 1) dX7_countTurns_0 (by decide) rfl ?_
  refine zs_istore_n (n := 2) dX7_countTurns_1 (by decide) rfl ?_
  refine zs_iconst (v := 0) (n := 3) dX7_countTurns_2 (by decide) rfl ?_
  refine zs_istore_n (n := 4) dX7_countTurns_3 (by decide) rfl ?_
  refine zX.sub (L' := [(0, .ref (Λ 2)), (1, .int (fCountT S 0)), (2, .int (nI 0))]) ⟨rfl, rfl, rfl, trivial⟩ ?_
  refine zloop (n := sc S 0) (X := fun j => zX Z l 3 mth_X7_countTurns 4 [(0, .ref (Λ 2)), (1, .int (fCountT S j)), (2, .int (nI j))] [] M 0 0 Q) (fun j hj ih => ?_) ?_ 0 (Nat.zero_le _)
  · have hb : sc S 0 ≤ _ := hR.bnd.1.1
    refine zs_iload_n (n := 5) dX7_countTurns_4 rfl rfl ?_
    refine zs_aload_n (n := 6) dX7_countTurns_5 rfl rfl ?_
    refine zs_getr (b := (Λ 15)) (n := 9) dX7_countTurns_6 gf_X7_10 (hR.kd (lvC h3 (by omega))) (hR.pt (lvC h3 (by omega)) rfl (by decide)) rfl ?_
    refine zc_size (c := sc S 0) (n := 12) dX7_countTurns_9 ml_X7_19 (hR.lP h3) (by simp) (by omega) rfl ?_
    refine zs_icmp_ge (tgt := 41) (n := 15) dX7_countTurns_12 (by decide) rfl (fun h => absurd h (nI_ge hj (by omega))) (fun _ => ?_)
    refine zs_iload_n (n := 16) dX7_countTurns_15 rfl rfl ?_
    refine zs_aload_n (n := 17) dX7_countTurns_16 rfl rfl ?_
    refine zs_getr (b := (Λ 15)) (n := 20) dX7_countTurns_17 gf_X7_10 (hR.kd (lvC h3 (by omega))) (hR.pt (lvC h3 (by omega)) rfl (by decide)) rfl ?_
    refine zs_iload_n (n := 21) dX7_countTurns_20 rfl rfl ?_
    refine zc_getb (c := sc S 0) (b := (Λ (100 + j))) (n := 24) dX7_countTurns_21 ml_X7_23 (hR.lP h3) hj rfl (by simp) (by omega) rfl ?_
    refine zs_castS (ci := 11) (n := 27) dX7_countTurns_24 rfl cl_X7_27 (hR.kP hj) rfl ?_
    refine zs_getr (b := (Λ (120 + j))) (n := 30) dX7_countTurns_27 gf_X7_36 (hR.kP hj) (hR.pT hj) rfl ?_
    refine zc_size (c := sc S (10 + j)) (n := 33) dX7_countTurns_30 ml_X7_19 (hR.lT hj) (by simp) (by omega) rfl ?_
    refine zs_iadd (n := 34) dX7_countTurns_33 rfl ?_
    refine zs_istore_n (n := 35) dX7_countTurns_34 (by decide) rfl ?_
    refine zs_iinc (v := (nI (j + 1))) (n := 38) dX7_countTurns_35 rfl (nI_1 _) (by decide) rfl ?_
    refine zs_goto (tgt := 4) dX7_countTurns_38 (by decide) ?_
    refine zX.sub (L' := [(0, .ref (Λ 2)), (1, .int (fCountT S (j + 1))), (2, .int (nI (j + 1)))]) ⟨rfl, rfl, rfl, trivial⟩ ?_
    exact ih
  · have hb : sc S 0 ≤ _ := hR.bnd.1.1
    refine zs_iload_n (n := 5) dX7_countTurns_4 rfl rfl ?_
    refine zs_aload_n (n := 6) dX7_countTurns_5 rfl rfl ?_
    refine zs_getr (b := (Λ 15)) (n := 9) dX7_countTurns_6 gf_X7_10 (hR.kd (lvC h3 (by omega))) (hR.pt (lvC h3 (by omega)) rfl (by decide)) rfl ?_
    refine zc_size (c := sc S 0) (n := 12) dX7_countTurns_9 ml_X7_19 (hR.lP h3) (by simp) (by omega) rfl ?_
    refine zs_icmp_ge (tgt := 41) (n := 15) dX7_countTurns_12 (by decide) rfl (fun _ => ?_) (fun h => absurd (nI_le (Nat.le_refl _) (by omega)) h)
    refine zs_iload_n (n := 42) dX7_countTurns_41 rfl rfl ?_
    refine zs_ireturn dX7_countTurns_42 ⟨_, rfl, rfl⟩ ?_
    exact hQ
theorem c_countGoodTurns  (hR : zRp Z Λ S M) (h3 : sc S 3 = 1) : zD Z l 3 mth_X7_countGoodTurns [.ref (Λ 2)] M 0 0 (some (.int (fGoodT S (sc S 0)))) M := by
  intro Q hQ
  show zX Z l 3 mth_X7_countGoodTurns 0 [(0, .ref (Λ 2))] [] M 0 0 Q
  refine zs_iconst (v := 0) (n := 1) dX7_countGoodTurns_0 (by decide) rfl ?_
  refine zs_istore_n (n := 2) dX7_countGoodTurns_1 (by decide) rfl ?_
  refine zs_iconst (v := 0) (n := 3) dX7_countGoodTurns_2 (by decide) rfl ?_
  refine zs_istore_n (n := 4) dX7_countGoodTurns_3 (by decide) rfl ?_
  refine zX.sub (L' := [(0, .ref (Λ 2)), (1, .int (fGoodT S 0)), (2, .int (nI 0))]) ⟨rfl, rfl, rfl, trivial⟩ ?_
  refine zloop (n := sc S 0) (X := fun j => zX Z l 3 mth_X7_countGoodTurns 4 [(0, .ref (Λ 2)), (1, .int (fGoodT S j)), (2, .int (nI j))] [] M 0 0 Q) (fun j hj ih => ?_) ?_ 0 (Nat.zero_le _)
  · have hb : sc S 0 ≤ _ := hR.bnd.1.1
    refine zs_iload_n (n := 5) dX7_countGoodTurns_4 rfl rfl ?_
    refine zs_aload_n (n := 6) dX7_countGoodTurns_5 rfl rfl ?_
    refine zs_getr (b := (Λ 15)) (n := 9) dX7_countGoodTurns_6 gf_X7_10 (hR.kd (lvC h3 (by omega))) (hR.pt (lvC h3 (by omega)) rfl (by decide)) rfl ?_
    refine zc_size (c := sc S 0) (n := 12) dX7_countGoodTurns_9 ml_X7_19 (hR.lP h3) (by simp) (by omega) rfl ?_
    refine zs_icmp_ge (tgt := 77) (n := 15) dX7_countGoodTurns_12 (by decide) rfl (fun h => absurd h (nI_ge hj (by omega))) (fun _ => ?_)
    refine zs_aload_n (n := 16) dX7_countGoodTurns_15 rfl rfl ?_
    refine zs_getr (b := (Λ 15)) (n := 19) dX7_countGoodTurns_16 gf_X7_10 (hR.kd (lvC h3 (by omega))) (hR.pt (lvC h3 (by omega)) rfl (by decide)) rfl ?_
    refine zs_iload_n (n := 20) dX7_countGoodTurns_19 rfl rfl ?_
    refine zc_getb (c := sc S 0) (b := (Λ (100 + j))) (n := 23) dX7_countGoodTurns_20 ml_X7_23 (hR.lP h3) hj rfl (by simp) (by omega) rfl ?_
    refine zs_castS (ci := 11) (n := 26) dX7_countGoodTurns_23 rfl cl_X7_27 (hR.kP hj) rfl ?_
    refine zs_getr (b := (Λ (120 + j))) (n := 29) dX7_countGoodTurns_26 gf_X7_36 (hR.kP hj) (hR.pT hj) rfl ?_
    refine zs_astore_n (n := 30) dX7_countGoodTurns_29 (by decide) rfl ?_
    refine zs_iconst (v := 0) (n := 31) dX7_countGoodTurns_30 (by decide) rfl ?_
    refine zs_istore (n := 33) dX7_countGoodTurns_31 (by decide) rfl ?_
    refine zX.sub (L' := [(0, .ref (Λ 2)), (1, .int (fGoodP S j 0 (fGoodT S j))), (2, .int (nI j)), (3, .ref (Λ (120 + j))), (4, .int (nI 0))]) ⟨rfl, rfl, rfl, rfl, rfl, trivial⟩ ?_
    refine zloop (n := sc S (10 + j)) (X := fun k => zX Z l 3 mth_X7_countGoodTurns 33 [(0, .ref (Λ 2)), (1, .int (fGoodP S j k (fGoodT S j))), (2, .int (nI j)), (3, .ref (Λ (120 + j))), (4, .int (nI k))] [] M 0 0 Q) (fun k hk ih => ?_) ?_ 0 (Nat.zero_le _)
    · have hb2 := hR.bnd.1.2.2.2 j
      refine zs_iload (n := 35) dX7_countGoodTurns_33 rfl rfl ?_
      refine zs_aload_n (n := 36) dX7_countGoodTurns_35 rfl rfl ?_
      refine zc_size (c := sc S (10 + j)) (n := 39) dX7_countGoodTurns_36 ml_X7_19 (hR.lT hj) (by simp) (by omega) rfl ?_
      refine zs_icmp_ge (tgt := 71) (n := 42) dX7_countGoodTurns_39 (by decide) rfl (fun h => absurd h (nI_ge hk (by omega))) (fun _ => ?_)
      refine zs_iload_n (n := 43) dX7_countGoodTurns_42 rfl rfl ?_
      refine zs_aload_n (n := 44) dX7_countGoodTurns_43 rfl rfl ?_
      refine zs_iload (n := 46) dX7_countGoodTurns_44 rfl rfl ?_
      refine zc_getb (c := sc S (10 + j)) (b := (Λ (160 + 8 * j + k))) (n := 49) dX7_countGoodTurns_46 ml_X7_23 (hR.lT hj) hk rfl (by simp) (by omega) rfl ?_
      refine zs_castS (ci := 13) (n := 52) dX7_countGoodTurns_49 rfl cl_X7_72 (hR.kK hj hk) rfl ?_
      refine zc_V (n := 55) (As := []) (ci := 13) (mc := 0) (ms := 0) dX7_countGoodTurns_52 ok_X8_wasGood ⟨ml_X7_88, im_X8_wasGood, sl_X8_wasGood⟩ rfl (hR.kK hj hk) rfl (Nat.le_of_ble_eq_true rfl) (by simp) (by omega) (Nat.le_refl _) (Nat.le_refl _) rfl rfl (c_wasGood hR hj hk) ?_
      refine zs_if_eq (tgt := 62) (n := 58) dX7_countGoodTurns_55 (by decide) rfl (fun h55 => ?_) (fun h55 => ?_)
      · refine zs_iconst (v := 0) (n := 63) dX7_countGoodTurns_62 (by decide) rfl ?_
        refine zs_iadd (n := 64) dX7_countGoodTurns_63 rfl ?_
        refine zs_istore_n (n := 65) dX7_countGoodTurns_64 (by decide) rfl ?_
        refine zs_iinc (v := (nI (k + 1))) (n := 68) dX7_countGoodTurns_65 rfl (nI_1 _) (by decide) rfl ?_
        refine zs_goto (tgt := 33) dX7_countGoodTurns_68 (by decide) ?_
        refine zX.sub (L' := [(0, .ref (Λ 2)), (1, .int (fGoodP S j (k + 1) (fGoodT S j))), (2, .int (nI j)), (3, .ref (Λ (120 + j))), (4, .int (nI (k + 1)))]) ⟨rfl, (show some (Value.int ((fGoodP S j k (fGoodT S j)) + (0 : Int32))) = some (Value.int (fGoodP S j (k + 1) (fGoodT S j))) from congrArg (fun z => some (Value.int z)) (by rw [show fGoodP S j (k + 1) (fGoodT S j) = fGoodP S j k (fGoodT S j) + zb (fGood S j k) from rfl]; cases h9 : fGood S j k <;> simp_all [zb])), rfl, rfl, rfl, trivial⟩ ?_
        exact ih
      · refine zs_iconst (v := 1) (n := 59) dX7_countGoodTurns_58 (by decide) rfl ?_
        refine zs_goto (tgt := 63) dX7_countGoodTurns_59 (by decide) ?_
        refine zs_iadd (n := 64) dX7_countGoodTurns_63 rfl ?_
        refine zs_istore_n (n := 65) dX7_countGoodTurns_64 (by decide) rfl ?_
        refine zs_iinc (v := (nI (k + 1))) (n := 68) dX7_countGoodTurns_65 rfl (nI_1 _) (by decide) rfl ?_
        refine zs_goto (tgt := 33) dX7_countGoodTurns_68 (by decide) ?_
        refine zX.sub (L' := [(0, .ref (Λ 2)), (1, .int (fGoodP S j (k + 1) (fGoodT S j))), (2, .int (nI j)), (3, .ref (Λ (120 + j))), (4, .int (nI (k + 1)))]) ⟨rfl, (show some (Value.int ((fGoodP S j k (fGoodT S j)) + (1 : Int32))) = some (Value.int (fGoodP S j (k + 1) (fGoodT S j))) from congrArg (fun z => some (Value.int z)) (by rw [show fGoodP S j (k + 1) (fGoodT S j) = fGoodP S j k (fGoodT S j) + zb (fGood S j k) from rfl]; cases h9 : fGood S j k <;> simp_all [zb])), rfl, rfl, rfl, trivial⟩ ?_
        exact ih
    · have hb2 := hR.bnd.1.2.2.2 j
      refine zs_iload (n := 35) dX7_countGoodTurns_33 rfl rfl ?_
      refine zs_aload_n (n := 36) dX7_countGoodTurns_35 rfl rfl ?_
      refine zc_size (c := sc S (10 + j)) (n := 39) dX7_countGoodTurns_36 ml_X7_19 (hR.lT hj) (by simp) (by omega) rfl ?_
      refine zs_icmp_ge (tgt := 71) (n := 42) dX7_countGoodTurns_39 (by decide) rfl (fun _ => ?_) (fun h => absurd (nI_le (Nat.le_refl _) (by omega)) h)
      refine zs_iinc (v := (nI (j + 1))) (n := 74) dX7_countGoodTurns_71 rfl (nI_1 _) (by decide) rfl ?_
      refine zs_goto (tgt := 4) dX7_countGoodTurns_74 (by decide) ?_
      refine zX.sub (L' := [(0, .ref (Λ 2)), (1, .int (fGoodT S (j + 1))), (2, .int (nI (j + 1)))]) ⟨rfl, rfl, rfl, trivial⟩ ?_
      exact ih
  · have hb : sc S 0 ≤ _ := hR.bnd.1.1
    refine zs_iload_n (n := 5) dX7_countGoodTurns_4 rfl rfl ?_
    refine zs_aload_n (n := 6) dX7_countGoodTurns_5 rfl rfl ?_
    refine zs_getr (b := (Λ 15)) (n := 9) dX7_countGoodTurns_6 gf_X7_10 (hR.kd (lvC h3 (by omega))) (hR.pt (lvC h3 (by omega)) rfl (by decide)) rfl ?_
    refine zc_size (c := sc S 0) (n := 12) dX7_countGoodTurns_9 ml_X7_19 (hR.lP h3) (by simp) (by omega) rfl ?_
    refine zs_icmp_ge (tgt := 77) (n := 15) dX7_countGoodTurns_12 (by decide) rfl (fun _ => ?_) (fun h => absurd (nI_le (Nat.le_refl _) (by omega)) h)
    refine zs_iload_n (n := 78) dX7_countGoodTurns_77 rfl rfl ?_
    refine zs_ireturn dX7_countGoodTurns_78 ⟨_, rfl, rfl⟩ ?_
    exact hQ
theorem c_hasTurnElsewhere {x : Int32} {p : Nat} (hR : zRp Z Λ S M) (h3 : sc S 3 = 1) (hp : p < 100) : zD Z l 4 mth_X7_hasTurnElsewhere [.ref (Λ 2), .int x, .int (nI p)] M 0 0 (some (.int (zb (fElse S x p)))) M := by
  intro Q hQ
  show zX Z l 4 mth_X7_hasTurnElsewhere 0 [(0, .ref (Λ 2)), (1, .int x), (2, .int (nI p))] [] M 0 0 Q
  refine zs_iconst (v := 0) (n := 1) dX7_hasTurnElsewhere_0 (by decide) rfl ?_
  refine zs_istore_n (n := 2) dX7_hasTurnElsewhere_1 (by decide) rfl ?_
  refine zX.sub (L' := [(0, .ref (Λ 2)), (1, .int x), (2, .int (nI p)), (3, .int (nI 0))]) ⟨rfl, rfl, rfl, rfl, trivial⟩ ?_
  refine zloop (n := sc S 0) (X := fun j => zany (fun i => !decide (i = p) && !decide (fActs S i (sc S (10 + i)) &&& zbit x = 0)) j = false → zX Z l 4 mth_X7_hasTurnElsewhere 2 [(0, .ref (Λ 2)), (1, .int x), (2, .int (nI p)), (3, .int (nI j))] [] M 0 0 Q) (fun j hj ih => ?_) ?_ 0 (Nat.zero_le _) ?_
  · intro H
    have hb : sc S 0 ≤ _ := hR.bnd.1.1
    refine zs_iload_n (n := 3) dX7_hasTurnElsewhere_2 rfl rfl ?_
    refine zs_aload_n (n := 4) dX7_hasTurnElsewhere_3 rfl rfl ?_
    refine zs_getr (b := (Λ 15)) (n := 7) dX7_hasTurnElsewhere_4 gf_X7_10 (hR.kd (lvC h3 (by omega))) (hR.pt (lvC h3 (by omega)) rfl (by decide)) rfl ?_
    refine zc_size (c := sc S 0) (n := 10) dX7_hasTurnElsewhere_7 ml_X7_19 (hR.lP h3) (by simp) (by omega) rfl ?_
    refine zs_icmp_ge (tgt := 47) (n := 13) dX7_hasTurnElsewhere_10 (by decide) rfl (fun h => absurd h (nI_ge hj (by omega))) (fun _ => ?_)
    refine zs_iload_n (n := 14) dX7_hasTurnElsewhere_13 rfl rfl ?_
    refine zs_iload_n (n := 15) dX7_hasTurnElsewhere_14 rfl rfl ?_
    refine zs_icmp_eq (tgt := 41) (n := 18) dX7_hasTurnElsewhere_15 (by decide) rfl (fun h15 => ?_) (fun h15 => ?_)
    · refine zs_iinc (v := (nI (j + 1))) (n := 44) dX7_hasTurnElsewhere_41 rfl (nI_1 _) (by decide) rfl ?_
      refine zs_goto (tgt := 2) dX7_hasTurnElsewhere_44 (by decide) ?_
      refine zX.sub (L' := [(0, .ref (Λ 2)), (1, .int x), (2, .int (nI p)), (3, .int (nI (j + 1)))]) ⟨rfl, rfl, rfl, rfl, trivial⟩ ?_
      exact ih (zany_no H (by first | simp [h36] | simp [(nI_eq (by omega) (by omega)).mp h15]))
    · refine zs_aload_n (n := 19) dX7_hasTurnElsewhere_18 rfl rfl ?_
      refine zs_getr (b := (Λ 15)) (n := 22) dX7_hasTurnElsewhere_19 gf_X7_10 (hR.kd (lvC h3 (by omega))) (hR.pt (lvC h3 (by omega)) rfl (by decide)) rfl ?_
      refine zs_iload_n (n := 23) dX7_hasTurnElsewhere_22 rfl rfl ?_
      refine zc_getb (c := sc S 0) (b := (Λ (100 + j))) (n := 26) dX7_hasTurnElsewhere_23 ml_X7_23 (hR.lP h3) hj rfl (by simp) (by omega) rfl ?_
      refine zs_castS (ci := 11) (n := 29) dX7_hasTurnElsewhere_26 rfl cl_X7_27 (hR.kP hj) rfl ?_
      refine zc_V (n := 32) (As := []) (ci := 11) (mc := 0) (ms := 0) dX7_hasTurnElsewhere_29 ok_X6_actsOfTurns ⟨ml_X7_33, im_X6_actsOfTurns, sl_X6_actsOfTurns⟩ rfl (hR.kP hj) rfl (Nat.le_of_ble_eq_true rfl) (by simp) (by omega) (Nat.le_refl _) (Nat.le_refl _) rfl rfl (c_actsOfTurns hR hj) ?_
      refine zs_iconst (v := 1) (n := 33) dX7_hasTurnElsewhere_32 (by decide) rfl ?_
      refine zs_iload_n (n := 34) dX7_hasTurnElsewhere_33 rfl rfl ?_
      refine zs_ishl (n := 35) dX7_hasTurnElsewhere_34 rfl ?_
      refine zs_iand (n := 36) dX7_hasTurnElsewhere_35 rfl ?_
      refine zs_if_eq (tgt := 41) (n := 39) dX7_hasTurnElsewhere_36 (by decide) rfl (fun h36 => ?_) (fun h36 => ?_)
      · refine zs_iinc (v := (nI (j + 1))) (n := 44) dX7_hasTurnElsewhere_41 rfl (nI_1 _) (by decide) rfl ?_
        refine zs_goto (tgt := 2) dX7_hasTurnElsewhere_44 (by decide) ?_
        refine zX.sub (L' := [(0, .ref (Λ 2)), (1, .int x), (2, .int (nI p)), (3, .int (nI (j + 1)))]) ⟨rfl, rfl, rfl, rfl, trivial⟩ ?_
        exact ih (zany_no H (by first | simp [h36] | simp [(nI_eq (by omega) (by omega)).mp h15]))
      · refine zs_iconst (v := 1) (n := 40) dX7_hasTurnElsewhere_39 (by decide) rfl ?_
        refine zs_ireturn dX7_hasTurnElsewhere_40 ⟨_, rfl, rfl⟩ ?_
        unfold fElse at hQ
        rw [zany_hit (p := fun i => !decide (i = p) && !decide (fActs S i (sc S (10 + i)) &&& zbit x = 0)) (by simp [h36, show ¬ j = p from fun e => h15 (by rw [e])]) hj] at hQ
        exact hQ
  · intro H
    have hb : sc S 0 ≤ _ := hR.bnd.1.1
    refine zs_iload_n (n := 3) dX7_hasTurnElsewhere_2 rfl rfl ?_
    refine zs_aload_n (n := 4) dX7_hasTurnElsewhere_3 rfl rfl ?_
    refine zs_getr (b := (Λ 15)) (n := 7) dX7_hasTurnElsewhere_4 gf_X7_10 (hR.kd (lvC h3 (by omega))) (hR.pt (lvC h3 (by omega)) rfl (by decide)) rfl ?_
    refine zc_size (c := sc S 0) (n := 10) dX7_hasTurnElsewhere_7 ml_X7_19 (hR.lP h3) (by simp) (by omega) rfl ?_
    refine zs_icmp_ge (tgt := 47) (n := 13) dX7_hasTurnElsewhere_10 (by decide) rfl (fun _ => ?_) (fun h => absurd (nI_le (Nat.le_refl _) (by omega)) h)
    refine zs_iconst (v := 0) (n := 48) dX7_hasTurnElsewhere_47 (by decide) rfl ?_
    refine zs_ireturn dX7_hasTurnElsewhere_48 ⟨_, rfl, rfl⟩ ?_
    unfold fElse at hQ
    rw [H] at hQ
    exact hQ
  · rfl
def fPass (S : zSt) (i : Nat) (mi : Nat) : Int32 := sW S (110 + i) (mi / 60 - 10) * (nI (mi % 60) + 1) / 60 - sW S (110 + i) (mi / 60 - 10) * nI (mi % 60) / 60
end ZSTREET
