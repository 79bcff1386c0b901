/-! THE MODEL: a pitch; customs and orders -/
section ZMOD4
variable {Z : zPar} {l : Launch} {Λ : Nat → Nat} {S : zSt} {M M0 : zMem} {d d' : Nat} {mm : zMeth} {pc n nc ns ix nc1 ns1 : Nat} {L : List (Nat × Value)} {st : List Value} {Q : zO → zMem → Prop}
def fAddPitchM (S : zSt) (y e sh : Int32) : zSt := (cset (sc S) 1000 (sc S 1000 + 1), fPV (u2 (sV S) 1001 672 0) 1100 (sc S 1000) 576 y e sh, fPW (sW S) 1100 (sc S 1000), sT S, sP S)
def fTakenM (S : zSt) (y : Int32) (n : Nat) : Bool := zit (fun i b => b || decide (sV S (1100 + i) 576 = y)) n false
theorem k_addPitch_1 {y e sh : Int32} (hR : zRp Z Λ S M) (h4 : sc S 4 = 1) (hx9 : y < 0 ∨ ¬ y ≤ 99) : zG Z l 3 mth_X16_addPitch [.ref (Λ 1001), .int y, .int e, .int sh] M 5 35 (some (.int 0)) ((zRp Z Λ (mT S 1))) := by
  intro Q hQ
  have hb1 : sc S 1000 ≤ 6 := hR.bnd.2.1.1
  show zX Z l 3 mth_X16_addPitch 0 [(0, .ref (Λ 1001)), (1, .int y), (2, .int e), (3, .int sh)] [] M 5 35 Q
  refine zs_iconst (v := 0) (n := 1) dX16_addPitch_0 (by decide) rfl ?_
  refine zs_istore (n := 3) dX16_addPitch_1 (by decide) rfl ?_
  refine zs_aload_n (n := 4) dX16_addPitch_3 rfl rfl ?_
  refine zs_getr (b := (Λ 1015)) (n := 7) dX16_addPitch_4 gf_X16_10 (hR.kd (lvM h4 (by omega))) (hR.pt (lvM h4 (by omega)) rfl (by decide)) rfl ?_
  refine zi_new (r := 1015) (nc1 := 4) (ns1 := 31) (n := 10) 3000 dX16_addPitch_7 rfl hR (lvM h4 (by omega)) rfl (by decide) (by simp) (by omega) (by omega) (by omega) rfl ?_
  intro q7 M hR1 hI7 hq7 hag7
  have hR := hR1
  refine zs_astore (n := 12) dX16_addPitch_10 (by decide) rfl ?_
  refine zX.sub (L' := [(0, .ref (Λ 1001)), (1, .int y), (2, .int e), (3, .int sh), (4, .int (zb (fTakenM S y 0))), (5, .ref q7)]) ⟨rfl, rfl, rfl, rfl, rfl, rfl, trivial⟩ ?_
  refine zloop (n := sc S 1000) (X := fun j => ∀ M, zRp Z Λ S M ∧ zIt M q7 (Λ 1015) j 3000 → zX Z l 3 mth_X16_addPitch 12 [(0, .ref (Λ 1001)), (1, .int y), (2, .int e), (3, .int sh), (4, .int (zb (fTakenM S y j))), (5, .ref q7)] [] M 4 31 Q) (fun j hj ih => ?_) ?_ 0 (Nat.zero_le _) M ?_
  · intro M hR9
    obtain ⟨hR, hI7⟩ := hR9
    have hb912 : sc S 1000 ≤ _ := hR.bnd.2.1.1
    refine zs_aload (n := 14) dX16_addPitch_12 rfl rfl ?_
    refine zi_has (r := 1015) (j := j) (n := 19) dX16_addPitch_14 rfl hR (lvM h4 (by omega)) rfl hI7 (by rw [show zct (sc S) 1015 = sc S 1000 from rfl]; omega) (by simp) (by omega) rfl ?_
    rw [show zct (sc S) 1015 = sc S 1000 from rfl]
    refine zs_if_eq (tgt := 58) (n := 22) dX16_addPitch_19 (by decide) rfl (fun h => absurd h (zb1.mpr (by rw [decide_eq_false (by omega)]; rfl))) (fun _ => ?_)
    refine zs_aload (n := 24) dX16_addPitch_22 rfl rfl ?_
    refine zi_next (r := 1015) (j := j) (b := (Λ (1100 + j))) (n := 29) dX16_addPitch_24 rfl hR (lvM h4 (by omega)) rfl hI7 (by rw [show zct (sc S) 1015 = sc S 1000 from rfl]; exact hj) rfl (by simp) (by omega) rfl ?_
    intro M hR1 hI7n hag24
    have hI7 := hI7n
    have hR := hR1
    refine zs_castS (ci := 18) (n := 32) dX16_addPitch_29 rfl cl_X16_68 (hR.kP' hj) rfl ?_
    refine zs_astore (n := 34) dX16_addPitch_32 (by decide) rfl ?_
    refine zs_iload (n := 36) dX16_addPitch_34 rfl rfl ?_
    refine zs_if_ne (tgt := 48) (n := 39) dX16_addPitch_36 (by decide) rfl (fun h36 => ?_) (fun h36 => ?_)
    · refine zs_iconst (v := 1) (n := 49) dX16_addPitch_48 (by decide) rfl ?_
      refine zs_goto (tgt := 53) dX16_addPitch_49 (by decide) ?_
      refine zs_istore (n := 55) dX16_addPitch_53 (by decide) rfl ?_
      refine zs_goto (tgt := 12) dX16_addPitch_55 (by decide) ?_
      refine zX.sub (L' := [(0, .ref (Λ 1001)), (1, .int y), (2, .int e), (3, .int sh), (4, .int (zb (fTakenM S y (j + 1)))), (5, .ref q7)]) ⟨rfl, rfl, rfl, rfl, (show some (Value.int (1 : Int32)) = some (Value.int (zb (fTakenM S y (j + 1)))) from congrArg (fun z => some (Value.int z)) (by rw [show fTakenM S y (j + 1) = (fTakenM S y j || decide (sV S (1100 + j) 576 = y)) from rfl]; cases h9 : fTakenM S y j <;> simp_all [zb])), rfl, trivial⟩ ?_
      exact ih M ⟨hR, hI7⟩
    · refine zs_aload (n := 41) dX16_addPitch_39 rfl rfl ?_
      refine zs_getv (x := (sV S (1100 + j) 576)) (n := 44) dX16_addPitch_41 gf_X16_70 (hR.kP' hj) (hR.iv (lvP' hj) (by decide) (by decide)) rfl ?_
      refine zs_iload_n (n := 45) dX16_addPitch_44 rfl rfl ?_
      refine zs_icmp_ne (tgt := 52) (n := 48) dX16_addPitch_45 (by decide) rfl (fun h45 => ?_) (fun h45 => ?_)
      · refine zs_iconst (v := 0) (n := 53) dX16_addPitch_52 (by decide) rfl ?_
        refine zs_istore (n := 55) dX16_addPitch_53 (by decide) rfl ?_
        refine zs_goto (tgt := 12) dX16_addPitch_55 (by decide) ?_
        refine zX.sub (L' := [(0, .ref (Λ 1001)), (1, .int y), (2, .int e), (3, .int sh), (4, .int (zb (fTakenM S y (j + 1)))), (5, .ref q7)]) ⟨rfl, rfl, rfl, rfl, (show some (Value.int (0 : Int32)) = some (Value.int (zb (fTakenM S y (j + 1)))) from congrArg (fun z => some (Value.int z)) (by rw [show fTakenM S y (j + 1) = (fTakenM S y j || decide (sV S (1100 + j) 576 = y)) from rfl]; cases h9 : fTakenM S y j <;> simp_all [zb])), rfl, trivial⟩ ?_
        exact ih M ⟨hR, hI7⟩
      · refine zs_iconst (v := 1) (n := 49) dX16_addPitch_48 (by decide) rfl ?_
        refine zs_goto (tgt := 53) dX16_addPitch_49 (by decide) ?_
        refine zs_istore (n := 55) dX16_addPitch_53 (by decide) rfl ?_
        refine zs_goto (tgt := 12) dX16_addPitch_55 (by decide) ?_
        refine zX.sub (L' := [(0, .ref (Λ 1001)), (1, .int y), (2, .int e), (3, .int sh), (4, .int (zb (fTakenM S y (j + 1)))), (5, .ref q7)]) ⟨rfl, rfl, rfl, rfl, (show some (Value.int (1 : Int32)) = some (Value.int (zb (fTakenM S y (j + 1)))) from congrArg (fun z => some (Value.int z)) (by rw [show fTakenM S y (j + 1) = (fTakenM S y j || decide (sV S (1100 + j) 576 = y)) from rfl]; cases h9 : fTakenM S y j <;> simp_all [zb])), rfl, trivial⟩ ?_
        exact ih M ⟨hR, hI7⟩
  · intro M hR9
    obtain ⟨hR, hI7⟩ := hR9
    have hb912 : sc S 1000 ≤ _ := hR.bnd.2.1.1
    refine zs_aload (n := 14) dX16_addPitch_12 rfl rfl ?_
    refine zi_has (r := 1015) (j := sc S 1000) (n := 19) dX16_addPitch_14 rfl hR (lvM h4 (by omega)) rfl hI7 (by rw [show zct (sc S) 1015 = sc S 1000 from rfl]; omega) (by simp) (by omega) rfl ?_
    rw [show zct (sc S) 1015 = sc S 1000 from rfl]
    refine zs_if_eq (tgt := 58) (n := 22) dX16_addPitch_19 (by decide) rfl (fun _ => ?_) (fun h => absurd (zb0.mpr (by rw [decide_eq_true rfl]; rfl)) h)
    refine zs_aload_n (n := 59) dX16_addPitch_58 rfl rfl ?_
    refine zs_iload_n (n := 60) dX16_addPitch_59 rfl rfl ?_
    refine zs_i2l (n := 61) dX16_addPitch_60 rfl ?_
    refine zs_lconst (v := 0) (n := 62) dX16_addPitch_61 (by decide) rfl ?_
    refine zs_ldc2 (n := 65) dX16_addPitch_62 ct_X16_73 rfl ?_
    refine zc_S (n := 68) (As := [.long y.toInt64, .long (0 : Int64), .long (99 : Int64)]) (mc := 0) (ms := 0) dX16_addPitch_65 ok_X16_in ⟨ml_X16_50, st_X16_in⟩ rfl (Nat.le_of_ble_eq_true rfl) (by simp) (by omega) (Nat.le_refl _) (Nat.le_refl _) rfl rfl (m_in (x := y) (lo := (0 : Int32)) (hi := (99 : Int32)) rfl (by first | rfl | decide) (by first | rfl | decide)) ?_
    refine zs_if_eq (tgt := 83) (n := 71) dX16_addPitch_68 (by decide) rfl (fun _ => ?_) (fun h => absurd (zb0.mpr (fIn_f hx9)) h)
    refine zs_iconst (v := 1) (n := 84) dX16_addPitch_83 (by decide) rfl ?_
    refine zs_goto (tgt := 113) dX16_addPitch_84 (by decide) ?_
    refine zw_i (r := 1001) (n := 116) dX16_addPitch_113 pf_X16_addPitch_43 hR (lvM h4 (by omega)) (hR.kd (lvM h4 (by omega))) ⟨rfl, rfl⟩ (by decide) rfl ?_
    intro M hR hv
    refine zs_aload_n (n := 117) dX16_addPitch_116 rfl rfl ?_
    refine zs_getv (x := (1 : Int32)) (n := 120) dX16_addPitch_117 gf_X16_43 (hR.kd (lvM h4 (by omega))) (hR.iv (lvM h4 (by omega)) (by decide) (by decide)) rfl ?_
    refine zs_if_le (tgt := 125) (n := 123) dX16_addPitch_120 (by decide) rfl (fun h => absurd h (by decide)) (fun _ => ?_)
    refine zs_iconst (v := 0) (n := 124) dX16_addPitch_123 (by decide) rfl ?_
    refine zs_ireturn dX16_addPitch_124 ⟨_, rfl, rfl⟩ ?_
    exact hQ _ hR
  · exact ⟨hR, hI7⟩
theorem k_addPitch_2 {y e sh : Int32} (hR : zRp Z Λ S M) (h4 : sc S 4 = 1) (g1 : ¬ y < 0) (g2 : y ≤ 99) (hx9 : e < 0 ∨ ¬ e ≤ 9) : zG Z l 3 mth_X16_addPitch [.ref (Λ 1001), .int y, .int e, .int sh] M 5 35 (some (.int 0)) ((zRp Z Λ (mT S 1))) := by
  intro Q hQ
  have hb1 : sc S 1000 ≤ 6 := hR.bnd.2.1.1
  show zX Z l 3 mth_X16_addPitch 0 [(0, .ref (Λ 1001)), (1, .int y), (2, .int e), (3, .int sh)] [] M 5 35 Q
  refine zs_iconst (v := 0) (n := 1) dX16_addPitch_0 (by decide) rfl ?_
  refine zs_istore (n := 3) dX16_addPitch_1 (by decide) rfl ?_
  refine zs_aload_n (n := 4) dX16_addPitch_3 rfl rfl ?_
  refine zs_getr (b := (Λ 1015)) (n := 7) dX16_addPitch_4 gf_X16_10 (hR.kd (lvM h4 (by omega))) (hR.pt (lvM h4 (by omega)) rfl (by decide)) rfl ?_
  refine zi_new (r := 1015) (nc1 := 4) (ns1 := 31) (n := 10) 3000 dX16_addPitch_7 rfl hR (lvM h4 (by omega)) rfl (by decide) (by simp) (by omega) (by omega) (by omega) rfl ?_
  intro q7 M hR1 hI7 hq7 hag7
  have hR := hR1
  refine zs_astore (n := 12) dX16_addPitch_10 (by decide) rfl ?_
  refine zX.sub (L' := [(0, .ref (Λ 1001)), (1, .int y), (2, .int e), (3, .int sh), (4, .int (zb (fTakenM S y 0))), (5, .ref q7)]) ⟨rfl, rfl, rfl, rfl, rfl, rfl, trivial⟩ ?_
  refine zloop (n := sc S 1000) (X := fun j => ∀ M, zRp Z Λ S M ∧ zIt M q7 (Λ 1015) j 3000 → zX Z l 3 mth_X16_addPitch 12 [(0, .ref (Λ 1001)), (1, .int y), (2, .int e), (3, .int sh), (4, .int (zb (fTakenM S y j))), (5, .ref q7)] [] M 4 31 Q) (fun j hj ih => ?_) ?_ 0 (Nat.zero_le _) M ?_
  · intro M hR9
    obtain ⟨hR, hI7⟩ := hR9
    have hb912 : sc S 1000 ≤ _ := hR.bnd.2.1.1
    refine zs_aload (n := 14) dX16_addPitch_12 rfl rfl ?_
    refine zi_has (r := 1015) (j := j) (n := 19) dX16_addPitch_14 rfl hR (lvM h4 (by omega)) rfl hI7 (by rw [show zct (sc S) 1015 = sc S 1000 from rfl]; omega) (by simp) (by omega) rfl ?_
    rw [show zct (sc S) 1015 = sc S 1000 from rfl]
    refine zs_if_eq (tgt := 58) (n := 22) dX16_addPitch_19 (by decide) rfl (fun h => absurd h (zb1.mpr (by rw [decide_eq_false (by omega)]; rfl))) (fun _ => ?_)
    refine zs_aload (n := 24) dX16_addPitch_22 rfl rfl ?_
    refine zi_next (r := 1015) (j := j) (b := (Λ (1100 + j))) (n := 29) dX16_addPitch_24 rfl hR (lvM h4 (by omega)) rfl hI7 (by rw [show zct (sc S) 1015 = sc S 1000 from rfl]; exact hj) rfl (by simp) (by omega) rfl ?_
    intro M hR1 hI7n hag24
    have hI7 := hI7n
    have hR := hR1
    refine zs_castS (ci := 18) (n := 32) dX16_addPitch_29 rfl cl_X16_68 (hR.kP' hj) rfl ?_
    refine zs_astore (n := 34) dX16_addPitch_32 (by decide) rfl ?_
    refine zs_iload (n := 36) dX16_addPitch_34 rfl rfl ?_
    refine zs_if_ne (tgt := 48) (n := 39) dX16_addPitch_36 (by decide) rfl (fun h36 => ?_) (fun h36 => ?_)
    · refine zs_iconst (v := 1) (n := 49) dX16_addPitch_48 (by decide) rfl ?_
      refine zs_goto (tgt := 53) dX16_addPitch_49 (by decide) ?_
      refine zs_istore (n := 55) dX16_addPitch_53 (by decide) rfl ?_
      refine zs_goto (tgt := 12) dX16_addPitch_55 (by decide) ?_
      refine zX.sub (L' := [(0, .ref (Λ 1001)), (1, .int y), (2, .int e), (3, .int sh), (4, .int (zb (fTakenM S y (j + 1)))), (5, .ref q7)]) ⟨rfl, rfl, rfl, rfl, (show some (Value.int (1 : Int32)) = some (Value.int (zb (fTakenM S y (j + 1)))) from congrArg (fun z => some (Value.int z)) (by rw [show fTakenM S y (j + 1) = (fTakenM S y j || decide (sV S (1100 + j) 576 = y)) from rfl]; cases h9 : fTakenM S y j <;> simp_all [zb])), rfl, trivial⟩ ?_
      exact ih M ⟨hR, hI7⟩
    · refine zs_aload (n := 41) dX16_addPitch_39 rfl rfl ?_
      refine zs_getv (x := (sV S (1100 + j) 576)) (n := 44) dX16_addPitch_41 gf_X16_70 (hR.kP' hj) (hR.iv (lvP' hj) (by decide) (by decide)) rfl ?_
      refine zs_iload_n (n := 45) dX16_addPitch_44 rfl rfl ?_
      refine zs_icmp_ne (tgt := 52) (n := 48) dX16_addPitch_45 (by decide) rfl (fun h45 => ?_) (fun h45 => ?_)
      · refine zs_iconst (v := 0) (n := 53) dX16_addPitch_52 (by decide) rfl ?_
        refine zs_istore (n := 55) dX16_addPitch_53 (by decide) rfl ?_
        refine zs_goto (tgt := 12) dX16_addPitch_55 (by decide) ?_
        refine zX.sub (L' := [(0, .ref (Λ 1001)), (1, .int y), (2, .int e), (3, .int sh), (4, .int (zb (fTakenM S y (j + 1)))), (5, .ref q7)]) ⟨rfl, rfl, rfl, rfl, (show some (Value.int (0 : Int32)) = some (Value.int (zb (fTakenM S y (j + 1)))) from congrArg (fun z => some (Value.int z)) (by rw [show fTakenM S y (j + 1) = (fTakenM S y j || decide (sV S (1100 + j) 576 = y)) from rfl]; cases h9 : fTakenM S y j <;> simp_all [zb])), rfl, trivial⟩ ?_
        exact ih M ⟨hR, hI7⟩
      · refine zs_iconst (v := 1) (n := 49) dX16_addPitch_48 (by decide) rfl ?_
        refine zs_goto (tgt := 53) dX16_addPitch_49 (by decide) ?_
        refine zs_istore (n := 55) dX16_addPitch_53 (by decide) rfl ?_
        refine zs_goto (tgt := 12) dX16_addPitch_55 (by decide) ?_
        refine zX.sub (L' := [(0, .ref (Λ 1001)), (1, .int y), (2, .int e), (3, .int sh), (4, .int (zb (fTakenM S y (j + 1)))), (5, .ref q7)]) ⟨rfl, rfl, rfl, rfl, (show some (Value.int (1 : Int32)) = some (Value.int (zb (fTakenM S y (j + 1)))) from congrArg (fun z => some (Value.int z)) (by rw [show fTakenM S y (j + 1) = (fTakenM S y j || decide (sV S (1100 + j) 576 = y)) from rfl]; cases h9 : fTakenM S y j <;> simp_all [zb])), rfl, trivial⟩ ?_
        exact ih M ⟨hR, hI7⟩
  · intro M hR9
    obtain ⟨hR, hI7⟩ := hR9
    have hb912 : sc S 1000 ≤ _ := hR.bnd.2.1.1
    refine zs_aload (n := 14) dX16_addPitch_12 rfl rfl ?_
    refine zi_has (r := 1015) (j := sc S 1000) (n := 19) dX16_addPitch_14 rfl hR (lvM h4 (by omega)) rfl hI7 (by rw [show zct (sc S) 1015 = sc S 1000 from rfl]; omega) (by simp) (by omega) rfl ?_
    rw [show zct (sc S) 1015 = sc S 1000 from rfl]
    refine zs_if_eq (tgt := 58) (n := 22) dX16_addPitch_19 (by decide) rfl (fun _ => ?_) (fun h => absurd (zb0.mpr (by rw [decide_eq_true rfl]; rfl)) h)
    refine zs_aload_n (n := 59) dX16_addPitch_58 rfl rfl ?_
    refine zs_iload_n (n := 60) dX16_addPitch_59 rfl rfl ?_
    refine zs_i2l (n := 61) dX16_addPitch_60 rfl ?_
    refine zs_lconst (v := 0) (n := 62) dX16_addPitch_61 (by decide) rfl ?_
    refine zs_ldc2 (n := 65) dX16_addPitch_62 ct_X16_73 rfl ?_
    refine zc_S (n := 68) (As := [.long y.toInt64, .long (0 : Int64), .long (99 : Int64)]) (mc := 0) (ms := 0) dX16_addPitch_65 ok_X16_in ⟨ml_X16_50, st_X16_in⟩ rfl (Nat.le_of_ble_eq_true rfl) (by simp) (by omega) (Nat.le_refl _) (Nat.le_refl _) rfl rfl (m_in (x := y) (lo := (0 : Int32)) (hi := (99 : Int32)) rfl (by first | rfl | decide) (by first | rfl | decide)) ?_
    refine zs_if_eq (tgt := 83) (n := 71) dX16_addPitch_68 (by decide) rfl (fun h => absurd h (zb1.mpr (fIn_t g1 g2))) (fun _ => ?_)
    refine zs_iload_n (n := 72) dX16_addPitch_71 rfl rfl ?_
    refine zs_i2l (n := 73) dX16_addPitch_72 rfl ?_
    refine zs_lconst (v := 0) (n := 74) dX16_addPitch_73 (by decide) rfl ?_
    refine zs_ldc2 (n := 77) dX16_addPitch_74 ct_X16_75 rfl ?_
    refine zc_S (n := 80) (As := [.long e.toInt64, .long (0 : Int64), .long (9 : Int64)]) (mc := 0) (ms := 0) dX16_addPitch_77 ok_X16_in ⟨ml_X16_50, st_X16_in⟩ rfl (Nat.le_of_ble_eq_true rfl) (by simp) (by omega) (Nat.le_refl _) (Nat.le_refl _) rfl rfl (m_in (x := e) (lo := (0 : Int32)) (hi := (9 : Int32)) rfl (by first | rfl | decide) (by first | rfl | decide)) ?_
    refine zs_if_ne (tgt := 87) (n := 83) dX16_addPitch_80 (by decide) rfl (fun h => absurd (zb0.mpr (fIn_f hx9)) h) (fun _ => ?_)
    refine zs_iconst (v := 1) (n := 84) dX16_addPitch_83 (by decide) rfl ?_
    refine zs_goto (tgt := 113) dX16_addPitch_84 (by decide) ?_
    refine zw_i (r := 1001) (n := 116) dX16_addPitch_113 pf_X16_addPitch_43 hR (lvM h4 (by omega)) (hR.kd (lvM h4 (by omega))) ⟨rfl, rfl⟩ (by decide) rfl ?_
    intro M hR hv
    refine zs_aload_n (n := 117) dX16_addPitch_116 rfl rfl ?_
    refine zs_getv (x := (1 : Int32)) (n := 120) dX16_addPitch_117 gf_X16_43 (hR.kd (lvM h4 (by omega))) (hR.iv (lvM h4 (by omega)) (by decide) (by decide)) rfl ?_
    refine zs_if_le (tgt := 125) (n := 123) dX16_addPitch_120 (by decide) rfl (fun h => absurd h (by decide)) (fun _ => ?_)
    refine zs_iconst (v := 0) (n := 124) dX16_addPitch_123 (by decide) rfl ?_
    refine zs_ireturn dX16_addPitch_124 ⟨_, rfl, rfl⟩ ?_
    exact hQ _ hR
  · exact ⟨hR, hI7⟩
theorem k_addPitch_3 {y e sh : Int32} (hR : zRp Z Λ S M) (h4 : sc S 4 = 1) (g1 : ¬ y < 0) (g2 : y ≤ 99) (g3 : ¬ e < 0) (g4 : e ≤ 9) (hx9 : fTakenM S y (sc S 1000) = true) : zG Z l 3 mth_X16_addPitch [.ref (Λ 1001), .int y, .int e, .int sh] M 5 35 (some (.int 0)) ((zRp Z Λ (mT S 2))) := by
  intro Q hQ
  have hb1 : sc S 1000 ≤ 6 := hR.bnd.2.1.1
  show zX Z l 3 mth_X16_addPitch 0 [(0, .ref (Λ 1001)), (1, .int y), (2, .int e), (3, .int sh)] [] M 5 35 Q
  refine zs_iconst (v := 0) (n := 1) dX16_addPitch_0 (by decide) rfl ?_
  refine zs_istore (n := 3) dX16_addPitch_1 (by decide) rfl ?_
  refine zs_aload_n (n := 4) dX16_addPitch_3 rfl rfl ?_
  refine zs_getr (b := (Λ 1015)) (n := 7) dX16_addPitch_4 gf_X16_10 (hR.kd (lvM h4 (by omega))) (hR.pt (lvM h4 (by omega)) rfl (by decide)) rfl ?_
  refine zi_new (r := 1015) (nc1 := 4) (ns1 := 31) (n := 10) 3000 dX16_addPitch_7 rfl hR (lvM h4 (by omega)) rfl (by decide) (by simp) (by omega) (by omega) (by omega) rfl ?_
  intro q7 M hR1 hI7 hq7 hag7
  have hR := hR1
  refine zs_astore (n := 12) dX16_addPitch_10 (by decide) rfl ?_
  refine zX.sub (L' := [(0, .ref (Λ 1001)), (1, .int y), (2, .int e), (3, .int sh), (4, .int (zb (fTakenM S y 0))), (5, .ref q7)]) ⟨rfl, rfl, rfl, rfl, rfl, rfl, trivial⟩ ?_
  refine zloop (n := sc S 1000) (X := fun j => ∀ M, zRp Z Λ S M ∧ zIt M q7 (Λ 1015) j 3000 → zX Z l 3 mth_X16_addPitch 12 [(0, .ref (Λ 1001)), (1, .int y), (2, .int e), (3, .int sh), (4, .int (zb (fTakenM S y j))), (5, .ref q7)] [] M 4 31 Q) (fun j hj ih => ?_) ?_ 0 (Nat.zero_le _) M ?_
  · intro M hR9
    obtain ⟨hR, hI7⟩ := hR9
    have hb912 : sc S 1000 ≤ _ := hR.bnd.2.1.1
    refine zs_aload (n := 14) dX16_addPitch_12 rfl rfl ?_
    refine zi_has (r := 1015) (j := j) (n := 19) dX16_addPitch_14 rfl hR (lvM h4 (by omega)) rfl hI7 (by rw [show zct (sc S) 1015 = sc S 1000 from rfl]; omega) (by simp) (by omega) rfl ?_
    rw [show zct (sc S) 1015 = sc S 1000 from rfl]
    refine zs_if_eq (tgt := 58) (n := 22) dX16_addPitch_19 (by decide) rfl (fun h => absurd h (zb1.mpr (by rw [decide_eq_false (by omega)]; rfl))) (fun _ => ?_)
    refine zs_aload (n := 24) dX16_addPitch_22 rfl rfl ?_
    refine zi_next (r := 1015) (j := j) (b := (Λ (1100 + j))) (n := 29) dX16_addPitch_24 rfl hR (lvM h4 (by omega)) rfl hI7 (by rw [show zct (sc S) 1015 = sc S 1000 from rfl]; exact hj) rfl (by simp) (by omega) rfl ?_
    intro M hR1 hI7n hag24
    have hI7 := hI7n
    have hR := hR1
    refine zs_castS (ci := 18) (n := 32) dX16_addPitch_29 rfl cl_X16_68 (hR.kP' hj) rfl ?_
    refine zs_astore (n := 34) dX16_addPitch_32 (by decide) rfl ?_
    refine zs_iload (n := 36) dX16_addPitch_34 rfl rfl ?_
    refine zs_if_ne (tgt := 48) (n := 39) dX16_addPitch_36 (by decide) rfl (fun h36 => ?_) (fun h36 => ?_)
    · refine zs_iconst (v := 1) (n := 49) dX16_addPitch_48 (by decide) rfl ?_
      refine zs_goto (tgt := 53) dX16_addPitch_49 (by decide) ?_
      refine zs_istore (n := 55) dX16_addPitch_53 (by decide) rfl ?_
      refine zs_goto (tgt := 12) dX16_addPitch_55 (by decide) ?_
      refine zX.sub (L' := [(0, .ref (Λ 1001)), (1, .int y), (2, .int e), (3, .int sh), (4, .int (zb (fTakenM S y (j + 1)))), (5, .ref q7)]) ⟨rfl, rfl, rfl, rfl, (show some (Value.int (1 : Int32)) = some (Value.int (zb (fTakenM S y (j + 1)))) from congrArg (fun z => some (Value.int z)) (by rw [show fTakenM S y (j + 1) = (fTakenM S y j || decide (sV S (1100 + j) 576 = y)) from rfl]; cases h9 : fTakenM S y j <;> simp_all [zb])), rfl, trivial⟩ ?_
      exact ih M ⟨hR, hI7⟩
    · refine zs_aload (n := 41) dX16_addPitch_39 rfl rfl ?_
      refine zs_getv (x := (sV S (1100 + j) 576)) (n := 44) dX16_addPitch_41 gf_X16_70 (hR.kP' hj) (hR.iv (lvP' hj) (by decide) (by decide)) rfl ?_
      refine zs_iload_n (n := 45) dX16_addPitch_44 rfl rfl ?_
      refine zs_icmp_ne (tgt := 52) (n := 48) dX16_addPitch_45 (by decide) rfl (fun h45 => ?_) (fun h45 => ?_)
      · refine zs_iconst (v := 0) (n := 53) dX16_addPitch_52 (by decide) rfl ?_
        refine zs_istore (n := 55) dX16_addPitch_53 (by decide) rfl ?_
        refine zs_goto (tgt := 12) dX16_addPitch_55 (by decide) ?_
        refine zX.sub (L' := [(0, .ref (Λ 1001)), (1, .int y), (2, .int e), (3, .int sh), (4, .int (zb (fTakenM S y (j + 1)))), (5, .ref q7)]) ⟨rfl, rfl, rfl, rfl, (show some (Value.int (0 : Int32)) = some (Value.int (zb (fTakenM S y (j + 1)))) from congrArg (fun z => some (Value.int z)) (by rw [show fTakenM S y (j + 1) = (fTakenM S y j || decide (sV S (1100 + j) 576 = y)) from rfl]; cases h9 : fTakenM S y j <;> simp_all [zb])), rfl, trivial⟩ ?_
        exact ih M ⟨hR, hI7⟩
      · refine zs_iconst (v := 1) (n := 49) dX16_addPitch_48 (by decide) rfl ?_
        refine zs_goto (tgt := 53) dX16_addPitch_49 (by decide) ?_
        refine zs_istore (n := 55) dX16_addPitch_53 (by decide) rfl ?_
        refine zs_goto (tgt := 12) dX16_addPitch_55 (by decide) ?_
        refine zX.sub (L' := [(0, .ref (Λ 1001)), (1, .int y), (2, .int e), (3, .int sh), (4, .int (zb (fTakenM S y (j + 1)))), (5, .ref q7)]) ⟨rfl, rfl, rfl, rfl, (show some (Value.int (1 : Int32)) = some (Value.int (zb (fTakenM S y (j + 1)))) from congrArg (fun z => some (Value.int z)) (by rw [show fTakenM S y (j + 1) = (fTakenM S y j || decide (sV S (1100 + j) 576 = y)) from rfl]; cases h9 : fTakenM S y j <;> simp_all [zb])), rfl, trivial⟩ ?_
        exact ih M ⟨hR, hI7⟩
  · intro M hR9
    obtain ⟨hR, hI7⟩ := hR9
    have hb912 : sc S 1000 ≤ _ := hR.bnd.2.1.1
    refine zs_aload (n := 14) dX16_addPitch_12 rfl rfl ?_
    refine zi_has (r := 1015) (j := sc S 1000) (n := 19) dX16_addPitch_14 rfl hR (lvM h4 (by omega)) rfl hI7 (by rw [show zct (sc S) 1015 = sc S 1000 from rfl]; omega) (by simp) (by omega) rfl ?_
    rw [show zct (sc S) 1015 = sc S 1000 from rfl]
    refine zs_if_eq (tgt := 58) (n := 22) dX16_addPitch_19 (by decide) rfl (fun _ => ?_) (fun h => absurd (zb0.mpr (by rw [decide_eq_true rfl]; rfl)) h)
    refine zs_aload_n (n := 59) dX16_addPitch_58 rfl rfl ?_
    refine zs_iload_n (n := 60) dX16_addPitch_59 rfl rfl ?_
    refine zs_i2l (n := 61) dX16_addPitch_60 rfl ?_
    refine zs_lconst (v := 0) (n := 62) dX16_addPitch_61 (by decide) rfl ?_
    refine zs_ldc2 (n := 65) dX16_addPitch_62 ct_X16_73 rfl ?_
    refine zc_S (n := 68) (As := [.long y.toInt64, .long (0 : Int64), .long (99 : Int64)]) (mc := 0) (ms := 0) dX16_addPitch_65 ok_X16_in ⟨ml_X16_50, st_X16_in⟩ rfl (Nat.le_of_ble_eq_true rfl) (by simp) (by omega) (Nat.le_refl _) (Nat.le_refl _) rfl rfl (m_in (x := y) (lo := (0 : Int32)) (hi := (99 : Int32)) rfl (by first | rfl | decide) (by first | rfl | decide)) ?_
    refine zs_if_eq (tgt := 83) (n := 71) dX16_addPitch_68 (by decide) rfl (fun h => absurd h (zb1.mpr (fIn_t g1 g2))) (fun _ => ?_)
    refine zs_iload_n (n := 72) dX16_addPitch_71 rfl rfl ?_
    refine zs_i2l (n := 73) dX16_addPitch_72 rfl ?_
    refine zs_lconst (v := 0) (n := 74) dX16_addPitch_73 (by decide) rfl ?_
    refine zs_ldc2 (n := 77) dX16_addPitch_74 ct_X16_75 rfl ?_
    refine zc_S (n := 80) (As := [.long e.toInt64, .long (0 : Int64), .long (9 : Int64)]) (mc := 0) (ms := 0) dX16_addPitch_77 ok_X16_in ⟨ml_X16_50, st_X16_in⟩ rfl (Nat.le_of_ble_eq_true rfl) (by simp) (by omega) (Nat.le_refl _) (Nat.le_refl _) rfl rfl (m_in (x := e) (lo := (0 : Int32)) (hi := (9 : Int32)) rfl (by first | rfl | decide) (by first | rfl | decide)) ?_
    refine zs_if_ne (tgt := 87) (n := 83) dX16_addPitch_80 (by decide) rfl (fun _ => ?_) (fun h => absurd h (zb1.mpr (fIn_t g3 g4)))
    refine zs_iload (n := 89) dX16_addPitch_87 rfl rfl ?_
    refine zs_if_eq (tgt := 96) (n := 92) dX16_addPitch_89 (by decide) rfl (fun h => absurd h (zb1.mpr hx9)) (fun _ => ?_)
    refine zs_iconst (v := 2) (n := 93) dX16_addPitch_92 (by decide) rfl ?_
    refine zs_goto (tgt := 113) dX16_addPitch_93 (by decide) ?_
    refine zw_i (r := 1001) (n := 116) dX16_addPitch_113 pf_X16_addPitch_43 hR (lvM h4 (by omega)) (hR.kd (lvM h4 (by omega))) ⟨rfl, rfl⟩ (by decide) rfl ?_
    intro M hR hv
    refine zs_aload_n (n := 117) dX16_addPitch_116 rfl rfl ?_
    refine zs_getv (x := (2 : Int32)) (n := 120) dX16_addPitch_117 gf_X16_43 (hR.kd (lvM h4 (by omega))) (hR.iv (lvM h4 (by omega)) (by decide) (by decide)) rfl ?_
    refine zs_if_le (tgt := 125) (n := 123) dX16_addPitch_120 (by decide) rfl (fun h => absurd h (by decide)) (fun _ => ?_)
    refine zs_iconst (v := 0) (n := 124) dX16_addPitch_123 (by decide) rfl ?_
    refine zs_ireturn dX16_addPitch_124 ⟨_, rfl, rfl⟩ ?_
    exact hQ _ hR
  · exact ⟨hR, hI7⟩
theorem k_addPitch_4 {y e sh : Int32} (hR : zRp Z Λ S M) (h4 : sc S 4 = 1) (g1 : ¬ y < 0) (g2 : y ≤ 99) (g3 : ¬ e < 0) (g4 : e ≤ 9) (hx9 : fTakenM S y (sc S 1000) = false) (hn : sc S 1000 = 6) : zG Z l 3 mth_X16_addPitch [.ref (Λ 1001), .int y, .int e, .int sh] M 5 35 (some (.int 0)) ((zRp Z Λ (mT S 3))) := by
  intro Q hQ
  have hb1 : sc S 1000 ≤ 6 := hR.bnd.2.1.1
  show zX Z l 3 mth_X16_addPitch 0 [(0, .ref (Λ 1001)), (1, .int y), (2, .int e), (3, .int sh)] [] M 5 35 Q
  refine zs_iconst (v := 0) (n := 1) dX16_addPitch_0 (by decide) rfl ?_
  refine zs_istore (n := 3) dX16_addPitch_1 (by decide) rfl ?_
  refine zs_aload_n (n := 4) dX16_addPitch_3 rfl rfl ?_
  refine zs_getr (b := (Λ 1015)) (n := 7) dX16_addPitch_4 gf_X16_10 (hR.kd (lvM h4 (by omega))) (hR.pt (lvM h4 (by omega)) rfl (by decide)) rfl ?_
  refine zi_new (r := 1015) (nc1 := 4) (ns1 := 31) (n := 10) 3000 dX16_addPitch_7 rfl hR (lvM h4 (by omega)) rfl (by decide) (by simp) (by omega) (by omega) (by omega) rfl ?_
  intro q7 M hR1 hI7 hq7 hag7
  have hR := hR1
  refine zs_astore (n := 12) dX16_addPitch_10 (by decide) rfl ?_
  refine zX.sub (L' := [(0, .ref (Λ 1001)), (1, .int y), (2, .int e), (3, .int sh), (4, .int (zb (fTakenM S y 0))), (5, .ref q7)]) ⟨rfl, rfl, rfl, rfl, rfl, rfl, trivial⟩ ?_
  refine zloop (n := sc S 1000) (X := fun j => ∀ M, zRp Z Λ S M ∧ zIt M q7 (Λ 1015) j 3000 → zX Z l 3 mth_X16_addPitch 12 [(0, .ref (Λ 1001)), (1, .int y), (2, .int e), (3, .int sh), (4, .int (zb (fTakenM S y j))), (5, .ref q7)] [] M 4 31 Q) (fun j hj ih => ?_) ?_ 0 (Nat.zero_le _) M ?_
  · intro M hR9
    obtain ⟨hR, hI7⟩ := hR9
    have hb912 : sc S 1000 ≤ _ := hR.bnd.2.1.1
    refine zs_aload (n := 14) dX16_addPitch_12 rfl rfl ?_
    refine zi_has (r := 1015) (j := j) (n := 19) dX16_addPitch_14 rfl hR (lvM h4 (by omega)) rfl hI7 (by rw [show zct (sc S) 1015 = sc S 1000 from rfl]; omega) (by simp) (by omega) rfl ?_
    rw [show zct (sc S) 1015 = sc S 1000 from rfl]
    refine zs_if_eq (tgt := 58) (n := 22) dX16_addPitch_19 (by decide) rfl (fun h => absurd h (zb1.mpr (by rw [decide_eq_false (by omega)]; rfl))) (fun _ => ?_)
    refine zs_aload (n := 24) dX16_addPitch_22 rfl rfl ?_
    refine zi_next (r := 1015) (j := j) (b := (Λ (1100 + j))) (n := 29) dX16_addPitch_24 rfl hR (lvM h4 (by omega)) rfl hI7 (by rw [show zct (sc S) 1015 = sc S 1000 from rfl]; exact hj) rfl (by simp) (by omega) rfl ?_
    intro M hR1 hI7n hag24
    have hI7 := hI7n
    have hR := hR1
    refine zs_castS (ci := 18) (n := 32) dX16_addPitch_29 rfl cl_X16_68 (hR.kP' hj) rfl ?_
    refine zs_astore (n := 34) dX16_addPitch_32 (by decide) rfl ?_
    refine zs_iload (n := 36) dX16_addPitch_34 rfl rfl ?_
    refine zs_if_ne (tgt := 48) (n := 39) dX16_addPitch_36 (by decide) rfl (fun h36 => ?_) (fun h36 => ?_)
    · refine zs_iconst (v := 1) (n := 49) dX16_addPitch_48 (by decide) rfl ?_
      refine zs_goto (tgt := 53) dX16_addPitch_49 (by decide) ?_
      refine zs_istore (n := 55) dX16_addPitch_53 (by decide) rfl ?_
      refine zs_goto (tgt := 12) dX16_addPitch_55 (by decide) ?_
      refine zX.sub (L' := [(0, .ref (Λ 1001)), (1, .int y), (2, .int e), (3, .int sh), (4, .int (zb (fTakenM S y (j + 1)))), (5, .ref q7)]) ⟨rfl, rfl, rfl, rfl, (show some (Value.int (1 : Int32)) = some (Value.int (zb (fTakenM S y (j + 1)))) from congrArg (fun z => some (Value.int z)) (by rw [show fTakenM S y (j + 1) = (fTakenM S y j || decide (sV S (1100 + j) 576 = y)) from rfl]; cases h9 : fTakenM S y j <;> simp_all [zb])), rfl, trivial⟩ ?_
      exact ih M ⟨hR, hI7⟩
    · refine zs_aload (n := 41) dX16_addPitch_39 rfl rfl ?_
      refine zs_getv (x := (sV S (1100 + j) 576)) (n := 44) dX16_addPitch_41 gf_X16_70 (hR.kP' hj) (hR.iv (lvP' hj) (by decide) (by decide)) rfl ?_
      refine zs_iload_n (n := 45) dX16_addPitch_44 rfl rfl ?_
      refine zs_icmp_ne (tgt := 52) (n := 48) dX16_addPitch_45 (by decide) rfl (fun h45 => ?_) (fun h45 => ?_)
      · refine zs_iconst (v := 0) (n := 53) dX16_addPitch_52 (by decide) rfl ?_
        refine zs_istore (n := 55) dX16_addPitch_53 (by decide) rfl ?_
        refine zs_goto (tgt := 12) dX16_addPitch_55 (by decide) ?_
        refine zX.sub (L' := [(0, .ref (Λ 1001)), (1, .int y), (2, .int e), (3, .int sh), (4, .int (zb (fTakenM S y (j + 1)))), (5, .ref q7)]) ⟨rfl, rfl, rfl, rfl, (show some (Value.int (0 : Int32)) = some (Value.int (zb (fTakenM S y (j + 1)))) from congrArg (fun z => some (Value.int z)) (by rw [show fTakenM S y (j + 1) = (fTakenM S y j || decide (sV S (1100 + j) 576 = y)) from rfl]; cases h9 : fTakenM S y j <;> simp_all [zb])), rfl, trivial⟩ ?_
        exact ih M ⟨hR, hI7⟩
      · refine zs_iconst (v := 1) (n := 49) dX16_addPitch_48 (by decide) rfl ?_
        refine zs_goto (tgt := 53) dX16_addPitch_49 (by decide) ?_
        refine zs_istore (n := 55) dX16_addPitch_53 (by decide) rfl ?_
        refine zs_goto (tgt := 12) dX16_addPitch_55 (by decide) ?_
        refine zX.sub (L' := [(0, .ref (Λ 1001)), (1, .int y), (2, .int e), (3, .int sh), (4, .int (zb (fTakenM S y (j + 1)))), (5, .ref q7)]) ⟨rfl, rfl, rfl, rfl, (show some (Value.int (1 : Int32)) = some (Value.int (zb (fTakenM S y (j + 1)))) from congrArg (fun z => some (Value.int z)) (by rw [show fTakenM S y (j + 1) = (fTakenM S y j || decide (sV S (1100 + j) 576 = y)) from rfl]; cases h9 : fTakenM S y j <;> simp_all [zb])), rfl, trivial⟩ ?_
        exact ih M ⟨hR, hI7⟩
  · intro M hR9
    obtain ⟨hR, hI7⟩ := hR9
    have hb912 : sc S 1000 ≤ _ := hR.bnd.2.1.1
    refine zs_aload (n := 14) dX16_addPitch_12 rfl rfl ?_
    refine zi_has (r := 1015) (j := sc S 1000) (n := 19) dX16_addPitch_14 rfl hR (lvM h4 (by omega)) rfl hI7 (by rw [show zct (sc S) 1015 = sc S 1000 from rfl]; omega) (by simp) (by omega) rfl ?_
    rw [show zct (sc S) 1015 = sc S 1000 from rfl]
    refine zs_if_eq (tgt := 58) (n := 22) dX16_addPitch_19 (by decide) rfl (fun _ => ?_) (fun h => absurd (zb0.mpr (by rw [decide_eq_true rfl]; rfl)) h)
    refine zs_aload_n (n := 59) dX16_addPitch_58 rfl rfl ?_
    refine zs_iload_n (n := 60) dX16_addPitch_59 rfl rfl ?_
    refine zs_i2l (n := 61) dX16_addPitch_60 rfl ?_
    refine zs_lconst (v := 0) (n := 62) dX16_addPitch_61 (by decide) rfl ?_
    refine zs_ldc2 (n := 65) dX16_addPitch_62 ct_X16_73 rfl ?_
    refine zc_S (n := 68) (As := [.long y.toInt64, .long (0 : Int64), .long (99 : Int64)]) (mc := 0) (ms := 0) dX16_addPitch_65 ok_X16_in ⟨ml_X16_50, st_X16_in⟩ rfl (Nat.le_of_ble_eq_true rfl) (by simp) (by omega) (Nat.le_refl _) (Nat.le_refl _) rfl rfl (m_in (x := y) (lo := (0 : Int32)) (hi := (99 : Int32)) rfl (by first | rfl | decide) (by first | rfl | decide)) ?_
    refine zs_if_eq (tgt := 83) (n := 71) dX16_addPitch_68 (by decide) rfl (fun h => absurd h (zb1.mpr (fIn_t g1 g2))) (fun _ => ?_)
    refine zs_iload_n (n := 72) dX16_addPitch_71 rfl rfl ?_
    refine zs_i2l (n := 73) dX16_addPitch_72 rfl ?_
    refine zs_lconst (v := 0) (n := 74) dX16_addPitch_73 (by decide) rfl ?_
    refine zs_ldc2 (n := 77) dX16_addPitch_74 ct_X16_75 rfl ?_
    refine zc_S (n := 80) (As := [.long e.toInt64, .long (0 : Int64), .long (9 : Int64)]) (mc := 0) (ms := 0) dX16_addPitch_77 ok_X16_in ⟨ml_X16_50, st_X16_in⟩ rfl (Nat.le_of_ble_eq_true rfl) (by simp) (by omega) (Nat.le_refl _) (Nat.le_refl _) rfl rfl (m_in (x := e) (lo := (0 : Int32)) (hi := (9 : Int32)) rfl (by first | rfl | decide) (by first | rfl | decide)) ?_
    refine zs_if_ne (tgt := 87) (n := 83) dX16_addPitch_80 (by decide) rfl (fun _ => ?_) (fun h => absurd h (zb1.mpr (fIn_t g3 g4)))
    refine zs_iload (n := 89) dX16_addPitch_87 rfl rfl ?_
    refine zs_if_eq (tgt := 96) (n := 92) dX16_addPitch_89 (by decide) rfl (fun _ => ?_) (fun h => absurd (zb0.mpr hx9) h)
    refine zs_aload_n (n := 97) dX16_addPitch_96 rfl rfl ?_
    refine zs_getr (b := (Λ 1015)) (n := 100) dX16_addPitch_97 gf_X16_10 (hR.kd (lvM h4 (by omega))) (hR.pt (lvM h4 (by omega)) rfl (by decide)) rfl ?_
    refine zc_size (c := sc S 1000) (n := 103) dX16_addPitch_100 ml_X16_46 (hR.lP' h4) (by simp) (by omega) rfl ?_
    refine zs_bipush (v := 6) (n := 105) dX16_addPitch_103 (by decide) rfl ?_
    refine zs_icmp_ne (tgt := 112) (n := 108) dX16_addPitch_105 (by decide) rfl (fun h => absurd (by rw [hn]; rfl) h) (fun _ => ?_)
    refine zs_iconst (v := 3) (n := 109) dX16_addPitch_108 (by decide) rfl ?_
    refine zs_goto (tgt := 113) dX16_addPitch_109 (by decide) ?_
    refine zw_i (r := 1001) (n := 116) dX16_addPitch_113 pf_X16_addPitch_43 hR (lvM h4 (by omega)) (hR.kd (lvM h4 (by omega))) ⟨rfl, rfl⟩ (by decide) rfl ?_
    intro M hR hv
    refine zs_aload_n (n := 117) dX16_addPitch_116 rfl rfl ?_
    refine zs_getv (x := (3 : Int32)) (n := 120) dX16_addPitch_117 gf_X16_43 (hR.kd (lvM h4 (by omega))) (hR.iv (lvM h4 (by omega)) (by decide) (by decide)) rfl ?_
    refine zs_if_le (tgt := 125) (n := 123) dX16_addPitch_120 (by decide) rfl (fun h => absurd h (by decide)) (fun _ => ?_)
    refine zs_iconst (v := 0) (n := 124) dX16_addPitch_123 (by decide) rfl ?_
    refine zs_ireturn dX16_addPitch_124 ⟨_, rfl, rfl⟩ ?_
    exact hQ _ hR
  · exact ⟨hR, hI7⟩
theorem k_addPitch {y e sh : Int32} (hR : zRp Z Λ S M) (h4 : sc S 4 = 1) (h0 : sc S (1010 + sc S 1000) = 0) (g1 : ¬ y < 0) (g2 : y ≤ 99) (g3 : ¬ e < 0) (g4 : e ≤ 9) (hs : sh = 0 ∨ sh = 1) (hx9 : fTakenM S y (sc S 1000) = false) (hn : sc S 1000 < 6) {Q : zO → zMem → Prop} (hQ : ∀ Λ' M', zRp Z Λ' (fAddPitchM S y e sh) M' → zSame Λ Λ' → Q (.inl (some (.int (nI (sc S 1000))))) M') : zX Z l 5 mth_X16_addPitch 0 (lv_args 0 [.ref (Λ 1001), .int y, .int e, .int sh]) [] M 5 35 Q := by
  show zX Z l 5 mth_X16_addPitch 0 [(0, .ref (Λ 1001)), (1, .int y), (2, .int e), (3, .int sh)] [] M 5 35 Q
  have hs : narrow .boolean (.int sh) = .int sh ∧ fits .boolean (.int sh) = true := by rcases hs with rfl | rfl <;> exact ⟨rfl, rfl⟩
  have hb1 : sc S 1000 ≤ 6 := hR.bnd.2.1.1
  refine zs_iconst (v := 0) (n := 1) dX16_addPitch_0 (by decide) rfl ?_
  refine zs_istore (n := 3) dX16_addPitch_1 (by decide) rfl ?_
  refine zs_aload_n (n := 4) dX16_addPitch_3 rfl rfl ?_
  refine zs_getr (b := (Λ 1015)) (n := 7) dX16_addPitch_4 gf_X16_10 (hR.kd (lvM h4 (by omega))) (hR.pt (lvM h4 (by omega)) rfl (by decide)) rfl ?_
  refine zi_new (r := 1015) (nc1 := 4) (ns1 := 31) (n := 10) 3000 dX16_addPitch_7 rfl hR (lvM h4 (by omega)) rfl (by decide) (by simp) (by omega) (by omega) (by omega) rfl ?_
  intro q7 M hR1 hI7 hq7 hag7
  have hR := hR1
  refine zs_astore (n := 12) dX16_addPitch_10 (by decide) rfl ?_
  refine zX.sub (L' := [(0, .ref (Λ 1001)), (1, .int y), (2, .int e), (3, .int sh), (4, .int (zb (fTakenM S y 0))), (5, .ref q7)]) ⟨rfl, rfl, rfl, rfl, rfl, rfl, trivial⟩ ?_
  refine zloop (n := sc S 1000) (X := fun j => ∀ M, zRp Z Λ S M ∧ zIt M q7 (Λ 1015) j 3000 → zX Z l 5 mth_X16_addPitch 12 [(0, .ref (Λ 1001)), (1, .int y), (2, .int e), (3, .int sh), (4, .int (zb (fTakenM S y j))), (5, .ref q7)] [] M 4 31 Q) (fun j hj ih => ?_) ?_ 0 (Nat.zero_le _) M ?_
  · intro M hR9
    obtain ⟨hR, hI7⟩ := hR9
    have hb912 : sc S 1000 ≤ _ := hR.bnd.2.1.1
    refine zs_aload (n := 14) dX16_addPitch_12 rfl rfl ?_
    refine zi_has (r := 1015) (j := j) (n := 19) dX16_addPitch_14 rfl hR (lvM h4 (by omega)) rfl hI7 (by rw [show zct (sc S) 1015 = sc S 1000 from rfl]; omega) (by simp) (by omega) rfl ?_
    rw [show zct (sc S) 1015 = sc S 1000 from rfl]
    refine zs_if_eq (tgt := 58) (n := 22) dX16_addPitch_19 (by decide) rfl (fun h => absurd h (zb1.mpr (by rw [decide_eq_false (by omega)]; rfl))) (fun _ => ?_)
    refine zs_aload (n := 24) dX16_addPitch_22 rfl rfl ?_
    refine zi_next (r := 1015) (j := j) (b := (Λ (1100 + j))) (n := 29) dX16_addPitch_24 rfl hR (lvM h4 (by omega)) rfl hI7 (by rw [show zct (sc S) 1015 = sc S 1000 from rfl]; exact hj) rfl (by simp) (by omega) rfl ?_
    intro M hR1 hI7n hag24
    have hI7 := hI7n
    have hR := hR1
    refine zs_castS (ci := 18) (n := 32) dX16_addPitch_29 rfl cl_X16_68 (hR.kP' hj) rfl ?_
    refine zs_astore (n := 34) dX16_addPitch_32 (by decide) rfl ?_
    refine zs_iload (n := 36) dX16_addPitch_34 rfl rfl ?_
    refine zs_if_ne (tgt := 48) (n := 39) dX16_addPitch_36 (by decide) rfl (fun h36 => ?_) (fun h36 => ?_)
    · refine zs_iconst (v := 1) (n := 49) dX16_addPitch_48 (by decide) rfl ?_
      refine zs_goto (tgt := 53) dX16_addPitch_49 (by decide) ?_
      refine zs_istore (n := 55) dX16_addPitch_53 (by decide) rfl ?_
      refine zs_goto (tgt := 12) dX16_addPitch_55 (by decide) ?_
      refine zX.sub (L' := [(0, .ref (Λ 1001)), (1, .int y), (2, .int e), (3, .int sh), (4, .int (zb (fTakenM S y (j + 1)))), (5, .ref q7)]) ⟨rfl, rfl, rfl, rfl, (show some (Value.int (1 : Int32)) = some (Value.int (zb (fTakenM S y (j + 1)))) from congrArg (fun z => some (Value.int z)) (by rw [show fTakenM S y (j + 1) = (fTakenM S y j || decide (sV S (1100 + j) 576 = y)) from rfl]; cases h9 : fTakenM S y j <;> simp_all [zb])), rfl, trivial⟩ ?_
      exact ih M ⟨hR, hI7⟩
    · refine zs_aload (n := 41) dX16_addPitch_39 rfl rfl ?_
      refine zs_getv (x := (sV S (1100 + j) 576)) (n := 44) dX16_addPitch_41 gf_X16_70 (hR.kP' hj) (hR.iv (lvP' hj) (by decide) (by decide)) rfl ?_
      refine zs_iload_n (n := 45) dX16_addPitch_44 rfl rfl ?_
      refine zs_icmp_ne (tgt := 52) (n := 48) dX16_addPitch_45 (by decide) rfl (fun h45 => ?_) (fun h45 => ?_)
      · refine zs_iconst (v := 0) (n := 53) dX16_addPitch_52 (by decide) rfl ?_
        refine zs_istore (n := 55) dX16_addPitch_53 (by decide) rfl ?_
        refine zs_goto (tgt := 12) dX16_addPitch_55 (by decide) ?_
        refine zX.sub (L' := [(0, .ref (Λ 1001)), (1, .int y), (2, .int e), (3, .int sh), (4, .int (zb (fTakenM S y (j + 1)))), (5, .ref q7)]) ⟨rfl, rfl, rfl, rfl, (show some (Value.int (0 : Int32)) = some (Value.int (zb (fTakenM S y (j + 1)))) from congrArg (fun z => some (Value.int z)) (by rw [show fTakenM S y (j + 1) = (fTakenM S y j || decide (sV S (1100 + j) 576 = y)) from rfl]; cases h9 : fTakenM S y j <;> simp_all [zb])), rfl, trivial⟩ ?_
        exact ih M ⟨hR, hI7⟩
      · refine zs_iconst (v := 1) (n := 49) dX16_addPitch_48 (by decide) rfl ?_
        refine zs_goto (tgt := 53) dX16_addPitch_49 (by decide) ?_
        refine zs_istore (n := 55) dX16_addPitch_53 (by decide) rfl ?_
        refine zs_goto (tgt := 12) dX16_addPitch_55 (by decide) ?_
        refine zX.sub (L' := [(0, .ref (Λ 1001)), (1, .int y), (2, .int e), (3, .int sh), (4, .int (zb (fTakenM S y (j + 1)))), (5, .ref q7)]) ⟨rfl, rfl, rfl, rfl, (show some (Value.int (1 : Int32)) = some (Value.int (zb (fTakenM S y (j + 1)))) from congrArg (fun z => some (Value.int z)) (by rw [show fTakenM S y (j + 1) = (fTakenM S y j || decide (sV S (1100 + j) 576 = y)) from rfl]; cases h9 : fTakenM S y j <;> simp_all [zb])), rfl, trivial⟩ ?_
        exact ih M ⟨hR, hI7⟩
  · intro M hR9
    obtain ⟨hR, hI7⟩ := hR9
    have hb912 : sc S 1000 ≤ _ := hR.bnd.2.1.1
    refine zs_aload (n := 14) dX16_addPitch_12 rfl rfl ?_
    refine zi_has (r := 1015) (j := sc S 1000) (n := 19) dX16_addPitch_14 rfl hR (lvM h4 (by omega)) rfl hI7 (by rw [show zct (sc S) 1015 = sc S 1000 from rfl]; omega) (by simp) (by omega) rfl ?_
    rw [show zct (sc S) 1015 = sc S 1000 from rfl]
    refine zs_if_eq (tgt := 58) (n := 22) dX16_addPitch_19 (by decide) rfl (fun _ => ?_) (fun h => absurd (zb0.mpr (by rw [decide_eq_true rfl]; rfl)) h)
    refine zs_aload_n (n := 59) dX16_addPitch_58 rfl rfl ?_
    refine zs_iload_n (n := 60) dX16_addPitch_59 rfl rfl ?_
    refine zs_i2l (n := 61) dX16_addPitch_60 rfl ?_
    refine zs_lconst (v := 0) (n := 62) dX16_addPitch_61 (by decide) rfl ?_
    refine zs_ldc2 (n := 65) dX16_addPitch_62 ct_X16_73 rfl ?_
    refine zc_S (n := 68) (As := [.long y.toInt64, .long (0 : Int64), .long (99 : Int64)]) (mc := 0) (ms := 0) dX16_addPitch_65 ok_X16_in ⟨ml_X16_50, st_X16_in⟩ rfl (Nat.le_of_ble_eq_true rfl) (by simp) (by omega) (Nat.le_refl _) (Nat.le_refl _) rfl rfl (m_in (x := y) (lo := (0 : Int32)) (hi := (99 : Int32)) rfl (by first | rfl | decide) (by first | rfl | decide)) ?_
    refine zs_if_eq (tgt := 83) (n := 71) dX16_addPitch_68 (by decide) rfl (fun h => absurd h (zb1.mpr (fIn_t g1 g2))) (fun _ => ?_)
    refine zs_iload_n (n := 72) dX16_addPitch_71 rfl rfl ?_
    refine zs_i2l (n := 73) dX16_addPitch_72 rfl ?_
    refine zs_lconst (v := 0) (n := 74) dX16_addPitch_73 (by decide) rfl ?_
    refine zs_ldc2 (n := 77) dX16_addPitch_74 ct_X16_75 rfl ?_
    refine zc_S (n := 80) (As := [.long e.toInt64, .long (0 : Int64), .long (9 : Int64)]) (mc := 0) (ms := 0) dX16_addPitch_77 ok_X16_in ⟨ml_X16_50, st_X16_in⟩ rfl (Nat.le_of_ble_eq_true rfl) (by simp) (by omega) (Nat.le_refl _) (Nat.le_refl _) rfl rfl (m_in (x := e) (lo := (0 : Int32)) (hi := (9 : Int32)) rfl (by first | rfl | decide) (by first | rfl | decide)) ?_
    refine zs_if_ne (tgt := 87) (n := 83) dX16_addPitch_80 (by decide) rfl (fun _ => ?_) (fun h => absurd h (zb1.mpr (fIn_t g3 g4)))
    refine zs_iload (n := 89) dX16_addPitch_87 rfl rfl ?_
    refine zs_if_eq (tgt := 96) (n := 92) dX16_addPitch_89 (by decide) rfl (fun _ => ?_) (fun h => absurd (zb0.mpr hx9) h)
    refine zs_aload_n (n := 97) dX16_addPitch_96 rfl rfl ?_
    refine zs_getr (b := (Λ 1015)) (n := 100) dX16_addPitch_97 gf_X16_10 (hR.kd (lvM h4 (by omega))) (hR.pt (lvM h4 (by omega)) rfl (by decide)) rfl ?_
    refine zc_size (c := sc S 1000) (n := 103) dX16_addPitch_100 ml_X16_46 (hR.lP' h4) (by simp) (by omega) rfl ?_
    refine zs_bipush (v := 6) (n := 105) dX16_addPitch_103 (by decide) rfl ?_
    refine zs_icmp_ne (tgt := 112) (n := 108) dX16_addPitch_105 (by decide) rfl (fun _ => ?_) (fun h => absurd h (fun h9 => by have := (nI_eq (b := 6) (by omega) (by decide)).mp h9; omega))
    refine zs_iconst (v := 0) (n := 113) dX16_addPitch_112 (by decide) rfl ?_
    refine zw_i (r := 1001) (n := 116) dX16_addPitch_113 pf_X16_addPitch_43 hR (lvM h4 (by omega)) (hR.kd (lvM h4 (by omega))) ⟨rfl, rfl⟩ (by decide) rfl ?_
    intro M hR hv
    refine zs_aload_n (n := 117) dX16_addPitch_116 rfl rfl ?_
    refine zs_getv (x := (0 : Int32)) (n := 120) dX16_addPitch_117 gf_X16_43 (hR.kd (lvM h4 (by omega))) (hR.iv (lvM h4 (by omega)) (by decide) (by decide)) rfl ?_
    refine zs_if_le (tgt := 125) (n := 123) dX16_addPitch_120 (by decide) rfl (fun _ => ?_) (fun h => absurd (by decide) h)
    refine zs_aload_n (n := 126) dX16_addPitch_125 rfl rfl ?_
    refine zs_getr (b := (Λ 1015)) (n := 129) dX16_addPitch_126 gf_X16_10 (hR.kd (lvM h4 (by omega))) (hR.pt (lvM h4 (by omega)) rfl (by decide)) rfl ?_
    refine zh_new (M0 := M) (N := 5) (nc1 := 3) (ns1 := 23) (n := 132) (1100 + sc S 1000) dX16_addPitch_129 nc_X16_68 (zPic.nil (Λ := Λ)) rfl (by decide) rfl (by omega) (by omega) ?_
    have hR0 := hR
    intro q0 M1 hP
    refine zs_dup (n := 133) dX16_addPitch_132 rfl rfl ?_
    refine zs_iload_n (n := 134) dX16_addPitch_133 rfl rfl ?_
    refine zs_iload_n (n := 135) dX16_addPitch_134 rfl rfl ?_
    refine zs_iload_n (n := 136) dX16_addPitch_135 rfl rfl ?_
    refine zg_I (n := 139) (As := [.int y, .int e, .int sh]) (mc := 2) (ms := 13) (nc1 := 1) (ns1 := 10) dX16_addPitch_136 ok_X13_init ⟨ml_X16_77, im_X13_init, rfl, rfl⟩ rfl (Nat.le_of_ble_eq_true rfl) (by simp) (by omega) (by omega) (by omega) rfl rfl (h_X13_init (r0 := 1100 + sc S 1000) (r1 := 1110 + sc S 1000) (r2 := 1120 + sc S 1000) u1_at hP qNa kNa (qNn (by omega) rfl) (qNn (by omega) rfl) (by omega) (by omega) (by omega) hs) ?_
    rintro M2 ⟨q1, q2, hP⟩
    have hb : zBnd (sc S) := hR0.bnd
    have b1 : sc S 1001 ≤ 8 := hb.2.1.2.1
    have b2 : sc S 1002 ≤ 6 := hb.2.1.2.2.1
    have b3 : sc S 0 ≤ 6 := hb.1.1
    have hG := zRp_pitm hR0 hn hP
    have hb' : zBnd (cset (sc S) (zci 1015) (zct (sc S) 1015 + 1)) := hb.up (r := 1015) (by unfold zlr; omega) (by show sc S 1000 + 1 ≤ 6; omega)
    have hno : ∀ s, zlv (sc S) s → s ≠ 1100 + sc S 1000 ∧ s ≠ 1110 + sc S 1000 ∧ s ≠ 1120 + sc S 1000 := fun s hs => ⟨fun e9 => zlvP_no (n := sc S 1000) (s := 1100 + sc S 1000) hb (by omega) (by rw [← e9]; exact hs), fun e9 => zlvP_no (n := sc S 1000) (s := 1110 + sc S 1000) hb (by omega) (by rw [← e9]; exact hs), fun e9 => zlvP_no (n := sc S 1000) (s := 1120 + sc S 1000) hb (by omega) (by rw [← e9]; exact hs)⟩
    have e1 : zL4 Z Λ 1100 (sc S 1000) q0 q1 q2 (1100 + sc S 1000) = q0 := (u1_ne (by omega)).trans ((u1_ne (by omega)).trans ((u1_ne (by omega)).trans u1_at))
    have hk0 : mK M2 q0 = 28 := by
      have hp := hP.k (r := 1100 + sc S 1000) (qIn (qIn (qIn (qRn (qRn (qIn (qNn (by omega) (qRn (qNn (by omega) qNa)))))))))
      rw [show u1 (u1 (u1 Λ (1100 + sc S 1000) q0) (1110 + sc S 1000) q1) (1120 + sc S 1000) q2 (1100 + sc S 1000) = q0 from (u1_ne (by omega)).trans ((u1_ne (by omega)).trans u1_at)] at hp
      exact hp.trans (kIn (kIn (kIn (kRn (kRn (kIn (kNn (by omega) (kRn (kNn (by omega) kNa)))))))))
    have eL : ∀ s, (s < 1100 ∨ (1140 ≤ s)) → zL4 Z Λ 1100 (sc S 1000) q0 q1 q2 s = Λ s := fun s hs => (u1_ne (by omega)).trans (u1_3 (by omega) (by omega) (by omega))
    refine zw_add (r := 1015) (V' := fPV (u2 (sV S) 1001 672 0) 1100 (sc S 1000) 576 y e sh) (W' := fPW (sW S) 1100 (sc S 1000)) (T' := sT S) (P' := sP S) (nc1 := 0) (ns1 := 0) (n := 142) (eL 1015 (by omega)) dX16_addPitch_139 ml_X16_80 hG (lvM h4 (by omega)) rfl (by show sc S 1000 < 10; omega) hb' e1.symm (Or.inl ⟨18, _, hk0, rfl, co_X13⟩) (fun s hs hns => ?_) (fun s hs k _ _ => ?_) (fun s hs j => ?_) (fun _ _ _ _ => rfl) (fun _ _ => rfl) (fun _ => rfl) (hG.ints.same (show cset (sc S) 1000 (sc S 1000 + 1) 1003 = sc S 1003 from cset_ne (by decide)) (show cset (sc S) 1000 (sc S 1000 + 1) 6 = sc S 6 from cset_ne (by decide)) (fun s hs => congrFun (u1_3 (f := u2 (sV S) 1001 672 0) (by omega) (by omega) (by omega)) 32)) (by simp) (by omega) (by omega) (by omega) rfl ?_
    · exact zOne_pitm hG hn (by show cset (sc S) 1000 (sc S 1000 + 1) (1010 + sc S 1000) = 0; rw [cset_ne (by omega)]; exact h0) hb' hP (zlvPm_new hb hs h0 hns)
    · obtain ⟨h7, h8, h9⟩ := hno s hs
      exact congrFun (u1_3 (f := u2 (sV S) 1001 672 0) h7 h8 h9) k
    · obtain ⟨h7, h8, h9⟩ := hno s hs
      exact congrFun (u1_3 (f := sW S) h7 h8 h9) j
    intro Λ M hR hΛ
    have e2 : Λ 1001 = _ := (hΛ 1001 (by decide)).trans (eL 1001 (by omega))
    have hS := (show zSame _ Λ from ⟨(hΛ 1 (by decide)).trans (eL 1 (by omega)), e2, (hΛ 40 (by decide)).trans (eL 40 (by omega)), (hΛ 41 (by decide)).trans (eL 41 (by omega))⟩)
    rw [← e2]
    have hR : zRp Z Λ (fAddPitchM S y e sh) M := hR
    have hcn : sc (fAddPitchM S y e sh) 1000 = sc S 1000 + 1 := (cset_at : cset (sc S) 1000 (sc S 1000 + 1) 1000 = _)
    refine zs_pop (n := 143) dX16_addPitch_142 rfl rfl ?_
    refine zs_aload_n (n := 144) dX16_addPitch_143 rfl rfl ?_
    refine zs_getr (b := (Λ 1015)) (n := 147) dX16_addPitch_144 gf_X16_10 (hR.kd (lvM h4 (by omega))) (hR.pt (lvM h4 (by omega)) rfl (by decide)) rfl ?_
    refine zc_size (c := sc (fAddPitchM S y e sh) 1000) (n := 150) dX16_addPitch_147 ml_X16_46 (hR.lP' h4) (by simp) (by omega) rfl ?_
    rw [hcn]
    refine zs_iconst (v := 1) (n := 151) dX16_addPitch_150 (by decide) rfl ?_
    refine zs_isub (n := 152) dX16_addPitch_151 rfl ?_
    rw [show nI (sc S 1000 + 1) - (1 : Int32) = nI (sc S 1000) from nI_pred _]
    refine zs_ireturn dX16_addPitch_152 ⟨_, rfl, rfl⟩ ?_
    exact hQ _ _ hR hS
  · exact ⟨hR, hI7⟩
/-- does one come ahead of another, by at most f steps -/
def fCA (S : zSt) : Nat → Nat → Nat → Bool
  | 0, _, _ => false
  | f + 1, a, o => decide (¬ sW S (1030 + a) o = 0) || zany (fun k => decide (¬ sW S (1030 + a) k = 0) && fCA S f k o) (sc S 1001)
def fCAl (S : zSt) (f a o j : Nat) : Bool := decide (¬ sW S (1030 + a) o = 0) || zany (fun k => decide (¬ sW S (1030 + a) k = 0) && fCA S f k o) j
theorem fCAl_mono {f a o j n : Nat} (h : fCAl S f a o j = true) (hj : j ≤ n) : fCAl S f a o n = true := by
  unfold fCAl at h ⊢
  rcases (Bool.or_eq_true _ _).mp h with h | h
  · rw [h]
    rfl
  · obtain ⟨i, hi, h9⟩ := zany_iff.mp h
    rw [zany_hit (p := fun k => decide (¬ sW S (1030 + a) k = 0) && fCA S f k o) h9 (Nat.lt_of_lt_of_le hi hj), Bool.or_true]
theorem k_comesAhead {rk : Nat → Nat} (hR : zRp Z Λ S M) (h4 : sc S 4 = 1) (hrk : ∀ a k, a < sc S 1001 → k < sc S 1001 → ¬ sW S (1030 + a) k = 0 → rk k < rk a) (hbit : ∀ a k, a < sc S 1001 → k < sc S 1001 → sW S (1030 + a) k = 0 ∨ sW S (1030 + a) k = 1) {o : Nat} (ho : o < sc S 1001) : ∀ f a, rk a < f → a < sc S 1001 → zD Z l (f + 1) mth_X16_comesAhead [.ref (Λ 1001), .int (nI a), .int (nI o)] M 0 0 (some (.int (zb (fCA S f a o)))) M := by
  have hb2 : sc S 1001 ≤ 8 := hR.bnd.2.1.2.1
  intro f
  induction f with
  | zero => exact fun a h _ => absurd h (Nat.not_lt_zero _)
  | succ f IH0 =>
    intro a hra ha Q hQ
    have IH : ∀ k, rk k < f → k < sc S 1001 → k < sc S 1001 → o < sc S 1001 → zD Z l (f + 1) mth_X16_comesAhead [.ref (Λ 1001), .int (nI k), .int (nI o)] M 0 0 (some (.int (zb (fCA S f k o)))) M := fun k h1 h2 _ _ => IH0 k h1 h2
    show zX Z l (f + 2) mth_X16_comesAhead 0 [(0, .ref (Λ 1001)), (1, .int (nI a)), (2, .int (nI o))] [] M 0 0 Q
    refine zs_aload_n (n := 1) dX16_comesAhead_0 rfl rfl ?_
    refine zs_getr (b := (Λ 1025)) (n := 4) dX16_comesAhead_1 gf_X16_30 (hR.kd (lvM h4 (by omega))) (hR.pt (lvM h4 (by omega)) rfl (by decide)) rfl ?_
    refine zs_iload_n (n := 5) dX16_comesAhead_4 rfl rfl ?_
    refine zs_aald (b := (Λ (1030 + a))) (n := 6) dX16_comesAhead_5 (Or.inr (hR.kd (lvM h4 (by omega)))) (by rw [show mN M (Λ 1025) = 8 from (hR.ln (lvM h4 (by omega)) rfl (by decide))]; exact vp_in_nI (show a < 8 from by omega) (by omega)) (by rw [nI_clamp (by omega)]; exact hR.cus h4 (show a < 8 from by omega)) rfl ?_
    refine zs_iload_n (n := 7) dX16_comesAhead_6 rfl rfl ?_
    refine zs_zaldv (x := (sW S (1030 + a) o)) (n := 8) dX16_comesAhead_7 (hR.kC h4 (show a < 8 from by omega)) (by rw [show mN M (Λ (1030 + a)) = 8 from (hR.nC h4 (show a < 8 from by omega))]; exact vp_in_nI (show o < 8 from by omega) (by omega)) (by rw [nI_clamp (by omega)]; exact hR.av (lvM h4 (by omega))) rfl ?_
    refine zs_istore_n (n := 9) dX16_comesAhead_8 (by decide) rfl ?_
    refine zs_iconst (v := 0) (n := 10) dX16_comesAhead_9 (by decide) rfl ?_
    refine zs_istore (n := 12) dX16_comesAhead_10 (by decide) rfl ?_
    refine zX.sub (L' := [(0, .ref (Λ 1001)), (1, .int (nI a)), (2, .int (nI o)), (3, .int (zb (fCAl S f a o 0))), (4, .int (nI 0))]) ⟨rfl, rfl, rfl, (show some (Value.int (sW S (1030 + a) o)) = some (Value.int (zb (fCAl S f a o 0))) from congrArg some (congrArg Value.int (by unfold fCAl zany; rw [Bool.or_false]; rcases hbit a o ha ho with h9 | h9 <;> rw [h9] <;> rfl))), rfl, trivial⟩ ?_
    refine zloop (n := sc S 1001) (X := fun j => zX Z l (f + 2) mth_X16_comesAhead 12 [(0, .ref (Λ 1001)), (1, .int (nI a)), (2, .int (nI o)), (3, .int (zb (fCAl S f a o j))), (4, .int (nI j))] [] M 0 0 Q) (fun j hj ih => ?_) ?_ 0 (Nat.zero_le _)
    · have hb9 : sc S 1001 ≤ 8 := hR.bnd.2.1.2.1
      have hj8 : j < 8 := by omega
      refine zs_iload (n := 14) dX16_comesAhead_12 rfl rfl ?_
      refine zs_aload_n (n := 15) dX16_comesAhead_14 rfl rfl ?_
      refine zs_getr (b := (Λ 1017)) (n := 18) dX16_comesAhead_15 gf_X16_16 (hR.kd (lvM h4 (by omega))) (hR.pt (lvM h4 (by omega)) rfl (by decide)) rfl ?_
      refine zc_size (c := sc S 1001) (n := 21) dX16_comesAhead_18 ml_X16_46 (hR.lA' h4) (by simp) (by omega) rfl ?_
      refine zs_icmp_ge (tgt := 62) (n := 24) dX16_comesAhead_21 (by decide) rfl (fun h => absurd h (nI_ge hj (by omega))) (fun _ => ?_)
      refine zs_iload_n (n := 25) dX16_comesAhead_24 rfl rfl ?_
      refine zs_if_ne (tgt := 62) (n := 28) dX16_comesAhead_25 (by decide) rfl (fun h25 => ?_) (fun h25 => ?_)
      · refine zs_iload_n (n := 63) dX16_comesAhead_62 rfl rfl ?_
        refine zs_ireturn dX16_comesAhead_63 ⟨_, rfl, (znb _)⟩ ?_
        first
        | exact hQ
        | (have h9 := fCAl_mono (zb1.mp h25) (show j ≤ sc S 1001 by omega); have h8 : fCA S (f + 1) a o = true := h9; rw [h8] at hQ; rw [zb1.mp h25]; exact hQ)
      · refine zs_aload_n (n := 29) dX16_comesAhead_28 rfl rfl ?_
        refine zs_getr (b := (Λ 1025)) (n := 32) dX16_comesAhead_29 gf_X16_30 (hR.kd (lvM h4 (by omega))) (hR.pt (lvM h4 (by omega)) rfl (by decide)) rfl ?_
        refine zs_iload_n (n := 33) dX16_comesAhead_32 rfl rfl ?_
        refine zs_aald (b := (Λ (1030 + a))) (n := 34) dX16_comesAhead_33 (Or.inr (hR.kd (lvM h4 (by omega)))) (by rw [show mN M (Λ 1025) = 8 from (hR.ln (lvM h4 (by omega)) rfl (by decide))]; exact vp_in_nI (show a < 8 from by omega) (by omega)) (by rw [nI_clamp (by omega)]; exact hR.cus h4 (show a < 8 from by omega)) rfl ?_
        refine zs_iload (n := 36) dX16_comesAhead_34 rfl rfl ?_
        refine zs_zaldv (x := (sW S (1030 + a) j)) (n := 37) dX16_comesAhead_36 (hR.kC h4 (show a < 8 from by omega)) (by rw [show mN M (Λ (1030 + a)) = 8 from (hR.nC h4 (show a < 8 from by omega))]; exact vp_in_nI hj8 (by omega)) (by rw [nI_clamp (by omega)]; exact hR.av (lvM h4 (by omega))) rfl ?_
        refine zs_if_eq (tgt := 54) (n := 40) dX16_comesAhead_37 (by decide) rfl (fun h37 => ?_) (fun h37 => ?_)
        · refine zs_iconst (v := 0) (n := 55) dX16_comesAhead_54 (by decide) rfl ?_
          refine zs_istore_n (n := 56) dX16_comesAhead_55 (by decide) rfl ?_
          refine zs_iinc (v := (nI (j + 1))) (n := 59) dX16_comesAhead_56 rfl (nI_1 _) (by decide) rfl ?_
          refine zs_goto (tgt := 12) dX16_comesAhead_59 (by decide) ?_
          refine zX.sub (L' := [(0, .ref (Λ 1001)), (1, .int (nI a)), (2, .int (nI o)), (3, .int (zb (fCAl S f a o (j + 1)))), (4, .int (nI (j + 1)))]) ⟨rfl, rfl, rfl, (show some (Value.int (0 : Int32)) = some (Value.int (zb (fCAl S f a o (j + 1)))) from congrArg (fun z => some (Value.int z)) (by rw [show fCAl S f a o (j + 1) = (fCAl S f a o j || (decide (¬ sW S (1030 + a) j = 0) && fCA S f j o)) from (Bool.or_assoc _ _ _).symm]; rw [zb0.mp h25, Bool.false_or]; first | (rw [decide_eq_true h37, Bool.true_and, zb1.mp h47]; rfl) | (rw [decide_eq_true h37, Bool.true_and, zb0.mp h47]; rfl) | (rw [decide_eq_false (fun e => e h37)]; rfl))), rfl, trivial⟩ ?_
          exact ih
        · refine zs_aload_n (n := 41) dX16_comesAhead_40 rfl rfl ?_
          refine zs_iload (n := 43) dX16_comesAhead_41 rfl rfl ?_
          refine zs_iload_n (n := 44) dX16_comesAhead_43 rfl rfl ?_
          refine zc_V (n := 47) (As := [.int (nI j), .int (nI o)]) (ci := 21) (mc := 0) (ms := 0) dX16_comesAhead_44 ok_X16_comesAhead ⟨ml_X16_129, im_X16_comesAhead, sl_X16_comesAhead⟩ rfl (hR.kd (lvM h4 (by omega))) rfl (Nat.le_of_ble_eq_true rfl) (by simp) (by omega) (Nat.le_refl _) (Nat.le_refl _) rfl rfl (IH j (by have := hrk a j ha hj h37; omega) hj hj ho) ?_
          refine zs_if_eq (tgt := 54) (n := 50) dX16_comesAhead_47 (by decide) rfl (fun h47 => ?_) (fun h47 => ?_)
          · refine zs_iconst (v := 0) (n := 55) dX16_comesAhead_54 (by decide) rfl ?_
            refine zs_istore_n (n := 56) dX16_comesAhead_55 (by decide) rfl ?_
            refine zs_iinc (v := (nI (j + 1))) (n := 59) dX16_comesAhead_56 rfl (nI_1 _) (by decide) rfl ?_
            refine zs_goto (tgt := 12) dX16_comesAhead_59 (by decide) ?_
            refine zX.sub (L' := [(0, .ref (Λ 1001)), (1, .int (nI a)), (2, .int (nI o)), (3, .int (zb (fCAl S f a o (j + 1)))), (4, .int (nI (j + 1)))]) ⟨rfl, rfl, rfl, (show some (Value.int (0 : Int32)) = some (Value.int (zb (fCAl S f a o (j + 1)))) from congrArg (fun z => some (Value.int z)) (by rw [show fCAl S f a o (j + 1) = (fCAl S f a o j || (decide (¬ sW S (1030 + a) j = 0) && fCA S f j o)) from (Bool.or_assoc _ _ _).symm]; rw [zb0.mp h25, Bool.false_or]; first | (rw [decide_eq_true h37, Bool.true_and, zb1.mp h47]; rfl) | (rw [decide_eq_true h37, Bool.true_and, zb0.mp h47]; rfl) | (rw [decide_eq_false (fun e => e h37)]; rfl))), rfl, trivial⟩ ?_
            exact ih
          · refine zs_iconst (v := 1) (n := 51) dX16_comesAhead_50 (by decide) rfl ?_
            refine zs_goto (tgt := 55) dX16_comesAhead_51 (by decide) ?_
            refine zs_istore_n (n := 56) dX16_comesAhead_55 (by decide) rfl ?_
            refine zs_iinc (v := (nI (j + 1))) (n := 59) dX16_comesAhead_56 rfl (nI_1 _) (by decide) rfl ?_
            refine zs_goto (tgt := 12) dX16_comesAhead_59 (by decide) ?_
            refine zX.sub (L' := [(0, .ref (Λ 1001)), (1, .int (nI a)), (2, .int (nI o)), (3, .int (zb (fCAl S f a o (j + 1)))), (4, .int (nI (j + 1)))]) ⟨rfl, rfl, rfl, (show some (Value.int (1 : Int32)) = some (Value.int (zb (fCAl S f a o (j + 1)))) from congrArg (fun z => some (Value.int z)) (by rw [show fCAl S f a o (j + 1) = (fCAl S f a o j || (decide (¬ sW S (1030 + a) j = 0) && fCA S f j o)) from (Bool.or_assoc _ _ _).symm]; rw [zb0.mp h25, Bool.false_or]; first | (rw [decide_eq_true h37, Bool.true_and, zb1.mp h47]; rfl) | (rw [decide_eq_true h37, Bool.true_and, zb0.mp h47]; rfl) | (rw [decide_eq_false (fun e => e h37)]; rfl))), rfl, trivial⟩ ?_
            exact ih
    · have hb9 : sc S 1001 ≤ 8 := hR.bnd.2.1.2.1
      refine zs_iload (n := 14) dX16_comesAhead_12 rfl rfl ?_
      refine zs_aload_n (n := 15) dX16_comesAhead_14 rfl rfl ?_
      refine zs_getr (b := (Λ 1017)) (n := 18) dX16_comesAhead_15 gf_X16_16 (hR.kd (lvM h4 (by omega))) (hR.pt (lvM h4 (by omega)) rfl (by decide)) rfl ?_
      refine zc_size (c := sc S 1001) (n := 21) dX16_comesAhead_18 ml_X16_46 (hR.lA' h4) (by simp) (by omega) rfl ?_
      refine zs_icmp_ge (tgt := 62) (n := 24) dX16_comesAhead_21 (by decide) rfl (fun _ => ?_) (fun h => absurd (nI_le (Nat.le_refl _) (by omega)) h)
      refine zs_iload_n (n := 63) dX16_comesAhead_62 rfl rfl ?_
      refine zs_ireturn dX16_comesAhead_63 ⟨_, rfl, (znb _)⟩ ?_
      first
      | exact hQ
      | (have h9 := fCAl_mono (zb1.mp h25) (show j ≤ sc S 1001 by omega); have h8 : fCA S (f + 1) a o = true := h9; rw [h8] at hQ; rw [zb1.mp h25]; exact hQ)
end ZMOD4
