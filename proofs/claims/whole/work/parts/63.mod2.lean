/-! THE MODEL: what goes over its lists -/
section ZMOD2
variable {Z : zPar} {l : Launch} {Λ : Nat → Nat} {S : zSt} {M : zMem} {d d' : Nat} {mm : zMeth} {pc n nc ns ix : Nat} {L : List (Nat × Value)} {st : List Value} {Q : zO → zMem → Prop}
/-- how many acts are of a group -/
def fGrp (V : Nat → Nat → Int32) (g : Int32) (n : Nat) : Int32 := zit (fun a c => c + (if V (1140 + a) 551 = g then 1 else 0)) n 0
theorem k_partners {g : Int32} (hR : zRp Z Λ S M) (h4 : sc S 4 = 1) : zG Z l 2 mth_X16_partners [.ref (Λ 1001), .int g] M 1 4 (some (.int (fGrp (sV S) g (sc S 1001)))) ((zRp Z Λ S)) := by
  intro Q hQ
  show zX Z l 2 mth_X16_partners 0 [(0, .ref (Λ 1001)), (1, .int g)] [] M 1 4 Q
  refine zs_iconst (v := 0) (n := 1) dX16_partners_0 (by decide) rfl ?_
  refine zs_istore_n (n := 2) dX16_partners_1 (by decide) rfl ?_
  refine zs_aload_n (n := 3) dX16_partners_2 rfl rfl ?_
  refine zs_getr (b := (Λ 1017)) (n := 6) dX16_partners_3 gf_X16_16 (hR.kd (lvM h4 (by omega))) (hR.pt (lvM h4 (by omega)) rfl (by decide)) rfl ?_
  refine zi_new (r := 1017) (nc1 := 0) (ns1 := 0) (n := 9) 3000 dX16_partners_6 rfl hR (lvM h4 (by omega)) rfl (by decide) (by simp) (by omega) (by omega) (by omega) rfl ?_
  intro q6 M hR1 hI6 hq6 hag6
  have hR := hR1
  refine zs_astore_n (n := 10) dX16_partners_9 (by decide) rfl ?_
  refine zX.sub (L' := [(0, .ref (Λ 1001)), (1, .int g), (2, .int (fGrp (sV S) g 0)), (3, .ref q6)]) ⟨rfl, rfl, rfl, rfl, trivial⟩ ?_
  refine zloop (n := sc S 1001) (X := fun j => ∀ M, zRp Z Λ S M ∧ zIt M q6 (Λ 1017) j 3000 → zX Z l 2 mth_X16_partners 10 [(0, .ref (Λ 1001)), (1, .int g), (2, .int (fGrp (sV S) g j)), (3, .ref q6)] [] M 0 0 Q) (fun j hj ih => ?_) ?_ 0 (Nat.zero_le _) M ?_
  · intro M hR9
    obtain ⟨hR, hI6⟩ := hR9
    have hb910 : sc S 1001 ≤ _ := hR.bnd.2.1.2.1
    refine zs_aload_n (n := 11) dX16_partners_10 rfl rfl ?_
    refine zi_has (r := 1017) (j := j) (n := 16) dX16_partners_11 rfl hR (lvM h4 (by omega)) rfl hI6 (by rw [show zct (sc S) 1017 = sc S 1001 from rfl]; omega) (by simp) (by omega) rfl ?_
    rw [show zct (sc S) 1017 = sc S 1001 from rfl]
    refine zs_if_eq (tgt := 50) (n := 19) dX16_partners_16 (by decide) rfl (fun h => absurd h (zb1.mpr (by rw [decide_eq_false (by omega)]; rfl))) (fun _ => ?_)
    refine zs_aload_n (n := 20) dX16_partners_19 rfl rfl ?_
    refine zi_next (r := 1017) (j := j) (b := (Λ (1140 + j))) (n := 25) dX16_partners_20 rfl hR (lvM h4 (by omega)) rfl hI6 (by rw [show zct (sc S) 1017 = sc S 1001 from rfl]; exact hj) rfl (by simp) (by omega) rfl ?_
    intro M hR1 hI6n hag20
    have hI6 := hI6n
    have hR := hR1
    refine zs_castS (ci := 17) (n := 28) dX16_partners_25 rfl cl_X16_111 (hR.kA' hj) rfl ?_
    refine zs_astore (n := 30) dX16_partners_28 (by decide) rfl ?_
    refine zs_iload_n (n := 31) dX16_partners_30 rfl rfl ?_
    refine zs_aload (n := 33) dX16_partners_31 rfl rfl ?_
    refine zs_getv (x := (sV S (1140 + j) 551)) (n := 36) dX16_partners_33 gf_X16_205 (hR.kA' hj) (hR.iv (lvA' hj) (by decide) (by decide)) rfl ?_
    refine zs_iload_n (n := 37) dX16_partners_36 rfl rfl ?_
    refine zs_icmp_ne (tgt := 44) (n := 40) dX16_partners_37 (by decide) rfl (fun h37 => ?_) (fun h37 => ?_)
    · refine zs_iconst (v := 0) (n := 45) dX16_partners_44 (by decide) rfl ?_
      refine zs_iadd (n := 46) dX16_partners_45 rfl ?_
      refine zs_istore_n (n := 47) dX16_partners_46 (by decide) rfl ?_
      refine zs_goto (tgt := 10) dX16_partners_47 (by decide) ?_
      refine zX.sub (L' := [(0, .ref (Λ 1001)), (1, .int g), (2, .int (fGrp (sV S) g (j + 1))), (3, .ref q6)]) ⟨rfl, rfl, (show some (Value.int ((fGrp (sV S) g j) + (0 : Int32))) = some (Value.int (fGrp (sV S) g (j + 1))) from congrArg (fun z => some (Value.int z)) (by rw [show fGrp (sV S) g (j + 1) = fGrp (sV S) g j + (if sV S (1140 + j) 551 = g then 1 else 0) from rfl]; first | rw [if_pos h37] | rw [if_neg h37])), rfl, trivial⟩ ?_
      exact ih M ⟨hR, hI6⟩
    · refine zs_iconst (v := 1) (n := 41) dX16_partners_40 (by decide) rfl ?_
      refine zs_goto (tgt := 45) dX16_partners_41 (by decide) ?_
      refine zs_iadd (n := 46) dX16_partners_45 rfl ?_
      refine zs_istore_n (n := 47) dX16_partners_46 (by decide) rfl ?_
      refine zs_goto (tgt := 10) dX16_partners_47 (by decide) ?_
      refine zX.sub (L' := [(0, .ref (Λ 1001)), (1, .int g), (2, .int (fGrp (sV S) g (j + 1))), (3, .ref q6)]) ⟨rfl, rfl, (show some (Value.int ((fGrp (sV S) g j) + (1 : Int32))) = some (Value.int (fGrp (sV S) g (j + 1))) from congrArg (fun z => some (Value.int z)) (by rw [show fGrp (sV S) g (j + 1) = fGrp (sV S) g j + (if sV S (1140 + j) 551 = g then 1 else 0) from rfl]; first | rw [if_pos h37] | rw [if_neg h37])), rfl, trivial⟩ ?_
      exact ih M ⟨hR, hI6⟩
  · intro M hR9
    obtain ⟨hR, hI6⟩ := hR9
    have hb910 : sc S 1001 ≤ _ := hR.bnd.2.1.2.1
    refine zs_aload_n (n := 11) dX16_partners_10 rfl rfl ?_
    refine zi_has (r := 1017) (j := sc S 1001) (n := 16) dX16_partners_11 rfl hR (lvM h4 (by omega)) rfl hI6 (by rw [show zct (sc S) 1017 = sc S 1001 from rfl]; omega) (by simp) (by omega) rfl ?_
    rw [show zct (sc S) 1017 = sc S 1001 from rfl]
    refine zs_if_eq (tgt := 50) (n := 19) dX16_partners_16 (by decide) rfl (fun _ => ?_) (fun h => absurd (zb0.mpr (by rw [decide_eq_true rfl]; rfl)) h)
    refine zs_iload_n (n := 51) dX16_partners_50 rfl rfl ?_
    refine zs_ireturn dX16_partners_51 ⟨_, rfl, rfl⟩ ?_
    exact hQ _ hR
  · exact ⟨hR, hI6⟩
def fSumAm (S : zSt) (n : Nat) : Int64 := zit (fun a s => 31 * (31 * s + (sV S (1140 + a) 550).toInt64) + (sV S (1140 + a) 547).toInt64) n 7
def fSumPm (S : zSt) (n : Nat) (x : Int64) : Int64 := zit (fun i s => 31 * (31 * s + (nI (sc S (1010 + i))).toInt64) + (sV S (1100 + i) 576).toInt64) n x
theorem k_checksum  (hR : zRp Z Λ S M) (h4 : sc S 4 = 1) : zG Z l 3 mth_X16_checksum [.ref (Λ 1001)] M 2 8 (some (.long (31 * (31 * fSumPm S (sc S 1000) (fSumAm S (sc S 1001)) + (sV S 1001 689).toInt64) + (sV S 1001 681).toInt64))) ((zRp Z Λ (mT S 0))) := by
  intro Q hQ
  show zX Z l 3 mth_X16_checksum 0 [(0, .ref (Λ 1001))] [] M 2 8 Q
  refine zs_aload_n (n := 1) dX16_checksum_0 rfl rfl ?_
  refine zs_iconst (v := 0) (n := 2) dX16_checksum_1 (by decide) rfl ?_
  refine zw_i (r := 1001) (n := 5) dX16_checksum_2 pf_X16_checksum_43 hR (lvM h4 (by omega)) (hR.kd (lvM h4 (by omega))) ⟨rfl, rfl⟩ (by decide) rfl ?_
  intro M hR hv
  refine zs_ldc2 (n := 8) dX16_checksum_5 ct_X16_327 rfl ?_
  refine zs_lstore_n (n := 9) dX16_checksum_8 (by decide) rfl ?_
  refine zs_aload_n (n := 10) dX16_checksum_9 rfl rfl ?_
  refine zs_getr (b := (Λ 1017)) (n := 13) dX16_checksum_10 gf_X16_16 (hR.kd (lvM h4 (by omega))) (hR.pt (lvM h4 (by omega)) rfl (by decide)) rfl ?_
  refine zi_new (r := 1017) (nc1 := 1) (ns1 := 4) (n := 16) 3000 dX16_checksum_13 rfl hR (lvM h4 (by omega)) rfl (by decide) (by simp) (by omega) (by omega) (by omega) rfl ?_
  intro q13 M hR1 hI13 hq13 hag13
  have hR := hR1
  refine zs_astore_n (n := 17) dX16_checksum_16 (by decide) rfl ?_
  refine zX.sub (L' := [(0, .ref (Λ 1001)), (1, .long (fSumAm S 0)), (3, .ref q13)]) ⟨rfl, rfl, rfl, trivial⟩ ?_
  refine zloop (n := sc S 1001) (X := fun j => ∀ M, zRp Z Λ (mT S 0) M ∧ zIt M q13 (Λ 1017) j 3000 → zX Z l 3 mth_X16_checksum 17 [(0, .ref (Λ 1001)), (1, .long (fSumAm S j)), (3, .ref q13)] [] M 1 4 Q) (fun j hj ih => ?_) ?_ 0 (Nat.zero_le _) M ?_
  · intro M hR9
    obtain ⟨hR, hI13⟩ := hR9
    have hb917 : sc S 1001 ≤ _ := hR.bnd.2.1.2.1
    refine zs_aload_n (n := 18) dX16_checksum_17 rfl rfl ?_
    refine zi_has (r := 1017) (j := j) (n := 23) dX16_checksum_18 rfl hR (lvM h4 (by omega)) rfl hI13 (by rw [show zct (sc (sc S, u2 (sV S) 1001 672 (0 : Int32), sW S, sT S, sP S)) 1017 = sc S 1001 from rfl]; omega) (by simp) (by omega) rfl ?_
    rw [show zct (sc (sc S, u2 (sV S) 1001 672 (0 : Int32), sW S, sT S, sP S)) 1017 = sc S 1001 from rfl]
    refine zs_if_eq (tgt := 66) (n := 26) dX16_checksum_23 (by decide) rfl (fun h => absurd h (zb1.mpr (by rw [decide_eq_false (by omega)]; rfl))) (fun _ => ?_)
    refine zs_aload_n (n := 27) dX16_checksum_26 rfl rfl ?_
    refine zi_next (r := 1017) (j := j) (b := (Λ (1140 + j))) (n := 32) dX16_checksum_27 rfl hR (lvM h4 (by omega)) rfl hI13 (by rw [show zct (sc (sc S, u2 (sV S) 1001 672 (0 : Int32), sW S, sT S, sP S)) 1017 = sc S 1001 from rfl]; exact hj) rfl (by simp) (by omega) rfl ?_
    intro M hR1 hI13n hag27
    have hI13 := hI13n
    have hR := hR1
    refine zs_castS (ci := 17) (n := 35) dX16_checksum_32 rfl cl_X16_111 (hR.kA' hj) rfl ?_
    refine zs_astore (n := 37) dX16_checksum_35 (by decide) rfl ?_
    refine zs_ldc2 (n := 40) dX16_checksum_37 ct_X16_329 rfl ?_
    refine zs_lload_n (n := 41) dX16_checksum_40 rfl rfl ?_
    refine zs_lmul (n := 42) dX16_checksum_41 rfl ?_
    refine zs_aload (n := 44) dX16_checksum_42 rfl rfl ?_
    refine zs_getv (x := (sV S (1140 + j) 550)) (n := 47) dX16_checksum_44 gf_X16_251 (hR.kA' hj) (hR.iv (lvA' hj) (by decide) (by decide)) rfl ?_
    refine zs_i2l (n := 48) dX16_checksum_47 rfl ?_
    refine zs_ladd (n := 49) dX16_checksum_48 rfl ?_
    refine zs_lstore_n (n := 50) dX16_checksum_49 (by decide) rfl ?_
    refine zs_ldc2 (n := 53) dX16_checksum_50 ct_X16_329 rfl ?_
    refine zs_lload_n (n := 54) dX16_checksum_53 rfl rfl ?_
    refine zs_lmul (n := 55) dX16_checksum_54 rfl ?_
    refine zs_aload (n := 57) dX16_checksum_55 rfl rfl ?_
    refine zs_getv (x := (sV S (1140 + j) 547)) (n := 60) dX16_checksum_57 gf_X16_122 (hR.kA' hj) (hR.iv (lvA' hj) (by decide) (by decide)) rfl ?_
    refine zs_i2l (n := 61) dX16_checksum_60 rfl ?_
    refine zs_ladd (n := 62) dX16_checksum_61 rfl ?_
    refine zs_lstore_n (n := 63) dX16_checksum_62 (by decide) rfl ?_
    refine zs_goto (tgt := 17) dX16_checksum_63 (by decide) ?_
    refine zX.sub (L' := [(0, .ref (Λ 1001)), (1, .long (fSumAm S (j + 1))), (3, .ref q13)]) ⟨rfl, rfl, rfl, trivial⟩ ?_
    exact ih M ⟨hR, hI13⟩
  · intro M hR9
    obtain ⟨hR, hI13⟩ := hR9
    have hb917 : sc S 1001 ≤ _ := hR.bnd.2.1.2.1
    refine zs_aload_n (n := 18) dX16_checksum_17 rfl rfl ?_
    refine zi_has (r := 1017) (j := sc S 1001) (n := 23) dX16_checksum_18 rfl hR (lvM h4 (by omega)) rfl hI13 (by rw [show zct (sc (sc S, u2 (sV S) 1001 672 (0 : Int32), sW S, sT S, sP S)) 1017 = sc S 1001 from rfl]; omega) (by simp) (by omega) rfl ?_
    rw [show zct (sc (sc S, u2 (sV S) 1001 672 (0 : Int32), sW S, sT S, sP S)) 1017 = sc S 1001 from rfl]
    refine zs_if_eq (tgt := 66) (n := 26) dX16_checksum_23 (by decide) rfl (fun _ => ?_) (fun h => absurd (zb0.mpr (by rw [decide_eq_true rfl]; rfl)) h)
    refine zs_aload_n (n := 67) dX16_checksum_66 rfl rfl ?_
    refine zs_getr (b := (Λ 1015)) (n := 70) dX16_checksum_67 gf_X16_10 (hR.kd (lvM h4 (by omega))) (hR.pt (lvM h4 (by omega)) rfl (by decide)) rfl ?_
    refine zi_new (r := 1015) (nc1 := 0) (ns1 := 0) (n := 73) 3000 dX16_checksum_70 rfl hR (lvM h4 (by omega)) rfl (by decide) (by simp) (by omega) (by omega) (by omega) rfl ?_
    intro q70 M hR1 hI70 hq70 hag70
    have hR := hR1
    refine zs_astore_n (n := 74) dX16_checksum_73 (by decide) rfl ?_
    refine zX.sub (L' := [(0, .ref (Λ 1001)), (1, .long (fSumPm S 0 (fSumAm S (sc S 1001)))), (3, .ref q70)]) ⟨rfl, rfl, rfl, trivial⟩ ?_
    refine zloop (n := sc S 1000) (X := fun j => ∀ M, zRp Z Λ (mT S 0) M ∧ zIt M q70 (Λ 1015) j 3000 → zX Z l 3 mth_X16_checksum 74 [(0, .ref (Λ 1001)), (1, .long (fSumPm S j (fSumAm S (sc S 1001)))), (3, .ref q70)] [] M 0 0 Q) (fun j hj ih => ?_) ?_ 0 (Nat.zero_le _) M ?_
    · intro M hR9
      obtain ⟨hR, hI70⟩ := hR9
      have hb974 : sc S 1000 ≤ _ := hR.bnd.2.1.1
      refine zs_aload_n (n := 75) dX16_checksum_74 rfl rfl ?_
      refine zi_has (r := 1015) (j := j) (n := 80) dX16_checksum_75 rfl hR (lvM h4 (by omega)) rfl hI70 (by rw [show zct (sc (sc S, u2 (sV S) 1001 672 (0 : Int32), sW S, sT S, sP S)) 1015 = sc S 1000 from rfl]; omega) (by simp) (by omega) rfl ?_
      rw [show zct (sc (sc S, u2 (sV S) 1001 672 (0 : Int32), sW S, sT S, sP S)) 1015 = sc S 1000 from rfl]
      refine zs_if_eq (tgt := 126) (n := 83) dX16_checksum_80 (by decide) rfl (fun h => absurd h (zb1.mpr (by rw [decide_eq_false (by omega)]; rfl))) (fun _ => ?_)
      refine zs_aload_n (n := 84) dX16_checksum_83 rfl rfl ?_
      refine zi_next (r := 1015) (j := j) (b := (Λ (1100 + j))) (n := 89) dX16_checksum_84 rfl hR (lvM h4 (by omega)) rfl hI70 (by rw [show zct (sc (sc S, u2 (sV S) 1001 672 (0 : Int32), sW S, sT S, sP S)) 1015 = sc S 1000 from rfl]; exact hj) rfl (by simp) (by omega) rfl ?_
      intro M hR1 hI70n hag84
      have hI70 := hI70n
      have hR := hR1
      refine zs_castS (ci := 18) (n := 92) dX16_checksum_89 rfl cl_X16_68 (hR.kP' hj) rfl ?_
      refine zs_astore (n := 94) dX16_checksum_92 (by decide) rfl ?_
      refine zs_ldc2 (n := 97) dX16_checksum_94 ct_X16_329 rfl ?_
      refine zs_lload_n (n := 98) dX16_checksum_97 rfl rfl ?_
      refine zs_lmul (n := 99) dX16_checksum_98 rfl ?_
      refine zs_aload (n := 101) dX16_checksum_99 rfl rfl ?_
      refine zs_getr (b := (Λ (1120 + j))) (n := 104) dX16_checksum_101 gf_X16_164 (hR.kP' hj) (hR.pT' hj) rfl ?_
      refine zc_size (c := sc S (1010 + j)) (n := 107) dX16_checksum_104 ml_X16_46 (hR.lT' hj) (by simp) (by omega) rfl ?_
      refine zs_i2l (n := 108) dX16_checksum_107 rfl ?_
      refine zs_ladd (n := 109) dX16_checksum_108 rfl ?_
      refine zs_lstore_n (n := 110) dX16_checksum_109 (by decide) rfl ?_
      refine zs_ldc2 (n := 113) dX16_checksum_110 ct_X16_329 rfl ?_
      refine zs_lload_n (n := 114) dX16_checksum_113 rfl rfl ?_
      refine zs_lmul (n := 115) dX16_checksum_114 rfl ?_
      refine zs_aload (n := 117) dX16_checksum_115 rfl rfl ?_
      refine zs_getv (x := (sV S (1100 + j) 576)) (n := 120) dX16_checksum_117 gf_X16_70 (hR.kP' hj) (hR.iv (lvP' hj) (by decide) (by decide)) rfl ?_
      refine zs_i2l (n := 121) dX16_checksum_120 rfl ?_
      refine zs_ladd (n := 122) dX16_checksum_121 rfl ?_
      refine zs_lstore_n (n := 123) dX16_checksum_122 (by decide) rfl ?_
      refine zs_goto (tgt := 74) dX16_checksum_123 (by decide) ?_
      refine zX.sub (L' := [(0, .ref (Λ 1001)), (1, .long (fSumPm S (j + 1) (fSumAm S (sc S 1001)))), (3, .ref q70)]) ⟨rfl, rfl, rfl, trivial⟩ ?_
      exact ih M ⟨hR, hI70⟩
    · intro M hR9
      obtain ⟨hR, hI70⟩ := hR9
      have hb974 : sc S 1000 ≤ _ := hR.bnd.2.1.1
      refine zs_aload_n (n := 75) dX16_checksum_74 rfl rfl ?_
      refine zi_has (r := 1015) (j := sc S 1000) (n := 80) dX16_checksum_75 rfl hR (lvM h4 (by omega)) rfl hI70 (by rw [show zct (sc (sc S, u2 (sV S) 1001 672 (0 : Int32), sW S, sT S, sP S)) 1015 = sc S 1000 from rfl]; omega) (by simp) (by omega) rfl ?_
      rw [show zct (sc (sc S, u2 (sV S) 1001 672 (0 : Int32), sW S, sT S, sP S)) 1015 = sc S 1000 from rfl]
      refine zs_if_eq (tgt := 126) (n := 83) dX16_checksum_80 (by decide) rfl (fun _ => ?_) (fun h => absurd (zb0.mpr (by rw [decide_eq_true rfl]; rfl)) h)
      refine zs_ldc2 (n := 129) dX16_checksum_126 ct_X16_329 rfl ?_
      refine zs_lload_n (n := 130) dX16_checksum_129 rfl rfl ?_
      refine zs_lmul (n := 131) dX16_checksum_130 rfl ?_
      refine zs_aload_n (n := 132) dX16_checksum_131 rfl rfl ?_
      refine zs_getv (x := (sV S 1001 689)) (n := 135) dX16_checksum_132 gf_X16_254 (hR.kd (lvM h4 (by omega))) (hR.iv (lvM h4 (by omega)) (by decide) (by decide)) rfl ?_
      refine zs_i2l (n := 136) dX16_checksum_135 rfl ?_
      refine zs_ladd (n := 137) dX16_checksum_136 rfl ?_
      refine zs_lstore_n (n := 138) dX16_checksum_137 (by decide) rfl ?_
      refine zs_ldc2 (n := 141) dX16_checksum_138 ct_X16_329 rfl ?_
      refine zs_lload_n (n := 142) dX16_checksum_141 rfl rfl ?_
      refine zs_lmul (n := 143) dX16_checksum_142 rfl ?_
      refine zs_aload_n (n := 144) dX16_checksum_143 rfl rfl ?_
      refine zs_getv (x := (sV S 1001 681)) (n := 147) dX16_checksum_144 gf_X16_33 (hR.kd (lvM h4 (by omega))) (hR.iv (lvM h4 (by omega)) (by decide) (by decide)) rfl ?_
      refine zs_i2l (n := 148) dX16_checksum_147 rfl ?_
      refine zs_ladd (n := 149) dX16_checksum_148 rfl ?_
      refine zs_lreturn dX16_checksum_149 rfl ?_
      exact hQ _ hR
    · exact ⟨hR, hI70⟩
  · exact ⟨hR, hI13⟩
def fJn (a : Nat) (gone : Int32) (n : Nat) (V : Nat → Nat → Int32) : Nat → Nat → Int32 := zit (fun k V => u2 V (1140 + k) 551 (if V (1140 + k) 551 = gone then V (1140 + a) 551 else V (1140 + k) 551)) n V
def fJoin (S : zSt) (a b : Nat) (n : Nat) : zSt := (sc S, fJn a (sV S (1140 + b) 551) n (u2 (sV S) 1001 672 0), sW S, sT S, sP S)
theorem k_join_1 {p q : Int32} (hR : zRp Z Λ S M) (h4 : sc S 4 = 1) (hx9 : ¬ (¬ p < 0 ∧ ¬ nI (sc S 1001) ≤ p)) : zG Z l 2 mth_X16_join [.ref (Λ 1001), .int p, .int q] M 2 8 (some (.int 0)) ((zRp Z Λ (mT S 1))) := by
  intro Q hQ
  have hb2 : sc S 1001 ≤ 8 := hR.bnd.2.1.2.1
  show zX Z l 2 mth_X16_join 0 [(0, .ref (Λ 1001)), (1, .int p), (2, .int q)] [] M 2 8 Q
  refine zs_aload_n (n := 1) dX16_join_0 rfl rfl ?_
  refine zs_aload_n (n := 2) dX16_join_1 rfl rfl ?_
  refine zs_iload_n (n := 3) dX16_join_2 rfl rfl ?_
  refine zc_V (n := 6) (As := [.int p]) (ci := 21) (mc := 0) (ms := 0) dX16_join_3 ok_X16_isAct ⟨ml_X16_116, im_X16_isAct, sl_X16_isAct⟩ rfl (hR.kd (lvM h4 (by omega))) rfl (Nat.le_of_ble_eq_true rfl) (by simp) (by omega) (Nat.le_refl _) (Nat.le_refl _) rfl rfl (k_isAct hR h4) ?_
  refine zs_if_eq (tgt := 17) (n := 9) dX16_join_6 (by decide) rfl (fun _ => ?_) (fun h => absurd (zb0.mpr (fIn_no (by omega) hx9)) h)
  refine zs_iconst (v := 1) (n := 18) dX16_join_17 (by decide) rfl ?_
  refine zs_goto (tgt := 31) dX16_join_18 (by decide) ?_
  refine zw_i (r := 1001) (n := 34) dX16_join_31 pf_X16_join_43 hR (lvM h4 (by omega)) (hR.kd (lvM h4 (by omega))) ⟨rfl, rfl⟩ (by decide) rfl ?_
  intro M hR hv
  refine zs_aload_n (n := 35) dX16_join_34 rfl rfl ?_
  refine zs_getv (x := (1 : Int32)) (n := 38) dX16_join_35 gf_X16_43 (hR.kd (lvM h4 (by omega))) (hR.iv (lvM h4 (by omega)) (by decide) (by decide)) rfl ?_
  refine zs_if_le (tgt := 43) (n := 41) dX16_join_38 (by decide) rfl (fun h => absurd h (by decide)) (fun _ => ?_)
  refine zs_iconst (v := 0) (n := 42) dX16_join_41 (by decide) rfl ?_
  refine zs_ireturn dX16_join_42 ⟨_, rfl, rfl⟩ ?_
  exact hQ _ hR
theorem k_join_2 {a : Nat} {q : Int32} (hR : zRp Z Λ S M) (h4 : sc S 4 = 1) (ha : a < sc S 1001) (hx9 : ¬ (¬ q < 0 ∧ ¬ nI (sc S 1001) ≤ q)) : zG Z l 2 mth_X16_join [.ref (Λ 1001), .int (nI a), .int q] M 2 8 (some (.int 0)) ((zRp Z Λ (mT S 1))) := by
  intro Q hQ
  have hb2 : sc S 1001 ≤ 8 := hR.bnd.2.1.2.1
  show zX Z l 2 mth_X16_join 0 [(0, .ref (Λ 1001)), (1, .int (nI a)), (2, .int q)] [] M 2 8 Q
  refine zs_aload_n (n := 1) dX16_join_0 rfl rfl ?_
  refine zs_aload_n (n := 2) dX16_join_1 rfl rfl ?_
  refine zs_iload_n (n := 3) dX16_join_2 rfl rfl ?_
  refine zc_V (n := 6) (As := [.int (nI a)]) (ci := 21) (mc := 0) (ms := 0) dX16_join_3 ok_X16_isAct ⟨ml_X16_116, im_X16_isAct, sl_X16_isAct⟩ rfl (hR.kd (lvM h4 (by omega))) rfl (Nat.le_of_ble_eq_true rfl) (by simp) (by omega) (Nat.le_refl _) (Nat.le_refl _) rfl rfl (k_isAct hR h4) ?_
  refine zs_if_eq (tgt := 17) (n := 9) dX16_join_6 (by decide) rfl (fun h => absurd h (zb1.mpr (fIn_ix ha (by omega)))) (fun _ => ?_)
  refine zs_aload_n (n := 10) dX16_join_9 rfl rfl ?_
  refine zs_iload_n (n := 11) dX16_join_10 rfl rfl ?_
  refine zc_V (n := 14) (As := [.int q]) (ci := 21) (mc := 0) (ms := 0) dX16_join_11 ok_X16_isAct ⟨ml_X16_116, im_X16_isAct, sl_X16_isAct⟩ rfl (hR.kd (lvM h4 (by omega))) rfl (Nat.le_of_ble_eq_true rfl) (by simp) (by omega) (Nat.le_refl _) (Nat.le_refl _) rfl rfl (k_isAct hR h4) ?_
  refine zs_if_ne (tgt := 21) (n := 17) dX16_join_14 (by decide) rfl (fun h => absurd (zb0.mpr (fIn_no (by omega) hx9)) h) (fun _ => ?_)
  refine zs_iconst (v := 1) (n := 18) dX16_join_17 (by decide) rfl ?_
  refine zs_goto (tgt := 31) dX16_join_18 (by decide) ?_
  refine zw_i (r := 1001) (n := 34) dX16_join_31 pf_X16_join_43 hR (lvM h4 (by omega)) (hR.kd (lvM h4 (by omega))) ⟨rfl, rfl⟩ (by decide) rfl ?_
  intro M hR hv
  refine zs_aload_n (n := 35) dX16_join_34 rfl rfl ?_
  refine zs_getv (x := (1 : Int32)) (n := 38) dX16_join_35 gf_X16_43 (hR.kd (lvM h4 (by omega))) (hR.iv (lvM h4 (by omega)) (by decide) (by decide)) rfl ?_
  refine zs_if_le (tgt := 43) (n := 41) dX16_join_38 (by decide) rfl (fun h => absurd h (by decide)) (fun _ => ?_)
  refine zs_iconst (v := 0) (n := 42) dX16_join_41 (by decide) rfl ?_
  refine zs_ireturn dX16_join_42 ⟨_, rfl, rfl⟩ ?_
  exact hQ _ hR
theorem k_join_3 {a : Nat} (hR : zRp Z Λ S M) (h4 : sc S 4 = 1) (ha : a < sc S 1001) : zG Z l 2 mth_X16_join [.ref (Λ 1001), .int (nI a), .int (nI a)] M 2 8 (some (.int 0)) ((zRp Z Λ (mT S 2))) := by
  intro Q hQ
  have hb2 : sc S 1001 ≤ 8 := hR.bnd.2.1.2.1
  show zX Z l 2 mth_X16_join 0 [(0, .ref (Λ 1001)), (1, .int (nI a)), (2, .int (nI a))] [] M 2 8 Q
  refine zs_aload_n (n := 1) dX16_join_0 rfl rfl ?_
  refine zs_aload_n (n := 2) dX16_join_1 rfl rfl ?_
  refine zs_iload_n (n := 3) dX16_join_2 rfl rfl ?_
  refine zc_V (n := 6) (As := [.int (nI a)]) (ci := 21) (mc := 0) (ms := 0) dX16_join_3 ok_X16_isAct ⟨ml_X16_116, im_X16_isAct, sl_X16_isAct⟩ rfl (hR.kd (lvM h4 (by omega))) rfl (Nat.le_of_ble_eq_true rfl) (by simp) (by omega) (Nat.le_refl _) (Nat.le_refl _) rfl rfl (k_isAct hR h4) ?_
  refine zs_if_eq (tgt := 17) (n := 9) dX16_join_6 (by decide) rfl (fun h => absurd h (zb1.mpr (fIn_ix ha (by omega)))) (fun _ => ?_)
  refine zs_aload_n (n := 10) dX16_join_9 rfl rfl ?_
  refine zs_iload_n (n := 11) dX16_join_10 rfl rfl ?_
  refine zc_V (n := 14) (As := [.int (nI a)]) (ci := 21) (mc := 0) (ms := 0) dX16_join_11 ok_X16_isAct ⟨ml_X16_116, im_X16_isAct, sl_X16_isAct⟩ rfl (hR.kd (lvM h4 (by omega))) rfl (Nat.le_of_ble_eq_true rfl) (by simp) (by omega) (Nat.le_refl _) (Nat.le_refl _) rfl rfl (k_isAct hR h4) ?_
  refine zs_if_ne (tgt := 21) (n := 17) dX16_join_14 (by decide) rfl (fun _ => ?_) (fun h => absurd h (zb1.mpr (fIn_ix ha (by omega))))
  refine zs_iload_n (n := 22) dX16_join_21 rfl rfl ?_
  refine zs_iload_n (n := 23) dX16_join_22 rfl rfl ?_
  refine zs_icmp_ne (tgt := 30) (n := 26) dX16_join_23 (by decide) rfl (fun h => absurd h (fun h9 => h9 rfl)) (fun _ => ?_)
  refine zs_iconst (v := 2) (n := 27) dX16_join_26 (by decide) rfl ?_
  refine zs_goto (tgt := 31) dX16_join_27 (by decide) ?_
  refine zw_i (r := 1001) (n := 34) dX16_join_31 pf_X16_join_43 hR (lvM h4 (by omega)) (hR.kd (lvM h4 (by omega))) ⟨rfl, rfl⟩ (by decide) rfl ?_
  intro M hR hv
  refine zs_aload_n (n := 35) dX16_join_34 rfl rfl ?_
  refine zs_getv (x := (2 : Int32)) (n := 38) dX16_join_35 gf_X16_43 (hR.kd (lvM h4 (by omega))) (hR.iv (lvM h4 (by omega)) (by decide) (by decide)) rfl ?_
  refine zs_if_le (tgt := 43) (n := 41) dX16_join_38 (by decide) rfl (fun h => absurd h (by decide)) (fun _ => ?_)
  refine zs_iconst (v := 0) (n := 42) dX16_join_41 (by decide) rfl ?_
  refine zs_ireturn dX16_join_42 ⟨_, rfl, rfl⟩ ?_
  exact hQ _ hR
theorem k_join {a b : Nat} (hR : zRp Z Λ S M) (h4 : sc S 4 = 1) (ha : a < sc S 1001) (hb : b < sc S 1001) (hne : a ≠ b) : zG Z l 3 mth_X16_join [.ref (Λ 1001), .int (nI a), .int (nI b)] M 2 8 (some (.int (fGrp (sV (fJoin S a b (sc S 1001))) (sV (fJoin S a b (sc S 1001)) (1140 + a) 551) (sc S 1001)))) (zRp Z Λ (fJoin S a b (sc S 1001))) := by
  intro Q hQ
  have hb2 : sc S 1001 ≤ 8 := hR.bnd.2.1.2.1
  show zX Z l 3 mth_X16_join 0 [(0, .ref (Λ 1001)), (1, .int (nI a)), (2, .int (nI b))] [] M 2 8 Q
  refine zs_aload_n (n := 1) dX16_join_0 rfl rfl ?_
  refine zs_aload_n (n := 2) dX16_join_1 rfl rfl ?_
  refine zs_iload_n (n := 3) dX16_join_2 rfl rfl ?_
  refine zc_V (n := 6) (As := [.int (nI a)]) (ci := 21) (mc := 0) (ms := 0) dX16_join_3 ok_X16_isAct ⟨ml_X16_116, im_X16_isAct, sl_X16_isAct⟩ rfl (hR.kd (lvM h4 (by omega))) rfl (Nat.le_of_ble_eq_true rfl) (by simp) (by omega) (Nat.le_refl _) (Nat.le_refl _) rfl rfl (k_isAct hR h4) ?_
  refine zs_if_eq (tgt := 17) (n := 9) dX16_join_6 (by decide) rfl (fun h => absurd h (zb1.mpr (fIn_ix ha (by omega)))) (fun _ => ?_)
  refine zs_aload_n (n := 10) dX16_join_9 rfl rfl ?_
  refine zs_iload_n (n := 11) dX16_join_10 rfl rfl ?_
  refine zc_V (n := 14) (As := [.int (nI b)]) (ci := 21) (mc := 0) (ms := 0) dX16_join_11 ok_X16_isAct ⟨ml_X16_116, im_X16_isAct, sl_X16_isAct⟩ rfl (hR.kd (lvM h4 (by omega))) rfl (Nat.le_of_ble_eq_true rfl) (by simp) (by omega) (Nat.le_refl _) (Nat.le_refl _) rfl rfl (k_isAct hR h4) ?_
  refine zs_if_ne (tgt := 21) (n := 17) dX16_join_14 (by decide) rfl (fun _ => ?_) (fun h => absurd h (zb1.mpr (fIn_ix hb (by omega))))
  refine zs_iload_n (n := 22) dX16_join_21 rfl rfl ?_
  refine zs_iload_n (n := 23) dX16_join_22 rfl rfl ?_
  refine zs_icmp_ne (tgt := 30) (n := 26) dX16_join_23 (by decide) rfl (fun _ => ?_) (fun h => absurd h (fun h9 => hne ((nI_eq (by omega) (by omega)).mp h9)))
  refine zs_iconst (v := 0) (n := 31) dX16_join_30 (by decide) rfl ?_
  refine zw_i (r := 1001) (n := 34) dX16_join_31 pf_X16_join_43 hR (lvM h4 (by omega)) (hR.kd (lvM h4 (by omega))) ⟨rfl, rfl⟩ (by decide) rfl ?_
  intro M hR hv
  refine zs_aload_n (n := 35) dX16_join_34 rfl rfl ?_
  refine zs_getv (x := (0 : Int32)) (n := 38) dX16_join_35 gf_X16_43 (hR.kd (lvM h4 (by omega))) (hR.iv (lvM h4 (by omega)) (by decide) (by decide)) rfl ?_
  refine zs_if_le (tgt := 43) (n := 41) dX16_join_38 (by decide) rfl (fun _ => ?_) (fun h => absurd (by decide) h)
  refine zs_aload_n (n := 44) dX16_join_43 rfl rfl ?_
  refine zs_getr (b := (Λ 1017)) (n := 47) dX16_join_44 gf_X16_16 (hR.kd (lvM h4 (by omega))) (hR.pt (lvM h4 (by omega)) rfl (by decide)) rfl ?_
  refine zs_iload_n (n := 48) dX16_join_47 rfl rfl ?_
  refine zc_getb (c := sc S 1001) (b := (Λ (1140 + b))) (n := 51) dX16_join_48 ml_X16_94 (hR.lA' h4) hb rfl (by simp) (by omega) rfl ?_
  refine zs_castS (ci := 17) (n := 54) dX16_join_51 rfl cl_X16_111 (hR.kA' hb) rfl ?_
  refine zs_getv (x := (sV S (1140 + b) 551)) (n := 57) dX16_join_54 gf_X16_205 (hR.kA' hb) (hR.iv (lvA' hb) (by decide) (by decide)) rfl ?_
  refine zs_istore_n (n := 58) dX16_join_57 (by decide) rfl ?_
  refine zs_aload_n (n := 59) dX16_join_58 rfl rfl ?_
  refine zs_getr (b := (Λ 1017)) (n := 62) dX16_join_59 gf_X16_16 (hR.kd (lvM h4 (by omega))) (hR.pt (lvM h4 (by omega)) rfl (by decide)) rfl ?_
  refine zi_new (r := 1017) (nc1 := 1) (ns1 := 4) (n := 65) 3000 dX16_join_62 rfl hR (lvM h4 (by omega)) rfl (by decide) (by simp) (by omega) (by omega) (by omega) rfl ?_
  intro q62 M hR1 hI62 hq62 hag62
  have hR := hR1
  refine zs_astore (n := 67) dX16_join_65 (by decide) rfl ?_
  refine zX.sub (L' := [(0, .ref (Λ 1001)), (1, .int (nI a)), (2, .int (nI b)), (3, .int (sV S (1140 + b) 551)), (4, .ref q62)]) ⟨rfl, rfl, rfl, rfl, rfl, trivial⟩ ?_
  refine zloop (n := sc S 1001) (X := fun j => ∀ M, zRp Z Λ (fJoin S a b j) M ∧ zIt M q62 (Λ 1017) j 3000 → zX Z l 3 mth_X16_join 67 [(0, .ref (Λ 1001)), (1, .int (nI a)), (2, .int (nI b)), (3, .int (sV S (1140 + b) 551)), (4, .ref q62)] [] M 1 4 Q) (fun j hj ih => ?_) ?_ 0 (Nat.zero_le _) M ?_
  · intro M hR9
    obtain ⟨hR, hI62⟩ := hR9
    have hb967 : sc S 1001 ≤ _ := hR.bnd.2.1.2.1
    refine zs_aload (n := 69) dX16_join_67 rfl rfl ?_
    refine zi_has (r := 1017) (j := j) (n := 74) dX16_join_69 rfl hR (lvM h4 (by omega)) rfl hI62 (by rw [show zct (sc (fJoin S a b j)) 1017 = sc S 1001 from rfl]; omega) (by simp) (by omega) rfl ?_
    rw [show zct (sc (fJoin S a b j)) 1017 = sc S 1001 from rfl]
    refine zs_if_eq (tgt := 128) (n := 77) dX16_join_74 (by decide) rfl (fun h => absurd h (zb1.mpr (by rw [decide_eq_false (by omega)]; rfl))) (fun _ => ?_)
    refine zs_aload (n := 79) dX16_join_77 rfl rfl ?_
    refine zi_next (r := 1017) (j := j) (b := (Λ (1140 + j))) (n := 84) dX16_join_79 rfl hR (lvM h4 (by omega)) rfl hI62 (by rw [show zct (sc (fJoin S a b j)) 1017 = sc S 1001 from rfl]; exact hj) rfl (by simp) (by omega) rfl ?_
    intro M hR1 hI62n hag79
    have hI62 := hI62n
    have hR := hR1
    refine zs_castS (ci := 17) (n := 87) dX16_join_84 rfl cl_X16_111 (hR.kA' hj) rfl ?_
    refine zs_astore (n := 89) dX16_join_87 (by decide) rfl ?_
    refine zs_aload (n := 91) dX16_join_89 rfl rfl ?_
    refine zs_aload (n := 93) dX16_join_91 rfl rfl ?_
    refine zs_getv (x := (sV (fJoin S a b j) (1140 + j) 551)) (n := 96) dX16_join_93 gf_X16_205 (hR.kA' hj) (hR.iv (lvA' hj) (by decide) (by decide)) rfl ?_
    refine zs_iload_n (n := 97) dX16_join_96 rfl rfl ?_
    refine zs_icmp_ne (tgt := 117) (n := 100) dX16_join_97 (by decide) rfl (fun h97 => ?_) (fun h97 => ?_)
    · refine zs_aload (n := 119) dX16_join_117 rfl rfl ?_
      refine zs_getv (x := (sV (fJoin S a b j) (1140 + j) 551)) (n := 122) dX16_join_119 gf_X16_205 (hR.kA' hj) (hR.iv (lvA' hj) (by decide) (by decide)) rfl ?_
      refine zs_puti (n := 125) dX16_join_122 pf_X16_join_205 (hR.kA' hj) ⟨rfl, rfl⟩ rfl ?_
      have hI62 := hI62.sI (k := 551) (v := (sV (fJoin S a b j) (1140 + j) 551)) (hR.nt hI62.1 (lvA' hj)) (by decide)
      have hR := hR.sI (k := 551) (v := (sV (fJoin S a b j) (1140 + j) 551)) (lvA' hj) (by decide) (by decide) (by decide)
      revert hR hI62
      generalize sI M (Λ (1140 + j)) 551 (sV (fJoin S a b j) (1140 + j) 551) = M
      intro hI62 hR
      refine zs_goto (tgt := 67) dX16_join_125 (by decide) ?_
      refine zX.sub (L' := [(0, .ref (Λ 1001)), (1, .int (nI a)), (2, .int (nI b)), (3, .int (sV S (1140 + b) 551)), (4, .ref q62)]) ⟨rfl, rfl, rfl, rfl, rfl, trivial⟩ ?_
      have hR : zRp Z Λ (fJoin S a b (j + 1)) M := by
        show zRp Z Λ (sc S, u2 (sV (fJoin S a b j)) (1140 + j) 551 (if sV (fJoin S a b j) (1140 + j) 551 = sV S (1140 + b) 551 then sV (fJoin S a b j) (1140 + a) 551 else sV (fJoin S a b j) (1140 + j) 551), sW S, sT S, sP S) M
        first
        | (rw [if_pos h97]; exact hR)
        | (rw [if_neg h97]; exact hR)
      exact ih M ⟨hR, hI62⟩
    · refine zs_aload_n (n := 101) dX16_join_100 rfl rfl ?_
      refine zs_getr (b := (Λ 1017)) (n := 104) dX16_join_101 gf_X16_16 (hR.kd (lvM h4 (by omega))) (hR.pt (lvM h4 (by omega)) rfl (by decide)) rfl ?_
      refine zs_iload_n (n := 105) dX16_join_104 rfl rfl ?_
      refine zc_getb (c := sc S 1001) (b := (Λ (1140 + a))) (n := 108) dX16_join_105 ml_X16_94 (hR.lA' h4) ha rfl (by simp) (by omega) rfl ?_
      refine zs_castS (ci := 17) (n := 111) dX16_join_108 rfl cl_X16_111 (hR.kA' ha) rfl ?_
      refine zs_getv (x := (sV (fJoin S a b j) (1140 + a) 551)) (n := 114) dX16_join_111 gf_X16_205 (hR.kA' ha) (hR.iv (lvA' ha) (by decide) (by decide)) rfl ?_
      refine zs_goto (tgt := 122) dX16_join_114 (by decide) ?_
      refine zs_puti (n := 125) dX16_join_122 pf_X16_join_205 (hR.kA' hj) ⟨rfl, rfl⟩ rfl ?_
      have hI62 := hI62.sI (k := 551) (v := (sV (fJoin S a b j) (1140 + a) 551)) (hR.nt hI62.1 (lvA' hj)) (by decide)
      have hR := hR.sI (k := 551) (v := (sV (fJoin S a b j) (1140 + a) 551)) (lvA' hj) (by decide) (by decide) (by decide)
      revert hR hI62
      generalize sI M (Λ (1140 + j)) 551 (sV (fJoin S a b j) (1140 + a) 551) = M
      intro hI62 hR
      refine zs_goto (tgt := 67) dX16_join_125 (by decide) ?_
      refine zX.sub (L' := [(0, .ref (Λ 1001)), (1, .int (nI a)), (2, .int (nI b)), (3, .int (sV S (1140 + b) 551)), (4, .ref q62)]) ⟨rfl, rfl, rfl, rfl, rfl, trivial⟩ ?_
      have hR : zRp Z Λ (fJoin S a b (j + 1)) M := by
        show zRp Z Λ (sc S, u2 (sV (fJoin S a b j)) (1140 + j) 551 (if sV (fJoin S a b j) (1140 + j) 551 = sV S (1140 + b) 551 then sV (fJoin S a b j) (1140 + a) 551 else sV (fJoin S a b j) (1140 + j) 551), sW S, sT S, sP S) M
        first
        | (rw [if_pos h97]; exact hR)
        | (rw [if_neg h97]; exact hR)
      exact ih M ⟨hR, hI62⟩
  · intro M hR9
    obtain ⟨hR, hI62⟩ := hR9
    have hb967 : sc S 1001 ≤ _ := hR.bnd.2.1.2.1
    refine zs_aload (n := 69) dX16_join_67 rfl rfl ?_
    refine zi_has (r := 1017) (j := sc S 1001) (n := 74) dX16_join_69 rfl hR (lvM h4 (by omega)) rfl hI62 (by rw [show zct (sc (fJoin S a b (sc S 1001))) 1017 = sc S 1001 from rfl]; omega) (by simp) (by omega) rfl ?_
    rw [show zct (sc (fJoin S a b (sc S 1001))) 1017 = sc S 1001 from rfl]
    refine zs_if_eq (tgt := 128) (n := 77) dX16_join_74 (by decide) rfl (fun _ => ?_) (fun h => absurd (zb0.mpr (by rw [decide_eq_true rfl]; rfl)) h)
    refine zs_aload_n (n := 129) dX16_join_128 rfl rfl ?_
    refine zs_aload_n (n := 130) dX16_join_129 rfl rfl ?_
    refine zs_getr (b := (Λ 1017)) (n := 133) dX16_join_130 gf_X16_16 (hR.kd (lvM h4 (by omega))) (hR.pt (lvM h4 (by omega)) rfl (by decide)) rfl ?_
    refine zs_iload_n (n := 134) dX16_join_133 rfl rfl ?_
    refine zc_getb (c := sc S 1001) (b := (Λ (1140 + a))) (n := 137) dX16_join_134 ml_X16_94 (hR.lA' h4) ha rfl (by simp) (by omega) rfl ?_
    refine zs_castS (ci := 17) (n := 140) dX16_join_137 rfl cl_X16_111 (hR.kA' ha) rfl ?_
    refine zs_getv (x := (sV (fJoin S a b (sc S 1001)) (1140 + a) 551)) (n := 143) dX16_join_140 gf_X16_205 (hR.kA' ha) (hR.iv (lvA' ha) (by decide) (by decide)) rfl ?_
    refine zg_V (n := 146) (As := [.int (sV (fJoin S a b (sc S 1001)) (1140 + a) 551)]) (ci := 21) (mc := 1) (ms := 4) dX16_join_143 ok_X16_partners ⟨ml_X16_208, im_X16_partners, sl_X16_partners⟩ rfl (hR.kd (lvM h4 (by omega))) rfl (Nat.le_of_ble_eq_true rfl) (by simp) (by omega) (Nat.le_refl _) (Nat.le_refl _) rfl rfl (k_partners hR h4) ?_
    intro M hR
    refine zs_ireturn dX16_join_146 ⟨_, rfl, rfl⟩ ?_
    exact hQ _ hR
  · exact ⟨hR, hI62⟩
def fMoneyM (S : zSt) (n : Nat) : Int32 := zit (fun a b => b + sV S (1140 + a) 550) n 0
def fManyP (n : Nat) (b : Int32) : Int32 := zit (fun _ b => b + 1) n b
def fManyM (S : zSt) (n : Nat) : Int32 := zit (fun i b => fManyP (sc S (1010 + i)) b) n 0
def fGoodM (S : zSt) (i k : Nat) : Bool := !decide (sV S (1160 + 8 * i + k) 609 = -1) && decide (sV S (1160 + 8 * i + k) 615 = 0)
def fGoodPm (S : zSt) (i n : Nat) (b : Int32) : Int32 := zit (fun k b => b + zb (fGoodM S i k)) n b
def fGoodTm (S : zSt) (n : Nat) : Int32 := zit (fun i b => fGoodPm S i (sc S (1010 + i)) b) n 0
theorem k_meanMoney_1  (hR : zRp Z Λ S M) (h4 : sc S 4 = 1) (h0 : sc S 1001 = 0) : zG Z l 3 mth_X16_meanMoney [.ref (Λ 1001)] M 1 4 (some (.double FP.dconst0)) ((zRp Z Λ (mT S 1))) := by
  intro Q hQ
  show zX Z l 3 mth_X16_meanMoney 0 [(0, .ref (Λ 1001))] [] M 1 4 Q
  refine zs_iconst (v := 0) (n := 1) dX16_meanMoney_0 (by decide) rfl ?_
  refine zs_istore_n (n := 2) dX16_meanMoney_1 (by decide) rfl ?_
  refine zs_aload_n (n := 3) dX16_meanMoney_2 rfl rfl ?_
  refine zs_getr (b := (Λ 1017)) (n := 6) dX16_meanMoney_3 gf_X16_16 (hR.kd (lvM h4 (by omega))) (hR.pt (lvM h4 (by omega)) rfl (by decide)) rfl ?_
  refine zi_new (r := 1017) (nc1 := 0) (ns1 := 0) (n := 9) 3000 dX16_meanMoney_6 rfl hR (lvM h4 (by omega)) rfl (by decide) (by simp) (by omega) (by omega) (by omega) rfl ?_
  intro q6 M hR1 hI6 hq6 hag6
  have hR := hR1
  refine zs_astore_n (n := 10) dX16_meanMoney_9 (by decide) rfl ?_
  refine zX.sub (L' := [(0, .ref (Λ 1001)), (1, .int (fMoneyM S 0)), (2, .ref q6)]) ⟨rfl, rfl, rfl, trivial⟩ ?_
  refine zloop (n := sc S 1001) (X := fun j => ∀ M, zRp Z Λ S M ∧ zIt M q6 (Λ 1017) j 3000 → zX Z l 3 mth_X16_meanMoney 10 [(0, .ref (Λ 1001)), (1, .int (fMoneyM S j)), (2, .ref q6)] [] M 0 0 Q) (fun j hj ih => ?_) ?_ 0 (Nat.zero_le _) M ?_
  · intro M hR9
    obtain ⟨hR, hI6⟩ := hR9
    have hb910 : sc S 1001 ≤ _ := hR.bnd.2.1.2.1
    refine zs_aload_n (n := 11) dX16_meanMoney_10 rfl rfl ?_
    refine zi_has (r := 1017) (j := j) (n := 16) dX16_meanMoney_11 rfl hR (lvM h4 (by omega)) rfl hI6 (by rw [show zct (sc S) 1017 = sc S 1001 from rfl]; omega) (by simp) (by omega) rfl ?_
    rw [show zct (sc S) 1017 = sc S 1001 from rfl]
    refine zs_if_eq (tgt := 39) (n := 19) dX16_meanMoney_16 (by decide) rfl (fun h => absurd h (zb1.mpr (by rw [decide_eq_false (by omega)]; rfl))) (fun _ => ?_)
    refine zs_aload_n (n := 20) dX16_meanMoney_19 rfl rfl ?_
    refine zi_next (r := 1017) (j := j) (b := (Λ (1140 + j))) (n := 25) dX16_meanMoney_20 rfl hR (lvM h4 (by omega)) rfl hI6 (by rw [show zct (sc S) 1017 = sc S 1001 from rfl]; exact hj) rfl (by simp) (by omega) rfl ?_
    intro M hR1 hI6n hag20
    have hI6 := hI6n
    have hR := hR1
    refine zs_castS (ci := 17) (n := 28) dX16_meanMoney_25 rfl cl_X16_111 (hR.kA' hj) rfl ?_
    refine zs_astore_n (n := 29) dX16_meanMoney_28 (by decide) rfl ?_
    refine zs_iload_n (n := 30) dX16_meanMoney_29 rfl rfl ?_
    refine zs_aload_n (n := 31) dX16_meanMoney_30 rfl rfl ?_
    refine zs_getv (x := (sV S (1140 + j) 550)) (n := 34) dX16_meanMoney_31 gf_X16_251 (hR.kA' hj) (hR.iv (lvA' hj) (by decide) (by decide)) rfl ?_
    refine zs_iadd (n := 35) dX16_meanMoney_34 rfl ?_
    refine zs_istore_n (n := 36) dX16_meanMoney_35 (by decide) rfl ?_
    refine zs_goto (tgt := 10) dX16_meanMoney_36 (by decide) ?_
    refine zX.sub (L' := [(0, .ref (Λ 1001)), (1, .int (fMoneyM S (j + 1))), (2, .ref q6)]) ⟨rfl, rfl, rfl, trivial⟩ ?_
    exact ih M ⟨hR, hI6⟩
  · intro M hR9
    obtain ⟨hR, hI6⟩ := hR9
    have hb910 : sc S 1001 ≤ _ := hR.bnd.2.1.2.1
    refine zs_aload_n (n := 11) dX16_meanMoney_10 rfl rfl ?_
    refine zi_has (r := 1017) (j := sc S 1001) (n := 16) dX16_meanMoney_11 rfl hR (lvM h4 (by omega)) rfl hI6 (by rw [show zct (sc S) 1017 = sc S 1001 from rfl]; omega) (by simp) (by omega) rfl ?_
    rw [show zct (sc S) 1017 = sc S 1001 from rfl]
    refine zs_if_eq (tgt := 39) (n := 19) dX16_meanMoney_16 (by decide) rfl (fun _ => ?_) (fun h => absurd (zb0.mpr (by rw [decide_eq_true rfl]; rfl)) h)
    refine zs_aload_n (n := 40) dX16_meanMoney_39 rfl rfl ?_
    refine zs_aload_n (n := 41) dX16_meanMoney_40 rfl rfl ?_
    refine zs_getr (b := (Λ 1017)) (n := 44) dX16_meanMoney_41 gf_X16_16 (hR.kd (lvM h4 (by omega))) (hR.pt (lvM h4 (by omega)) rfl (by decide)) rfl ?_
    refine zc_isEmpty (c := sc S 1001) (n := 47) dX16_meanMoney_44 ml_X16_175 (hR.lA' h4) (by simp) (by omega) rfl ?_
    refine zs_if_eq (tgt := 54) (n := 50) dX16_meanMoney_47 (by decide) rfl (fun h => absurd h (zb1.mpr (decide_eq_true h0))) (fun _ => ?_)
    refine zs_iconst (v := 1) (n := 51) dX16_meanMoney_50 (by decide) rfl ?_
    refine zs_goto (tgt := 55) dX16_meanMoney_51 (by decide) ?_
    refine zw_i (r := 1001) (n := 58) dX16_meanMoney_55 pf_X16_meanMoney_43 hR (lvM h4 (by omega)) (hR.kd (lvM h4 (by omega))) ⟨rfl, rfl⟩ (by decide) rfl ?_
    intro M hR hv
    refine zs_aload_n (n := 59) dX16_meanMoney_58 rfl rfl ?_
    refine zs_getv (x := (1 : Int32)) (n := 62) dX16_meanMoney_59 gf_X16_43 (hR.kd (lvM h4 (by omega))) (hR.iv (lvM h4 (by omega)) (by decide) (by decide)) rfl ?_
    refine zs_if_le (tgt := 69) (n := 65) dX16_meanMoney_62 (by decide) rfl (fun h => absurd h (by decide)) (fun _ => ?_)
    refine zs_dconst0 (n := 66) dX16_meanMoney_65 rfl ?_
    refine zs_goto (tgt := 80) dX16_meanMoney_66 (by decide) ?_
    refine zs_dreturn dX16_meanMoney_80 rfl ?_
    exact hQ _ hR
  · exact ⟨hR, hI6⟩
theorem k_meanMoney  (hR : zRp Z Λ S M) (h4 : sc S 4 = 1) (h0 : 0 < sc S 1001) (hne : vf_n64 (FP.ddiv (FP.i2d (fMoneyM S (sc S 1001))) (FP.i2d (nI (sc S 1001))))) : zG Z l 3 mth_X16_meanMoney [.ref (Λ 1001)] M 1 4 (some (.double (FP.ddiv (FP.i2d (fMoneyM S (sc S 1001))) (FP.i2d (nI (sc S 1001)))))) ((zRp Z Λ (mT S 0))) := by
  intro Q hQ
  show zX Z l 3 mth_X16_meanMoney 0 [(0, .ref (Λ 1001))] [] M 1 4 Q
  refine zs_iconst (v := 0) (n := 1) dX16_meanMoney_0 (by decide) rfl ?_
  refine zs_istore_n (n := 2) dX16_meanMoney_1 (by decide) rfl ?_
  refine zs_aload_n (n := 3) dX16_meanMoney_2 rfl rfl ?_
  refine zs_getr (b := (Λ 1017)) (n := 6) dX16_meanMoney_3 gf_X16_16 (hR.kd (lvM h4 (by omega))) (hR.pt (lvM h4 (by omega)) rfl (by decide)) rfl ?_
  refine zi_new (r := 1017) (nc1 := 0) (ns1 := 0) (n := 9) 3000 dX16_meanMoney_6 rfl hR (lvM h4 (by omega)) rfl (by decide) (by simp) (by omega) (by omega) (by omega) rfl ?_
  intro q6 M hR1 hI6 hq6 hag6
  have hR := hR1
  refine zs_astore_n (n := 10) dX16_meanMoney_9 (by decide) rfl ?_
  refine zX.sub (L' := [(0, .ref (Λ 1001)), (1, .int (fMoneyM S 0)), (2, .ref q6)]) ⟨rfl, rfl, rfl, trivial⟩ ?_
  refine zloop (n := sc S 1001) (X := fun j => ∀ M, zRp Z Λ S M ∧ zIt M q6 (Λ 1017) j 3000 → zX Z l 3 mth_X16_meanMoney 10 [(0, .ref (Λ 1001)), (1, .int (fMoneyM S j)), (2, .ref q6)] [] M 0 0 Q) (fun j hj ih => ?_) ?_ 0 (Nat.zero_le _) M ?_
  · intro M hR9
    obtain ⟨hR, hI6⟩ := hR9
    have hb910 : sc S 1001 ≤ _ := hR.bnd.2.1.2.1
    refine zs_aload_n (n := 11) dX16_meanMoney_10 rfl rfl ?_
    refine zi_has (r := 1017) (j := j) (n := 16) dX16_meanMoney_11 rfl hR (lvM h4 (by omega)) rfl hI6 (by rw [show zct (sc S) 1017 = sc S 1001 from rfl]; omega) (by simp) (by omega) rfl ?_
    rw [show zct (sc S) 1017 = sc S 1001 from rfl]
    refine zs_if_eq (tgt := 39) (n := 19) dX16_meanMoney_16 (by decide) rfl (fun h => absurd h (zb1.mpr (by rw [decide_eq_false (by omega)]; rfl))) (fun _ => ?_)
    refine zs_aload_n (n := 20) dX16_meanMoney_19 rfl rfl ?_
    refine zi_next (r := 1017) (j := j) (b := (Λ (1140 + j))) (n := 25) dX16_meanMoney_20 rfl hR (lvM h4 (by omega)) rfl hI6 (by rw [show zct (sc S) 1017 = sc S 1001 from rfl]; exact hj) rfl (by simp) (by omega) rfl ?_
    intro M hR1 hI6n hag20
    have hI6 := hI6n
    have hR := hR1
    refine zs_castS (ci := 17) (n := 28) dX16_meanMoney_25 rfl cl_X16_111 (hR.kA' hj) rfl ?_
    refine zs_astore_n (n := 29) dX16_meanMoney_28 (by decide) rfl ?_
    refine zs_iload_n (n := 30) dX16_meanMoney_29 rfl rfl ?_
    refine zs_aload_n (n := 31) dX16_meanMoney_30 rfl rfl ?_
    refine zs_getv (x := (sV S (1140 + j) 550)) (n := 34) dX16_meanMoney_31 gf_X16_251 (hR.kA' hj) (hR.iv (lvA' hj) (by decide) (by decide)) rfl ?_
    refine zs_iadd (n := 35) dX16_meanMoney_34 rfl ?_
    refine zs_istore_n (n := 36) dX16_meanMoney_35 (by decide) rfl ?_
    refine zs_goto (tgt := 10) dX16_meanMoney_36 (by decide) ?_
    refine zX.sub (L' := [(0, .ref (Λ 1001)), (1, .int (fMoneyM S (j + 1))), (2, .ref q6)]) ⟨rfl, rfl, rfl, trivial⟩ ?_
    exact ih M ⟨hR, hI6⟩
  · intro M hR9
    obtain ⟨hR, hI6⟩ := hR9
    have hb910 : sc S 1001 ≤ _ := hR.bnd.2.1.2.1
    refine zs_aload_n (n := 11) dX16_meanMoney_10 rfl rfl ?_
    refine zi_has (r := 1017) (j := sc S 1001) (n := 16) dX16_meanMoney_11 rfl hR (lvM h4 (by omega)) rfl hI6 (by rw [show zct (sc S) 1017 = sc S 1001 from rfl]; omega) (by simp) (by omega) rfl ?_
    rw [show zct (sc S) 1017 = sc S 1001 from rfl]
    refine zs_if_eq (tgt := 39) (n := 19) dX16_meanMoney_16 (by decide) rfl (fun _ => ?_) (fun h => absurd (zb0.mpr (by rw [decide_eq_true rfl]; rfl)) h)
    refine zs_aload_n (n := 40) dX16_meanMoney_39 rfl rfl ?_
    refine zs_aload_n (n := 41) dX16_meanMoney_40 rfl rfl ?_
    refine zs_getr (b := (Λ 1017)) (n := 44) dX16_meanMoney_41 gf_X16_16 (hR.kd (lvM h4 (by omega))) (hR.pt (lvM h4 (by omega)) rfl (by decide)) rfl ?_
    refine zc_isEmpty (c := sc S 1001) (n := 47) dX16_meanMoney_44 ml_X16_175 (hR.lA' h4) (by simp) (by omega) rfl ?_
    refine zs_if_eq (tgt := 54) (n := 50) dX16_meanMoney_47 (by decide) rfl (fun _ => ?_) (fun h => absurd (zb0.mpr (decide_eq_false (by omega))) h)
    refine zs_iconst (v := 0) (n := 55) dX16_meanMoney_54 (by decide) rfl ?_
    refine zw_i (r := 1001) (n := 58) dX16_meanMoney_55 pf_X16_meanMoney_43 hR (lvM h4 (by omega)) (hR.kd (lvM h4 (by omega))) ⟨rfl, rfl⟩ (by decide) rfl ?_
    intro M hR hv
    refine zs_aload_n (n := 59) dX16_meanMoney_58 rfl rfl ?_
    refine zs_getv (x := (0 : Int32)) (n := 62) dX16_meanMoney_59 gf_X16_43 (hR.kd (lvM h4 (by omega))) (hR.iv (lvM h4 (by omega)) (by decide) (by decide)) rfl ?_
    refine zs_if_le (tgt := 69) (n := 65) dX16_meanMoney_62 (by decide) rfl (fun _ => ?_) (fun h => absurd (by decide) h)
    refine zs_iload_n (n := 70) dX16_meanMoney_69 rfl rfl ?_
    refine zs_i2d (n := 71) dX16_meanMoney_70 rfl ?_
    refine zs_aload_n (n := 72) dX16_meanMoney_71 rfl rfl ?_
    refine zs_getr (b := (Λ 1017)) (n := 75) dX16_meanMoney_72 gf_X16_16 (hR.kd (lvM h4 (by omega))) (hR.pt (lvM h4 (by omega)) rfl (by decide)) rfl ?_
    refine zc_size (c := sc S 1001) (n := 78) dX16_meanMoney_75 ml_X16_46 (hR.lA' h4) (by simp) (by omega) rfl ?_
    refine zs_i2d (n := 79) dX16_meanMoney_78 rfl ?_
    refine zs_ddiv (n := 80) dX16_meanMoney_79 hne rfl ?_
    refine zs_dreturn dX16_meanMoney_80 rfl ?_
    exact hQ _ hR
  · exact ⟨hR, hI6⟩
theorem k_goodShare_1  (hR : zRp Z Λ S M) (h4 : sc S 4 = 1) (hp : sV S 1001 680 = 0) : zG Z l 3 mth_X16_goodShare [.ref (Λ 1001)] M 7 28 (some (.float FP.fconst0)) ((zRp Z Λ (mT S 1))) := by
  intro Q hQ
  have hb6 : sc S 1000 ≤ 6 := hR.bnd.2.1.1
  show zX Z l 3 mth_X16_goodShare 0 [(0, .ref (Λ 1001))] [] M 7 28 Q
  refine zs_iconst (v := 0) (n := 1) dX16_goodShare_0 (by decide) rfl ?_
  refine zs_istore_n (n := 2) dX16_goodShare_1 (by decide) rfl ?_
  refine zs_iconst (v := 0) (n := 3) dX16_goodShare_2 (by decide) rfl ?_
  refine zs_istore_n (n := 4) dX16_goodShare_3 (by decide) rfl ?_
  refine zs_aload_n (n := 5) dX16_goodShare_4 rfl rfl ?_
  refine zs_getr (b := (Λ 1015)) (n := 8) dX16_goodShare_5 gf_X16_10 (hR.kd (lvM h4 (by omega))) (hR.pt (lvM h4 (by omega)) rfl (by decide)) rfl ?_
  refine zi_new (r := 1015) (nc1 := 6 - 0) (ns1 := 24 - 4 * 0) (n := 11) 3000 dX16_goodShare_8 rfl hR (lvM h4 (by omega)) rfl (by decide) (by simp) (by omega) (by omega) (by omega) rfl ?_
  intro q8 M hR1 hI8 hq8 hag8
  have hR := hR1
  refine zs_astore_n (n := 12) dX16_goodShare_11 (by decide) rfl ?_
  refine zX.sub (L' := [(0, .ref (Λ 1001)), (1, .int (fManyM S 0)), (2, .int (fGoodTm S 0)), (3, .ref q8)]) ⟨rfl, rfl, rfl, rfl, trivial⟩ ?_
  refine zloop (n := sc S 1000) (X := fun j => ∀ M, zRp Z Λ S M ∧ zIt M q8 (Λ 1015) j 3000 → zX Z l 3 mth_X16_goodShare 12 [(0, .ref (Λ 1001)), (1, .int (fManyM S j)), (2, .int (fGoodTm S j)), (3, .ref q8)] [] M (6 - j) (24 - 4 * j) Q) (fun j hj ih => ?_) ?_ 0 (Nat.zero_le _) M ?_
  · intro M hR9
    obtain ⟨hR, hI8⟩ := hR9
    have hb912 : sc S 1000 ≤ _ := hR.bnd.2.1.1
    refine zs_aload_n (n := 13) dX16_goodShare_12 rfl rfl ?_
    refine zi_has (r := 1015) (j := j) (n := 18) dX16_goodShare_13 rfl hR (lvM h4 (by omega)) rfl hI8 (by rw [show zct (sc S) 1015 = sc S 1000 from rfl]; omega) (by simp) (by omega) rfl ?_
    rw [show zct (sc S) 1015 = sc S 1000 from rfl]
    refine zs_if_eq (tgt := 98) (n := 21) dX16_goodShare_18 (by decide) rfl (fun h => absurd h (zb1.mpr (by rw [decide_eq_false (by omega)]; rfl))) (fun _ => ?_)
    refine zs_aload_n (n := 22) dX16_goodShare_21 rfl rfl ?_
    refine zi_next (r := 1015) (j := j) (b := (Λ (1100 + j))) (n := 27) dX16_goodShare_22 rfl hR (lvM h4 (by omega)) rfl hI8 (by rw [show zct (sc S) 1015 = sc S 1000 from rfl]; exact hj) rfl (by simp) (by omega) rfl ?_
    intro M hR1 hI8n hag22
    have hI8 := hI8n
    have hR := hR1
    refine zs_castS (ci := 18) (n := 30) dX16_goodShare_27 rfl cl_X16_68 (hR.kP' hj) rfl ?_
    refine zs_astore (n := 32) dX16_goodShare_30 (by decide) rfl ?_
    refine zs_aload (n := 34) dX16_goodShare_32 rfl rfl ?_
    refine zs_getr (b := (Λ (1120 + j))) (n := 37) dX16_goodShare_34 gf_X16_164 (hR.kP' hj) (hR.pT' hj) rfl ?_
    refine zi_new (r := (1120 + j)) (nc1 := 6 - (j + 1)) (ns1 := 24 - 4 * (j + 1)) (n := 40) 3001 dX16_goodShare_37 rfl hR (lvT' hj) (zki_T' (by omega)) (by decide) (by simp) (by omega) (by omega) (by omega) rfl ?_
    intro q37 M hR1 hI37 hq37 hag37
    have hI8 := hI8.keep (hag37 _ (by rw [hI8.2.1]; decide)) (by rw [(hag37 (Λ 1015) (by rw [show mK _ (Λ 1015) = _ from (hR.kd (lvM h4 (by omega)))]; decide)).2.2.2.1])
    have hR := hR1
    refine zs_astore (n := 42) dX16_goodShare_40 (by decide) rfl ?_
    refine zX.sub (L' := [(0, .ref (Λ 1001)), (1, .int (fManyP 0 (fManyM S j))), (2, .int (fGoodPm S j 0 (fGoodTm S j))), (3, .ref q8), (4, .ref (Λ (1100 + j))), (5, .ref q37)]) ⟨rfl, rfl, rfl, rfl, rfl, rfl, trivial⟩ ?_
    refine zloop (n := sc S (1010 + j)) (X := fun k => ∀ M, zRp Z Λ S M ∧ zIt M q37 (Λ (1120 + j)) k 3001 ∧ zIt M q8 (Λ 1015) (j + 1) 3000 → zX Z l 3 mth_X16_goodShare 42 [(0, .ref (Λ 1001)), (1, .int (fManyP k (fManyM S j))), (2, .int (fGoodPm S j k (fGoodTm S j))), (3, .ref q8), (4, .ref (Λ (1100 + j))), (5, .ref q37)] [] M (6 - (j + 1)) (24 - 4 * (j + 1)) Q) (fun k hk ihk => ?_) ?_ 0 (Nat.zero_le _) M ?_
    · intro M hR9
      obtain ⟨hR, hI37, hI8⟩ := hR9
      have hb942 : sc S (1010 + j) ≤ _ := hR.bnd.2.2 j
      refine zs_aload (n := 44) dX16_goodShare_42 rfl rfl ?_
      refine zi_has (r := (1120 + j)) (j := k) (n := 49) dX16_goodShare_44 rfl hR (lvT' hj) (zki_T' (by omega)) hI37 (by rw [show zct (sc S) (1120 + j) = sc S (1010 + j) from zct_T' (by omega)]; omega) (by simp) (by omega) rfl ?_
      rw [show zct (sc S) (1120 + j) = sc S (1010 + j) from zct_T' (by omega)]
      refine zs_if_eq (tgt := 95) (n := 52) dX16_goodShare_49 (by decide) rfl (fun h => absurd h (zb1.mpr (by rw [decide_eq_false (by omega)]; rfl))) (fun _ => ?_)
      refine zs_aload (n := 54) dX16_goodShare_52 rfl rfl ?_
      refine zi_next (r := (1120 + j)) (j := k) (b := (Λ (1160 + 8 * j + k))) (n := 59) dX16_goodShare_54 rfl hR (lvT' hj) (zki_T' (by omega)) hI37 (by rw [show zct (sc S) (1120 + j) = sc S (1010 + j) from zct_T' (by omega)]; exact hk) (by rw [zbs_T' (by omega)]) (by simp) (by omega) rfl ?_
      intro M hR1 hI37n hag54
      have hI8 := hI8.keep (hag54 _ (fun e => by have h1 := hI8.1.2.1; rw [e, hI37.1.2.1] at h1; exact absurd h1 (by decide))) (by rw [(hag54 _ (fun e => by have h1 : mK _ (Λ 1015) = _ := (hR.kd (lvM h4 (by omega))); rw [e, hI37.2.1] at h1; exact absurd h1 (by decide))).2.2.2.1])
      have hI37 := hI37n
      have hR := hR1
      refine zs_castS (ci := 19) (n := 62) dX16_goodShare_59 rfl cl_X16_167 (hR.kK' hj hk) rfl ?_
      refine zs_astore (n := 64) dX16_goodShare_62 (by decide) rfl ?_
      refine zs_iinc (n := 67) dX16_goodShare_64 rfl rfl (by decide) rfl ?_
      refine zs_iload_n (n := 68) dX16_goodShare_67 rfl rfl ?_
      refine zs_aload (n := 70) dX16_goodShare_68 rfl rfl ?_
      refine zs_getv (x := (sV S (1160 + 8 * j + k) 609)) (n := 73) dX16_goodShare_70 gf_X16_211 (hR.kK' hj hk) (hR.iv (lvK' hj hk) (by decide) (by decide)) rfl ?_
      refine zs_iconst (v := -1) (n := 74) dX16_goodShare_73 (by decide) rfl ?_
      refine zs_icmp_eq (tgt := 89) (n := 77) dX16_goodShare_74 (by decide) rfl (fun h74 => ?_) (fun h74 => ?_)
      · refine zs_iconst (v := 0) (n := 90) dX16_goodShare_89 (by decide) rfl ?_
        refine zs_iadd (n := 91) dX16_goodShare_90 rfl ?_
        refine zs_istore_n (n := 92) dX16_goodShare_91 (by decide) rfl ?_
        refine zs_goto (tgt := 42) dX16_goodShare_92 (by decide) ?_
        refine zX.sub (L' := [(0, .ref (Λ 1001)), (1, .int (fManyP (k + 1) (fManyM S j))), (2, .int (fGoodPm S j (k + 1) (fGoodTm S j))), (3, .ref q8), (4, .ref (Λ (1100 + j))), (5, .ref q37)]) ⟨rfl, rfl, (show some (Value.int ((fGoodPm S j k (fGoodTm S j)) + (0 : Int32))) = some (Value.int (fGoodPm S j (k + 1) (fGoodTm S j))) from congrArg (fun z => some (Value.int z)) (by rw [show fGoodPm S j (k + 1) (fGoodTm S j) = fGoodPm S j k (fGoodTm S j) + zb (fGoodM S j k) from rfl]; unfold fGoodM; simp_all [zb])), rfl, rfl, rfl, trivial⟩ ?_
        exact ihk M ⟨hR, hI37, hI8⟩
      · refine zs_aload (n := 79) dX16_goodShare_77 rfl rfl ?_
        refine zs_getv (x := (sV S (1160 + 8 * j + k) 615)) (n := 82) dX16_goodShare_79 gf_X16_286 (hR.kK' hj hk) (hR.iv (lvK' hj hk) (by decide) (by decide)) rfl ?_
        refine zs_if_ne (tgt := 89) (n := 85) dX16_goodShare_82 (by decide) rfl (fun h82 => ?_) (fun h82 => ?_)
        · refine zs_iconst (v := 0) (n := 90) dX16_goodShare_89 (by decide) rfl ?_
          refine zs_iadd (n := 91) dX16_goodShare_90 rfl ?_
          refine zs_istore_n (n := 92) dX16_goodShare_91 (by decide) rfl ?_
          refine zs_goto (tgt := 42) dX16_goodShare_92 (by decide) ?_
          refine zX.sub (L' := [(0, .ref (Λ 1001)), (1, .int (fManyP (k + 1) (fManyM S j))), (2, .int (fGoodPm S j (k + 1) (fGoodTm S j))), (3, .ref q8), (4, .ref (Λ (1100 + j))), (5, .ref q37)]) ⟨rfl, rfl, (show some (Value.int ((fGoodPm S j k (fGoodTm S j)) + (0 : Int32))) = some (Value.int (fGoodPm S j (k + 1) (fGoodTm S j))) from congrArg (fun z => some (Value.int z)) (by rw [show fGoodPm S j (k + 1) (fGoodTm S j) = fGoodPm S j k (fGoodTm S j) + zb (fGoodM S j k) from rfl]; unfold fGoodM; simp_all [zb])), rfl, rfl, rfl, trivial⟩ ?_
          exact ihk M ⟨hR, hI37, hI8⟩
        · refine zs_iconst (v := 1) (n := 86) dX16_goodShare_85 (by decide) rfl ?_
          refine zs_goto (tgt := 90) dX16_goodShare_86 (by decide) ?_
          refine zs_iadd (n := 91) dX16_goodShare_90 rfl ?_
          refine zs_istore_n (n := 92) dX16_goodShare_91 (by decide) rfl ?_
          refine zs_goto (tgt := 42) dX16_goodShare_92 (by decide) ?_
          refine zX.sub (L' := [(0, .ref (Λ 1001)), (1, .int (fManyP (k + 1) (fManyM S j))), (2, .int (fGoodPm S j (k + 1) (fGoodTm S j))), (3, .ref q8), (4, .ref (Λ (1100 + j))), (5, .ref q37)]) ⟨rfl, rfl, (show some (Value.int ((fGoodPm S j k (fGoodTm S j)) + (1 : Int32))) = some (Value.int (fGoodPm S j (k + 1) (fGoodTm S j))) from congrArg (fun z => some (Value.int z)) (by rw [show fGoodPm S j (k + 1) (fGoodTm S j) = fGoodPm S j k (fGoodTm S j) + zb (fGoodM S j k) from rfl]; unfold fGoodM; simp_all [zb])), rfl, rfl, rfl, trivial⟩ ?_
          exact ihk M ⟨hR, hI37, hI8⟩
    · intro M hR9
      obtain ⟨hR, hI37, hI8⟩ := hR9
      have hb942 : sc S (1010 + j) ≤ _ := hR.bnd.2.2 j
      refine zs_aload (n := 44) dX16_goodShare_42 rfl rfl ?_
      refine zi_has (r := (1120 + j)) (j := sc S (1010 + j)) (n := 49) dX16_goodShare_44 rfl hR (lvT' hj) (zki_T' (by omega)) hI37 (by rw [show zct (sc S) (1120 + j) = sc S (1010 + j) from zct_T' (by omega)]; omega) (by simp) (by omega) rfl ?_
      rw [show zct (sc S) (1120 + j) = sc S (1010 + j) from zct_T' (by omega)]
      refine zs_if_eq (tgt := 95) (n := 52) dX16_goodShare_49 (by decide) rfl (fun _ => ?_) (fun h => absurd (zb0.mpr (by rw [decide_eq_true rfl]; rfl)) h)
      refine zs_goto (tgt := 12) dX16_goodShare_95 (by decide) ?_
      refine zX.sub (L' := [(0, .ref (Λ 1001)), (1, .int (fManyM S (j + 1))), (2, .int (fGoodTm S (j + 1))), (3, .ref q8)]) ⟨rfl, rfl, rfl, rfl, trivial⟩ ?_
      exact ih M ⟨hR, hI8⟩
    · exact ⟨hR, hI37, hI8⟩
  · intro M hR9
    obtain ⟨hR, hI8⟩ := hR9
    have hb912 : sc S 1000 ≤ _ := hR.bnd.2.1.1
    refine zs_aload_n (n := 13) dX16_goodShare_12 rfl rfl ?_
    refine zi_has (r := 1015) (j := sc S 1000) (n := 18) dX16_goodShare_13 rfl hR (lvM h4 (by omega)) rfl hI8 (by rw [show zct (sc S) 1015 = sc S 1000 from rfl]; omega) (by simp) (by omega) rfl ?_
    rw [show zct (sc S) 1015 = sc S 1000 from rfl]
    refine zs_if_eq (tgt := 98) (n := 21) dX16_goodShare_18 (by decide) rfl (fun _ => ?_) (fun h => absurd (zb0.mpr (by rw [decide_eq_true rfl]; rfl)) h)
    refine zs_aload_n (n := 99) dX16_goodShare_98 rfl rfl ?_
    refine zs_aload_n (n := 100) dX16_goodShare_99 rfl rfl ?_
    refine zs_getv (x := (sV S 1001 680)) (n := 103) dX16_goodShare_100 gf_X16_161 (hR.kd (lvM h4 (by omega))) (hR.iv (lvM h4 (by omega)) (by decide) (by decide)) rfl ?_
    refine zs_if_ne (tgt := 110) (n := 106) dX16_goodShare_103 (by decide) rfl (fun h => absurd hp h) (fun _ => ?_)
    refine zs_iconst (v := 1) (n := 107) dX16_goodShare_106 (by decide) rfl ?_
    refine zs_goto (tgt := 119) dX16_goodShare_107 (by decide) ?_
    refine zw_i (r := 1001) (n := 122) dX16_goodShare_119 pf_X16_goodShare_43 hR (lvM h4 (by omega)) (hR.kd (lvM h4 (by omega))) ⟨rfl, rfl⟩ (by decide) rfl ?_
    intro M hR hv
    refine zs_aload_n (n := 123) dX16_goodShare_122 rfl rfl ?_
    refine zs_getv (x := (1 : Int32)) (n := 126) dX16_goodShare_123 gf_X16_43 (hR.kd (lvM h4 (by omega))) (hR.iv (lvM h4 (by omega)) (by decide) (by decide)) rfl ?_
    refine zs_if_le (tgt := 133) (n := 129) dX16_goodShare_126 (by decide) rfl (fun h => absurd h (by decide)) (fun _ => ?_)
    refine zs_fconst0 (n := 130) dX16_goodShare_129 rfl ?_
    refine zs_goto (tgt := 138) dX16_goodShare_130 (by decide) ?_
    refine zs_freturn dX16_goodShare_138 rfl ?_
    exact hQ _ hR
  · exact ⟨hR, hI8⟩
theorem k_goodShare_2  (hR : zRp Z Λ S M) (h4 : sc S 4 = 1) (hp : ¬ sV S 1001 680 = 0) (h0 : fManyM S (sc S 1000) = 0) : zG Z l 3 mth_X16_goodShare [.ref (Λ 1001)] M 7 28 (some (.float FP.fconst0)) ((zRp Z Λ (mT S 2))) := by
  intro Q hQ
  have hb6 : sc S 1000 ≤ 6 := hR.bnd.2.1.1
  show zX Z l 3 mth_X16_goodShare 0 [(0, .ref (Λ 1001))] [] M 7 28 Q
  refine zs_iconst (v := 0) (n := 1) dX16_goodShare_0 (by decide) rfl ?_
  refine zs_istore_n (n := 2) dX16_goodShare_1 (by decide) rfl ?_
  refine zs_iconst (v := 0) (n := 3) dX16_goodShare_2 (by decide) rfl ?_
  refine zs_istore_n (n := 4) dX16_goodShare_3 (by decide) rfl ?_
  refine zs_aload_n (n := 5) dX16_goodShare_4 rfl rfl ?_
  refine zs_getr (b := (Λ 1015)) (n := 8) dX16_goodShare_5 gf_X16_10 (hR.kd (lvM h4 (by omega))) (hR.pt (lvM h4 (by omega)) rfl (by decide)) rfl ?_
  refine zi_new (r := 1015) (nc1 := 6 - 0) (ns1 := 24 - 4 * 0) (n := 11) 3000 dX16_goodShare_8 rfl hR (lvM h4 (by omega)) rfl (by decide) (by simp) (by omega) (by omega) (by omega) rfl ?_
  intro q8 M hR1 hI8 hq8 hag8
  have hR := hR1
  refine zs_astore_n (n := 12) dX16_goodShare_11 (by decide) rfl ?_
  refine zX.sub (L' := [(0, .ref (Λ 1001)), (1, .int (fManyM S 0)), (2, .int (fGoodTm S 0)), (3, .ref q8)]) ⟨rfl, rfl, rfl, rfl, trivial⟩ ?_
  refine zloop (n := sc S 1000) (X := fun j => ∀ M, zRp Z Λ S M ∧ zIt M q8 (Λ 1015) j 3000 → zX Z l 3 mth_X16_goodShare 12 [(0, .ref (Λ 1001)), (1, .int (fManyM S j)), (2, .int (fGoodTm S j)), (3, .ref q8)] [] M (6 - j) (24 - 4 * j) Q) (fun j hj ih => ?_) ?_ 0 (Nat.zero_le _) M ?_
  · intro M hR9
    obtain ⟨hR, hI8⟩ := hR9
    have hb912 : sc S 1000 ≤ _ := hR.bnd.2.1.1
    refine zs_aload_n (n := 13) dX16_goodShare_12 rfl rfl ?_
    refine zi_has (r := 1015) (j := j) (n := 18) dX16_goodShare_13 rfl hR (lvM h4 (by omega)) rfl hI8 (by rw [show zct (sc S) 1015 = sc S 1000 from rfl]; omega) (by simp) (by omega) rfl ?_
    rw [show zct (sc S) 1015 = sc S 1000 from rfl]
    refine zs_if_eq (tgt := 98) (n := 21) dX16_goodShare_18 (by decide) rfl (fun h => absurd h (zb1.mpr (by rw [decide_eq_false (by omega)]; rfl))) (fun _ => ?_)
    refine zs_aload_n (n := 22) dX16_goodShare_21 rfl rfl ?_
    refine zi_next (r := 1015) (j := j) (b := (Λ (1100 + j))) (n := 27) dX16_goodShare_22 rfl hR (lvM h4 (by omega)) rfl hI8 (by rw [show zct (sc S) 1015 = sc S 1000 from rfl]; exact hj) rfl (by simp) (by omega) rfl ?_
    intro M hR1 hI8n hag22
    have hI8 := hI8n
    have hR := hR1
    refine zs_castS (ci := 18) (n := 30) dX16_goodShare_27 rfl cl_X16_68 (hR.kP' hj) rfl ?_
    refine zs_astore (n := 32) dX16_goodShare_30 (by decide) rfl ?_
    refine zs_aload (n := 34) dX16_goodShare_32 rfl rfl ?_
    refine zs_getr (b := (Λ (1120 + j))) (n := 37) dX16_goodShare_34 gf_X16_164 (hR.kP' hj) (hR.pT' hj) rfl ?_
    refine zi_new (r := (1120 + j)) (nc1 := 6 - (j + 1)) (ns1 := 24 - 4 * (j + 1)) (n := 40) 3001 dX16_goodShare_37 rfl hR (lvT' hj) (zki_T' (by omega)) (by decide) (by simp) (by omega) (by omega) (by omega) rfl ?_
    intro q37 M hR1 hI37 hq37 hag37
    have hI8 := hI8.keep (hag37 _ (by rw [hI8.2.1]; decide)) (by rw [(hag37 (Λ 1015) (by rw [show mK _ (Λ 1015) = _ from (hR.kd (lvM h4 (by omega)))]; decide)).2.2.2.1])
    have hR := hR1
    refine zs_astore (n := 42) dX16_goodShare_40 (by decide) rfl ?_
    refine zX.sub (L' := [(0, .ref (Λ 1001)), (1, .int (fManyP 0 (fManyM S j))), (2, .int (fGoodPm S j 0 (fGoodTm S j))), (3, .ref q8), (4, .ref (Λ (1100 + j))), (5, .ref q37)]) ⟨rfl, rfl, rfl, rfl, rfl, rfl, trivial⟩ ?_
    refine zloop (n := sc S (1010 + j)) (X := fun k => ∀ M, zRp Z Λ S M ∧ zIt M q37 (Λ (1120 + j)) k 3001 ∧ zIt M q8 (Λ 1015) (j + 1) 3000 → zX Z l 3 mth_X16_goodShare 42 [(0, .ref (Λ 1001)), (1, .int (fManyP k (fManyM S j))), (2, .int (fGoodPm S j k (fGoodTm S j))), (3, .ref q8), (4, .ref (Λ (1100 + j))), (5, .ref q37)] [] M (6 - (j + 1)) (24 - 4 * (j + 1)) Q) (fun k hk ihk => ?_) ?_ 0 (Nat.zero_le _) M ?_
    · intro M hR9
      obtain ⟨hR, hI37, hI8⟩ := hR9
      have hb942 : sc S (1010 + j) ≤ _ := hR.bnd.2.2 j
      refine zs_aload (n := 44) dX16_goodShare_42 rfl rfl ?_
      refine zi_has (r := (1120 + j)) (j := k) (n := 49) dX16_goodShare_44 rfl hR (lvT' hj) (zki_T' (by omega)) hI37 (by rw [show zct (sc S) (1120 + j) = sc S (1010 + j) from zct_T' (by omega)]; omega) (by simp) (by omega) rfl ?_
      rw [show zct (sc S) (1120 + j) = sc S (1010 + j) from zct_T' (by omega)]
      refine zs_if_eq (tgt := 95) (n := 52) dX16_goodShare_49 (by decide) rfl (fun h => absurd h (zb1.mpr (by rw [decide_eq_false (by omega)]; rfl))) (fun _ => ?_)
      refine zs_aload (n := 54) dX16_goodShare_52 rfl rfl ?_
      refine zi_next (r := (1120 + j)) (j := k) (b := (Λ (1160 + 8 * j + k))) (n := 59) dX16_goodShare_54 rfl hR (lvT' hj) (zki_T' (by omega)) hI37 (by rw [show zct (sc S) (1120 + j) = sc S (1010 + j) from zct_T' (by omega)]; exact hk) (by rw [zbs_T' (by omega)]) (by simp) (by omega) rfl ?_
      intro M hR1 hI37n hag54
      have hI8 := hI8.keep (hag54 _ (fun e => by have h1 := hI8.1.2.1; rw [e, hI37.1.2.1] at h1; exact absurd h1 (by decide))) (by rw [(hag54 _ (fun e => by have h1 : mK _ (Λ 1015) = _ := (hR.kd (lvM h4 (by omega))); rw [e, hI37.2.1] at h1; exact absurd h1 (by decide))).2.2.2.1])
      have hI37 := hI37n
      have hR := hR1
      refine zs_castS (ci := 19) (n := 62) dX16_goodShare_59 rfl cl_X16_167 (hR.kK' hj hk) rfl ?_
      refine zs_astore (n := 64) dX16_goodShare_62 (by decide) rfl ?_
      refine zs_iinc (n := 67) dX16_goodShare_64 rfl rfl (by decide) rfl ?_
      refine zs_iload_n (n := 68) dX16_goodShare_67 rfl rfl ?_
      refine zs_aload (n := 70) dX16_goodShare_68 rfl rfl ?_
      refine zs_getv (x := (sV S (1160 + 8 * j + k) 609)) (n := 73) dX16_goodShare_70 gf_X16_211 (hR.kK' hj hk) (hR.iv (lvK' hj hk) (by decide) (by decide)) rfl ?_
      refine zs_iconst (v := -1) (n := 74) dX16_goodShare_73 (by decide) rfl ?_
      refine zs_icmp_eq (tgt := 89) (n := 77) dX16_goodShare_74 (by decide) rfl (fun h74 => ?_) (fun h74 => ?_)
      · refine zs_iconst (v := 0) (n := 90) dX16_goodShare_89 (by decide) rfl ?_
        refine zs_iadd (n := 91) dX16_goodShare_90 rfl ?_
        refine zs_istore_n (n := 92) dX16_goodShare_91 (by decide) rfl ?_
        refine zs_goto (tgt := 42) dX16_goodShare_92 (by decide) ?_
        refine zX.sub (L' := [(0, .ref (Λ 1001)), (1, .int (fManyP (k + 1) (fManyM S j))), (2, .int (fGoodPm S j (k + 1) (fGoodTm S j))), (3, .ref q8), (4, .ref (Λ (1100 + j))), (5, .ref q37)]) ⟨rfl, rfl, (show some (Value.int ((fGoodPm S j k (fGoodTm S j)) + (0 : Int32))) = some (Value.int (fGoodPm S j (k + 1) (fGoodTm S j))) from congrArg (fun z => some (Value.int z)) (by rw [show fGoodPm S j (k + 1) (fGoodTm S j) = fGoodPm S j k (fGoodTm S j) + zb (fGoodM S j k) from rfl]; unfold fGoodM; simp_all [zb])), rfl, rfl, rfl, trivial⟩ ?_
        exact ihk M ⟨hR, hI37, hI8⟩
      · refine zs_aload (n := 79) dX16_goodShare_77 rfl rfl ?_
        refine zs_getv (x := (sV S (1160 + 8 * j + k) 615)) (n := 82) dX16_goodShare_79 gf_X16_286 (hR.kK' hj hk) (hR.iv (lvK' hj hk) (by decide) (by decide)) rfl ?_
        refine zs_if_ne (tgt := 89) (n := 85) dX16_goodShare_82 (by decide) rfl (fun h82 => ?_) (fun h82 => ?_)
        · refine zs_iconst (v := 0) (n := 90) dX16_goodShare_89 (by decide) rfl ?_
          refine zs_iadd (n := 91) dX16_goodShare_90 rfl ?_
          refine zs_istore_n (n := 92) dX16_goodShare_91 (by decide) rfl ?_
          refine zs_goto (tgt := 42) dX16_goodShare_92 (by decide) ?_
          refine zX.sub (L' := [(0, .ref (Λ 1001)), (1, .int (fManyP (k + 1) (fManyM S j))), (2, .int (fGoodPm S j (k + 1) (fGoodTm S j))), (3, .ref q8), (4, .ref (Λ (1100 + j))), (5, .ref q37)]) ⟨rfl, rfl, (show some (Value.int ((fGoodPm S j k (fGoodTm S j)) + (0 : Int32))) = some (Value.int (fGoodPm S j (k + 1) (fGoodTm S j))) from congrArg (fun z => some (Value.int z)) (by rw [show fGoodPm S j (k + 1) (fGoodTm S j) = fGoodPm S j k (fGoodTm S j) + zb (fGoodM S j k) from rfl]; unfold fGoodM; simp_all [zb])), rfl, rfl, rfl, trivial⟩ ?_
          exact ihk M ⟨hR, hI37, hI8⟩
        · refine zs_iconst (v := 1) (n := 86) dX16_goodShare_85 (by decide) rfl ?_
          refine zs_goto (tgt := 90) dX16_goodShare_86 (by decide) ?_
          refine zs_iadd (n := 91) dX16_goodShare_90 rfl ?_
          refine zs_istore_n (n := 92) dX16_goodShare_91 (by decide) rfl ?_
          refine zs_goto (tgt := 42) dX16_goodShare_92 (by decide) ?_
          refine zX.sub (L' := [(0, .ref (Λ 1001)), (1, .int (fManyP (k + 1) (fManyM S j))), (2, .int (fGoodPm S j (k + 1) (fGoodTm S j))), (3, .ref q8), (4, .ref (Λ (1100 + j))), (5, .ref q37)]) ⟨rfl, rfl, (show some (Value.int ((fGoodPm S j k (fGoodTm S j)) + (1 : Int32))) = some (Value.int (fGoodPm S j (k + 1) (fGoodTm S j))) from congrArg (fun z => some (Value.int z)) (by rw [show fGoodPm S j (k + 1) (fGoodTm S j) = fGoodPm S j k (fGoodTm S j) + zb (fGoodM S j k) from rfl]; unfold fGoodM; simp_all [zb])), rfl, rfl, rfl, trivial⟩ ?_
          exact ihk M ⟨hR, hI37, hI8⟩
    · intro M hR9
      obtain ⟨hR, hI37, hI8⟩ := hR9
      have hb942 : sc S (1010 + j) ≤ _ := hR.bnd.2.2 j
      refine zs_aload (n := 44) dX16_goodShare_42 rfl rfl ?_
      refine zi_has (r := (1120 + j)) (j := sc S (1010 + j)) (n := 49) dX16_goodShare_44 rfl hR (lvT' hj) (zki_T' (by omega)) hI37 (by rw [show zct (sc S) (1120 + j) = sc S (1010 + j) from zct_T' (by omega)]; omega) (by simp) (by omega) rfl ?_
      rw [show zct (sc S) (1120 + j) = sc S (1010 + j) from zct_T' (by omega)]
      refine zs_if_eq (tgt := 95) (n := 52) dX16_goodShare_49 (by decide) rfl (fun _ => ?_) (fun h => absurd (zb0.mpr (by rw [decide_eq_true rfl]; rfl)) h)
      refine zs_goto (tgt := 12) dX16_goodShare_95 (by decide) ?_
      refine zX.sub (L' := [(0, .ref (Λ 1001)), (1, .int (fManyM S (j + 1))), (2, .int (fGoodTm S (j + 1))), (3, .ref q8)]) ⟨rfl, rfl, rfl, rfl, trivial⟩ ?_
      exact ih M ⟨hR, hI8⟩
    · exact ⟨hR, hI37, hI8⟩
  · intro M hR9
    obtain ⟨hR, hI8⟩ := hR9
    have hb912 : sc S 1000 ≤ _ := hR.bnd.2.1.1
    refine zs_aload_n (n := 13) dX16_goodShare_12 rfl rfl ?_
    refine zi_has (r := 1015) (j := sc S 1000) (n := 18) dX16_goodShare_13 rfl hR (lvM h4 (by omega)) rfl hI8 (by rw [show zct (sc S) 1015 = sc S 1000 from rfl]; omega) (by simp) (by omega) rfl ?_
    rw [show zct (sc S) 1015 = sc S 1000 from rfl]
    refine zs_if_eq (tgt := 98) (n := 21) dX16_goodShare_18 (by decide) rfl (fun _ => ?_) (fun h => absurd (zb0.mpr (by rw [decide_eq_true rfl]; rfl)) h)
    refine zs_aload_n (n := 99) dX16_goodShare_98 rfl rfl ?_
    refine zs_aload_n (n := 100) dX16_goodShare_99 rfl rfl ?_
    refine zs_getv (x := (sV S 1001 680)) (n := 103) dX16_goodShare_100 gf_X16_161 (hR.kd (lvM h4 (by omega))) (hR.iv (lvM h4 (by omega)) (by decide) (by decide)) rfl ?_
    refine zs_if_ne (tgt := 110) (n := 106) dX16_goodShare_103 (by decide) rfl (fun _ => ?_) (fun h => absurd h hp)
    refine zs_iload_n (n := 111) dX16_goodShare_110 rfl rfl ?_
    refine zs_if_ne (tgt := 118) (n := 114) dX16_goodShare_111 (by decide) rfl (fun h => absurd h0 h) (fun _ => ?_)
    refine zs_iconst (v := 2) (n := 115) dX16_goodShare_114 (by decide) rfl ?_
    refine zs_goto (tgt := 119) dX16_goodShare_115 (by decide) ?_
    refine zw_i (r := 1001) (n := 122) dX16_goodShare_119 pf_X16_goodShare_43 hR (lvM h4 (by omega)) (hR.kd (lvM h4 (by omega))) ⟨rfl, rfl⟩ (by decide) rfl ?_
    intro M hR hv
    refine zs_aload_n (n := 123) dX16_goodShare_122 rfl rfl ?_
    refine zs_getv (x := (2 : Int32)) (n := 126) dX16_goodShare_123 gf_X16_43 (hR.kd (lvM h4 (by omega))) (hR.iv (lvM h4 (by omega)) (by decide) (by decide)) rfl ?_
    refine zs_if_le (tgt := 133) (n := 129) dX16_goodShare_126 (by decide) rfl (fun h => absurd h (by decide)) (fun _ => ?_)
    refine zs_fconst0 (n := 130) dX16_goodShare_129 rfl ?_
    refine zs_goto (tgt := 138) dX16_goodShare_130 (by decide) ?_
    refine zs_freturn dX16_goodShare_138 rfl ?_
    exact hQ _ hR
  · exact ⟨hR, hI8⟩
theorem k_goodShare  (hR : zRp Z Λ S M) (h4 : sc S 4 = 1) (hp : ¬ sV S 1001 680 = 0) (h0 : ¬ fManyM S (sc S 1000) = 0) (hne : vf_n32 (FP.fdiv (FP.i2f (fGoodTm S (sc S 1000))) (FP.i2f (fManyM S (sc S 1000))))) : zG Z l 3 mth_X16_goodShare [.ref (Λ 1001)] M 7 28 (some (.float (FP.fdiv (FP.i2f (fGoodTm S (sc S 1000))) (FP.i2f (fManyM S (sc S 1000)))))) ((zRp Z Λ (mT S 0))) := by
  intro Q hQ
  have hb6 : sc S 1000 ≤ 6 := hR.bnd.2.1.1
  show zX Z l 3 mth_X16_goodShare 0 [(0, .ref (Λ 1001))] [] M 7 28 Q
  refine zs_iconst (v := 0) (n := 1) dX16_goodShare_0 (by decide) rfl ?_
  refine zs_istore_n (n := 2) dX16_goodShare_1 (by decide) rfl ?_
  refine zs_iconst (v := 0) (n := 3) dX16_goodShare_2 (by decide) rfl ?_
  refine zs_istore_n (n := 4) dX16_goodShare_3 (by decide) rfl ?_
  refine zs_aload_n (n := 5) dX16_goodShare_4 rfl rfl ?_
  refine zs_getr (b := (Λ 1015)) (n := 8) dX16_goodShare_5 gf_X16_10 (hR.kd (lvM h4 (by omega))) (hR.pt (lvM h4 (by omega)) rfl (by decide)) rfl ?_
  refine zi_new (r := 1015) (nc1 := 6 - 0) (ns1 := 24 - 4 * 0) (n := 11) 3000 dX16_goodShare_8 rfl hR (lvM h4 (by omega)) rfl (by decide) (by simp) (by omega) (by omega) (by omega) rfl ?_
  intro q8 M hR1 hI8 hq8 hag8
  have hR := hR1
  refine zs_astore_n (n := 12) dX16_goodShare_11 (by decide) rfl ?_
  refine zX.sub (L' := [(0, .ref (Λ 1001)), (1, .int (fManyM S 0)), (2, .int (fGoodTm S 0)), (3, .ref q8)]) ⟨rfl, rfl, rfl, rfl, trivial⟩ ?_
  refine zloop (n := sc S 1000) (X := fun j => ∀ M, zRp Z Λ S M ∧ zIt M q8 (Λ 1015) j 3000 → zX Z l 3 mth_X16_goodShare 12 [(0, .ref (Λ 1001)), (1, .int (fManyM S j)), (2, .int (fGoodTm S j)), (3, .ref q8)] [] M (6 - j) (24 - 4 * j) Q) (fun j hj ih => ?_) ?_ 0 (Nat.zero_le _) M ?_
  · intro M hR9
    obtain ⟨hR, hI8⟩ := hR9
    have hb912 : sc S 1000 ≤ _ := hR.bnd.2.1.1
    refine zs_aload_n (n := 13) dX16_goodShare_12 rfl rfl ?_
    refine zi_has (r := 1015) (j := j) (n := 18) dX16_goodShare_13 rfl hR (lvM h4 (by omega)) rfl hI8 (by rw [show zct (sc S) 1015 = sc S 1000 from rfl]; omega) (by simp) (by omega) rfl ?_
    rw [show zct (sc S) 1015 = sc S 1000 from rfl]
    refine zs_if_eq (tgt := 98) (n := 21) dX16_goodShare_18 (by decide) rfl (fun h => absurd h (zb1.mpr (by rw [decide_eq_false (by omega)]; rfl))) (fun _ => ?_)
    refine zs_aload_n (n := 22) dX16_goodShare_21 rfl rfl ?_
    refine zi_next (r := 1015) (j := j) (b := (Λ (1100 + j))) (n := 27) dX16_goodShare_22 rfl hR (lvM h4 (by omega)) rfl hI8 (by rw [show zct (sc S) 1015 = sc S 1000 from rfl]; exact hj) rfl (by simp) (by omega) rfl ?_
    intro M hR1 hI8n hag22
    have hI8 := hI8n
    have hR := hR1
    refine zs_castS (ci := 18) (n := 30) dX16_goodShare_27 rfl cl_X16_68 (hR.kP' hj) rfl ?_
    refine zs_astore (n := 32) dX16_goodShare_30 (by decide) rfl ?_
    refine zs_aload (n := 34) dX16_goodShare_32 rfl rfl ?_
    refine zs_getr (b := (Λ (1120 + j))) (n := 37) dX16_goodShare_34 gf_X16_164 (hR.kP' hj) (hR.pT' hj) rfl ?_
    refine zi_new (r := (1120 + j)) (nc1 := 6 - (j + 1)) (ns1 := 24 - 4 * (j + 1)) (n := 40) 3001 dX16_goodShare_37 rfl hR (lvT' hj) (zki_T' (by omega)) (by decide) (by simp) (by omega) (by omega) (by omega) rfl ?_
    intro q37 M hR1 hI37 hq37 hag37
    have hI8 := hI8.keep (hag37 _ (by rw [hI8.2.1]; decide)) (by rw [(hag37 (Λ 1015) (by rw [show mK _ (Λ 1015) = _ from (hR.kd (lvM h4 (by omega)))]; decide)).2.2.2.1])
    have hR := hR1
    refine zs_astore (n := 42) dX16_goodShare_40 (by decide) rfl ?_
    refine zX.sub (L' := [(0, .ref (Λ 1001)), (1, .int (fManyP 0 (fManyM S j))), (2, .int (fGoodPm S j 0 (fGoodTm S j))), (3, .ref q8), (4, .ref (Λ (1100 + j))), (5, .ref q37)]) ⟨rfl, rfl, rfl, rfl, rfl, rfl, trivial⟩ ?_
    refine zloop (n := sc S (1010 + j)) (X := fun k => ∀ M, zRp Z Λ S M ∧ zIt M q37 (Λ (1120 + j)) k 3001 ∧ zIt M q8 (Λ 1015) (j + 1) 3000 → zX Z l 3 mth_X16_goodShare 42 [(0, .ref (Λ 1001)), (1, .int (fManyP k (fManyM S j))), (2, .int (fGoodPm S j k (fGoodTm S j))), (3, .ref q8), (4, .ref (Λ (1100 + j))), (5, .ref q37)] [] M (6 - (j + 1)) (24 - 4 * (j + 1)) Q) (fun k hk ihk => ?_) ?_ 0 (Nat.zero_le _) M ?_
    · intro M hR9
      obtain ⟨hR, hI37, hI8⟩ := hR9
      have hb942 : sc S (1010 + j) ≤ _ := hR.bnd.2.2 j
      refine zs_aload (n := 44) dX16_goodShare_42 rfl rfl ?_
      refine zi_has (r := (1120 + j)) (j := k) (n := 49) dX16_goodShare_44 rfl hR (lvT' hj) (zki_T' (by omega)) hI37 (by rw [show zct (sc S) (1120 + j) = sc S (1010 + j) from zct_T' (by omega)]; omega) (by simp) (by omega) rfl ?_
      rw [show zct (sc S) (1120 + j) = sc S (1010 + j) from zct_T' (by omega)]
      refine zs_if_eq (tgt := 95) (n := 52) dX16_goodShare_49 (by decide) rfl (fun h => absurd h (zb1.mpr (by rw [decide_eq_false (by omega)]; rfl))) (fun _ => ?_)
      refine zs_aload (n := 54) dX16_goodShare_52 rfl rfl ?_
      refine zi_next (r := (1120 + j)) (j := k) (b := (Λ (1160 + 8 * j + k))) (n := 59) dX16_goodShare_54 rfl hR (lvT' hj) (zki_T' (by omega)) hI37 (by rw [show zct (sc S) (1120 + j) = sc S (1010 + j) from zct_T' (by omega)]; exact hk) (by rw [zbs_T' (by omega)]) (by simp) (by omega) rfl ?_
      intro M hR1 hI37n hag54
      have hI8 := hI8.keep (hag54 _ (fun e => by have h1 := hI8.1.2.1; rw [e, hI37.1.2.1] at h1; exact absurd h1 (by decide))) (by rw [(hag54 _ (fun e => by have h1 : mK _ (Λ 1015) = _ := (hR.kd (lvM h4 (by omega))); rw [e, hI37.2.1] at h1; exact absurd h1 (by decide))).2.2.2.1])
      have hI37 := hI37n
      have hR := hR1
      refine zs_castS (ci := 19) (n := 62) dX16_goodShare_59 rfl cl_X16_167 (hR.kK' hj hk) rfl ?_
      refine zs_astore (n := 64) dX16_goodShare_62 (by decide) rfl ?_
      refine zs_iinc (n := 67) dX16_goodShare_64 rfl rfl (by decide) rfl ?_
      refine zs_iload_n (n := 68) dX16_goodShare_67 rfl rfl ?_
      refine zs_aload (n := 70) dX16_goodShare_68 rfl rfl ?_
      refine zs_getv (x := (sV S (1160 + 8 * j + k) 609)) (n := 73) dX16_goodShare_70 gf_X16_211 (hR.kK' hj hk) (hR.iv (lvK' hj hk) (by decide) (by decide)) rfl ?_
      refine zs_iconst (v := -1) (n := 74) dX16_goodShare_73 (by decide) rfl ?_
      refine zs_icmp_eq (tgt := 89) (n := 77) dX16_goodShare_74 (by decide) rfl (fun h74 => ?_) (fun h74 => ?_)
      · refine zs_iconst (v := 0) (n := 90) dX16_goodShare_89 (by decide) rfl ?_
        refine zs_iadd (n := 91) dX16_goodShare_90 rfl ?_
        refine zs_istore_n (n := 92) dX16_goodShare_91 (by decide) rfl ?_
        refine zs_goto (tgt := 42) dX16_goodShare_92 (by decide) ?_
        refine zX.sub (L' := [(0, .ref (Λ 1001)), (1, .int (fManyP (k + 1) (fManyM S j))), (2, .int (fGoodPm S j (k + 1) (fGoodTm S j))), (3, .ref q8), (4, .ref (Λ (1100 + j))), (5, .ref q37)]) ⟨rfl, rfl, (show some (Value.int ((fGoodPm S j k (fGoodTm S j)) + (0 : Int32))) = some (Value.int (fGoodPm S j (k + 1) (fGoodTm S j))) from congrArg (fun z => some (Value.int z)) (by rw [show fGoodPm S j (k + 1) (fGoodTm S j) = fGoodPm S j k (fGoodTm S j) + zb (fGoodM S j k) from rfl]; unfold fGoodM; simp_all [zb])), rfl, rfl, rfl, trivial⟩ ?_
        exact ihk M ⟨hR, hI37, hI8⟩
      · refine zs_aload (n := 79) dX16_goodShare_77 rfl rfl ?_
        refine zs_getv (x := (sV S (1160 + 8 * j + k) 615)) (n := 82) dX16_goodShare_79 gf_X16_286 (hR.kK' hj hk) (hR.iv (lvK' hj hk) (by decide) (by decide)) rfl ?_
        refine zs_if_ne (tgt := 89) (n := 85) dX16_goodShare_82 (by decide) rfl (fun h82 => ?_) (fun h82 => ?_)
        · refine zs_iconst (v := 0) (n := 90) dX16_goodShare_89 (by decide) rfl ?_
          refine zs_iadd (n := 91) dX16_goodShare_90 rfl ?_
          refine zs_istore_n (n := 92) dX16_goodShare_91 (by decide) rfl ?_
          refine zs_goto (tgt := 42) dX16_goodShare_92 (by decide) ?_
          refine zX.sub (L' := [(0, .ref (Λ 1001)), (1, .int (fManyP (k + 1) (fManyM S j))), (2, .int (fGoodPm S j (k + 1) (fGoodTm S j))), (3, .ref q8), (4, .ref (Λ (1100 + j))), (5, .ref q37)]) ⟨rfl, rfl, (show some (Value.int ((fGoodPm S j k (fGoodTm S j)) + (0 : Int32))) = some (Value.int (fGoodPm S j (k + 1) (fGoodTm S j))) from congrArg (fun z => some (Value.int z)) (by rw [show fGoodPm S j (k + 1) (fGoodTm S j) = fGoodPm S j k (fGoodTm S j) + zb (fGoodM S j k) from rfl]; unfold fGoodM; simp_all [zb])), rfl, rfl, rfl, trivial⟩ ?_
          exact ihk M ⟨hR, hI37, hI8⟩
        · refine zs_iconst (v := 1) (n := 86) dX16_goodShare_85 (by decide) rfl ?_
          refine zs_goto (tgt := 90) dX16_goodShare_86 (by decide) ?_
          refine zs_iadd (n := 91) dX16_goodShare_90 rfl ?_
          refine zs_istore_n (n := 92) dX16_goodShare_91 (by decide) rfl ?_
          refine zs_goto (tgt := 42) dX16_goodShare_92 (by decide) ?_
          refine zX.sub (L' := [(0, .ref (Λ 1001)), (1, .int (fManyP (k + 1) (fManyM S j))), (2, .int (fGoodPm S j (k + 1) (fGoodTm S j))), (3, .ref q8), (4, .ref (Λ (1100 + j))), (5, .ref q37)]) ⟨rfl, rfl, (show some (Value.int ((fGoodPm S j k (fGoodTm S j)) + (1 : Int32))) = some (Value.int (fGoodPm S j (k + 1) (fGoodTm S j))) from congrArg (fun z => some (Value.int z)) (by rw [show fGoodPm S j (k + 1) (fGoodTm S j) = fGoodPm S j k (fGoodTm S j) + zb (fGoodM S j k) from rfl]; unfold fGoodM; simp_all [zb])), rfl, rfl, rfl, trivial⟩ ?_
          exact ihk M ⟨hR, hI37, hI8⟩
    · intro M hR9
      obtain ⟨hR, hI37, hI8⟩ := hR9
      have hb942 : sc S (1010 + j) ≤ _ := hR.bnd.2.2 j
      refine zs_aload (n := 44) dX16_goodShare_42 rfl rfl ?_
      refine zi_has (r := (1120 + j)) (j := sc S (1010 + j)) (n := 49) dX16_goodShare_44 rfl hR (lvT' hj) (zki_T' (by omega)) hI37 (by rw [show zct (sc S) (1120 + j) = sc S (1010 + j) from zct_T' (by omega)]; omega) (by simp) (by omega) rfl ?_
      rw [show zct (sc S) (1120 + j) = sc S (1010 + j) from zct_T' (by omega)]
      refine zs_if_eq (tgt := 95) (n := 52) dX16_goodShare_49 (by decide) rfl (fun _ => ?_) (fun h => absurd (zb0.mpr (by rw [decide_eq_true rfl]; rfl)) h)
      refine zs_goto (tgt := 12) dX16_goodShare_95 (by decide) ?_
      refine zX.sub (L' := [(0, .ref (Λ 1001)), (1, .int (fManyM S (j + 1))), (2, .int (fGoodTm S (j + 1))), (3, .ref q8)]) ⟨rfl, rfl, rfl, rfl, trivial⟩ ?_
      exact ih M ⟨hR, hI8⟩
    · exact ⟨hR, hI37, hI8⟩
  · intro M hR9
    obtain ⟨hR, hI8⟩ := hR9
    have hb912 : sc S 1000 ≤ _ := hR.bnd.2.1.1
    refine zs_aload_n (n := 13) dX16_goodShare_12 rfl rfl ?_
    refine zi_has (r := 1015) (j := sc S 1000) (n := 18) dX16_goodShare_13 rfl hR (lvM h4 (by omega)) rfl hI8 (by rw [show zct (sc S) 1015 = sc S 1000 from rfl]; omega) (by simp) (by omega) rfl ?_
    rw [show zct (sc S) 1015 = sc S 1000 from rfl]
    refine zs_if_eq (tgt := 98) (n := 21) dX16_goodShare_18 (by decide) rfl (fun _ => ?_) (fun h => absurd (zb0.mpr (by rw [decide_eq_true rfl]; rfl)) h)
    refine zs_aload_n (n := 99) dX16_goodShare_98 rfl rfl ?_
    refine zs_aload_n (n := 100) dX16_goodShare_99 rfl rfl ?_
    refine zs_getv (x := (sV S 1001 680)) (n := 103) dX16_goodShare_100 gf_X16_161 (hR.kd (lvM h4 (by omega))) (hR.iv (lvM h4 (by omega)) (by decide) (by decide)) rfl ?_
    refine zs_if_ne (tgt := 110) (n := 106) dX16_goodShare_103 (by decide) rfl (fun _ => ?_) (fun h => absurd h hp)
    refine zs_iload_n (n := 111) dX16_goodShare_110 rfl rfl ?_
    refine zs_if_ne (tgt := 118) (n := 114) dX16_goodShare_111 (by decide) rfl (fun _ => ?_) (fun h => absurd h h0)
    refine zs_iconst (v := 0) (n := 119) dX16_goodShare_118 (by decide) rfl ?_
    refine zw_i (r := 1001) (n := 122) dX16_goodShare_119 pf_X16_goodShare_43 hR (lvM h4 (by omega)) (hR.kd (lvM h4 (by omega))) ⟨rfl, rfl⟩ (by decide) rfl ?_
    intro M hR hv
    refine zs_aload_n (n := 123) dX16_goodShare_122 rfl rfl ?_
    refine zs_getv (x := (0 : Int32)) (n := 126) dX16_goodShare_123 gf_X16_43 (hR.kd (lvM h4 (by omega))) (hR.iv (lvM h4 (by omega)) (by decide) (by decide)) rfl ?_
    refine zs_if_le (tgt := 133) (n := 129) dX16_goodShare_126 (by decide) rfl (fun _ => ?_) (fun h => absurd (by decide) h)
    refine zs_iload_n (n := 134) dX16_goodShare_133 rfl rfl ?_
    refine zs_i2f (n := 135) dX16_goodShare_134 rfl ?_
    refine zs_iload_n (n := 136) dX16_goodShare_135 rfl rfl ?_
    refine zs_i2f (n := 137) dX16_goodShare_136 rfl ?_
    refine zs_fdiv (n := 138) dX16_goodShare_137 hne rfl ?_
    refine zs_freturn dX16_goodShare_138 rfl ?_
    exact hQ _ hR
  · exact ⟨hR, hI8⟩
end ZMOD2
