/-! THE MODEL PLAYS: who is drowned, who gives, who goes on -/
section ZMOD11
variable {Z : zPar} {l : Launch} {Λ : Nat → Nat} {S : zSt} {M M0 : zMem} {d d' : Nat} {mm : zMeth} {pc n nc ns ix nc1 ns1 : Nat} {L : List (Nat × Value)} {st : List Value} {Q : zO → zMem → Prop}
/-- how loud the turn of the k-th pitch is heard at the i-th -/
def fHrM (S : zSt) (A : Nat → Nat → Nat) (i k t : Nat) : Int32 := 10 * sV S (1140 + A k t) 545 + sV S (1100 + k) 577 - (if 0 ≤ sV S (1100 + k) 576 - sV S (1100 + i) 576 then sV S (1100 + k) 576 - sV S (1100 + i) 576 else 0 - (sV S (1100 + k) 576 - sV S (1100 + i) 576))
def fDrM (S : zSt) (A : Nat → Nat → Nat) (i a : Nat) (m : Int32) (n : Nat) : Bool := zit (fun k b => if ¬ k = i ∧ fAtM S k m < sc S (1010 + k) then b || decide (10 * sV S (1140 + a) 545 < fHrM S A i k (fAtM S k m)) else b) n false
theorem k_isDrowned {i a m : Nat} {A : Nat → Nat → Nat} (hR : zRp Z Λ S M) (h4 : sc S 4 = 1) (hi : i < sc S 1000) (ha : a < sc S 1001) (hA : zActs S A) : zD Z l 4 mth_X16_isDrowned [.ref (Λ 1001), .ref (Λ (1100 + i)), .ref (Λ (1140 + a)), .int (nI m)] M 0 0 (some (.int (zb (fDrM S A i a (nI m) (sc S 1000))))) M := by
  intro Q hQ
  have hb1 : sc S 1000 ≤ 6 := hR.bnd.2.1.1
  have hb2 : sc S 1001 ≤ 8 := hR.bnd.2.1.2.1
  show zX Z l 4 mth_X16_isDrowned 0 [(0, .ref (Λ 1001)), (1, .ref (Λ (1100 + i))), (2, .ref (Λ (1140 + a))), (3, .int (nI m))] [] M 0 0 Q
  refine zs_iconst (v := 0) (n := 1) dX16_isDrowned_0 (by decide) rfl ?_
  refine zs_istore (n := 3) dX16_isDrowned_1 (by decide) rfl ?_
  refine zs_iconst (v := 0) (n := 4) dX16_isDrowned_3 (by decide) rfl ?_
  refine zs_istore (n := 6) dX16_isDrowned_4 (by decide) rfl ?_
  refine zX.sub (L' := [(0, .ref (Λ 1001)), (1, .ref (Λ (1100 + i))), (2, .ref (Λ (1140 + a))), (3, .int (nI m)), (4, .int (zb (fDrM S A i a (nI m) 0))), (5, .int (nI 0))]) ⟨rfl, rfl, rfl, rfl, rfl, rfl, trivial⟩ ?_
  refine zloop (n := sc S 1000) (X := fun j => zX Z l 4 mth_X16_isDrowned 6 [(0, .ref (Λ 1001)), (1, .ref (Λ (1100 + i))), (2, .ref (Λ (1140 + a))), (3, .int (nI m)), (4, .int (zb (fDrM S A i a (nI m) j))), (5, .int (nI j))] [] M 0 0 Q) (fun j hj ih => ?_) ?_ 0 (Nat.zero_le _)
  · have hb6 : sc S 1000 ≤ 6 := hR.bnd.2.1.1
    refine zs_iload (n := 8) dX16_isDrowned_6 rfl rfl ?_
    refine zs_aload_n (n := 9) dX16_isDrowned_8 rfl rfl ?_
    refine zs_getr (b := (Λ 1015)) (n := 12) dX16_isDrowned_9 gf_X16_10 (hR.kd (lvM h4 (by omega))) (hR.pt (lvM h4 (by omega)) rfl (by decide)) rfl ?_
    refine zc_size (c := sc S 1000) (n := 15) dX16_isDrowned_12 ml_X16_46 (hR.lP' h4) (by simp) (by omega) rfl ?_
    refine zs_icmp_ge (tgt := 128) (n := 18) dX16_isDrowned_15 (by decide) rfl (fun h => absurd h (nI_ge hj (by omega))) (fun _ => ?_)
    refine zs_aload_n (n := 19) dX16_isDrowned_18 rfl rfl ?_
    refine zs_getr (b := (Λ 1015)) (n := 22) dX16_isDrowned_19 gf_X16_10 (hR.kd (lvM h4 (by omega))) (hR.pt (lvM h4 (by omega)) rfl (by decide)) rfl ?_
    refine zs_iload (n := 24) dX16_isDrowned_22 rfl rfl ?_
    refine zc_getb (c := sc S 1000) (b := (Λ (1100 + j))) (n := 27) dX16_isDrowned_24 ml_X16_94 (hR.lP' h4) hj rfl (by simp) (by omega) rfl ?_
    refine zs_castS (ci := 18) (n := 30) dX16_isDrowned_27 rfl cl_X16_68 (hR.kP' hj) rfl ?_
    refine zs_astore (n := 32) dX16_isDrowned_30 (by decide) rfl ?_
    refine zs_aload (n := 34) dX16_isDrowned_32 rfl rfl ?_
    refine zs_aload_n (n := 35) dX16_isDrowned_34 rfl rfl ?_
    refine zs_acmp_ne (tgt := 42) (n := 38) dX16_isDrowned_35 (by decide) rfl (fun h35 => ?_) (fun h35 => ?_)
    · have hki : ¬ j = i := fun e => h35 (by rw [e])
      refine zs_aload (n := 44) dX16_isDrowned_42 rfl rfl ?_
      refine zs_iload_n (n := 45) dX16_isDrowned_44 rfl rfl ?_
      by_cases hat45 : fAtM S j (nI m) < sc S (1010 + j)
      · refine zc_V (n := 48) (As := [.int (nI m)]) (ci := 18) (mc := 0) (ms := 0) (d' := 3) dX16_isDrowned_45 ok_X13_at ⟨ml_X16_226, im_X13_at, sl_X13_at⟩ rfl (hR.kP' hj) rfl (Nat.le_of_ble_eq_true rfl) (by simp) (by omega) (Nat.le_refl _) (Nat.le_refl _) rfl rfl (k_at hR h4 hj rfl hat45) ?_
        have hpos : fDrM S A i a (nI m) (j + 1) = (fDrM S A i a (nI m) j || decide (10 * sV S (1140 + a) 545 < fHrM S A i j (fAtM S j (nI m)))) := if_pos ⟨hki, hat45⟩
        refine zs_astore (n := 50) dX16_isDrowned_48 (by decide) rfl ?_
        refine zs_aload (n := 52) dX16_isDrowned_50 rfl rfl ?_
        refine zs_ifnull (n := 55) dX16_isDrowned_52 rfl ?_
        refine zs_bipush (v := 10) (n := 57) dX16_isDrowned_55 (by decide) rfl ?_
        refine zs_aload_n (n := 58) dX16_isDrowned_57 rfl rfl ?_
        refine zs_getr (b := (Λ 1017)) (n := 61) dX16_isDrowned_58 gf_X16_16 (hR.kd (lvM h4 (by omega))) (hR.pt (lvM h4 (by omega)) rfl (by decide)) rfl ?_
        refine zs_aload (n := 63) dX16_isDrowned_61 rfl rfl ?_
        refine zs_getv (x := (sV S (1160 + 8 * j + (fAtM S j (nI m))) 608)) (n := 66) dX16_isDrowned_63 gf_X16_169 (hR.kK' hj hat45) (hR.iv (lvK' hj hat45) (by decide) (by decide)) rfl ?_
        rw [(hA j _ hj hat45).1]
        have hat45a := (hA j _ hj hat45).2
        refine zc_getb (c := sc S 1001) (b := (Λ (1140 + (A j (fAtM S j (nI m)))))) (n := 69) dX16_isDrowned_66 ml_X16_94 (hR.lA' h4) hat45a rfl (by simp) (by omega) rfl ?_
        refine zs_castS (ci := 17) (n := 72) dX16_isDrowned_69 rfl cl_X16_111 (hR.kA' hat45a) rfl ?_
        refine zs_getv (x := (sV S (1140 + (A j (fAtM S j (nI m)))) 545)) (n := 75) dX16_isDrowned_72 gf_X16_238 (hR.kA' hat45a) (hR.iv (lvA' hat45a) (by decide) (by decide)) rfl ?_
        refine zs_imul (n := 76) dX16_isDrowned_75 rfl ?_
        refine zs_aload (n := 78) dX16_isDrowned_76 rfl rfl ?_
        refine zs_getv (x := (sV S (1100 + j) 577)) (n := 81) dX16_isDrowned_78 gf_X16_241 (hR.kP' hj) (hR.iv (lvP' hj) (by decide) (by decide)) rfl ?_
        refine zs_iadd (n := 82) dX16_isDrowned_81 rfl ?_
        refine zs_aload (n := 84) dX16_isDrowned_82 rfl rfl ?_
        refine zs_getv (x := (sV S (1100 + j) 576)) (n := 87) dX16_isDrowned_84 gf_X16_70 (hR.kP' hj) (hR.iv (lvP' hj) (by decide) (by decide)) rfl ?_
        refine zs_aload_n (n := 88) dX16_isDrowned_87 rfl rfl ?_
        refine zs_getv (x := (sV S (1100 + i) 576)) (n := 91) dX16_isDrowned_88 gf_X16_70 (hR.kP' hi) (hR.iv (lvP' hi) (by decide) (by decide)) rfl ?_
        refine zs_isub (n := 92) dX16_isDrowned_91 rfl ?_
        refine zs_abs (n := 95) dX16_isDrowned_92 ⟨⟨tw_8 _ (List.mem_of_getElem? (i := 41) (by decide +kernel)), by decide +kernel⟩, w_a1, w_m2, w_a3⟩ (by simp) rfl ?_
        refine zs_isub (n := 96) dX16_isDrowned_95 rfl ?_
        refine zs_istore (n := 98) dX16_isDrowned_96 (by decide) rfl ?_
        refine zs_iload (n := 100) dX16_isDrowned_98 rfl rfl ?_
        refine zs_if_ne (tgt := 115) (n := 103) dX16_isDrowned_100 (by decide) rfl (fun h100 => ?_) (fun h100 => ?_)
        · have hst : fDrM S A i a (nI m) (j + 1) = true := by
            first
            | exact hpos.trans ((congrArg (fun b => b || _) (zb1.mp h100)).trans (Bool.true_or _))
            | exact hpos.trans ((congrArg (fun b => _ || b) (decide_eq_true (Int32.not_le.mp h112))).trans (Bool.or_true _))
          refine zs_iconst (v := 1) (n := 116) dX16_isDrowned_115 (by decide) rfl ?_
          refine zs_goto (tgt := 120) dX16_isDrowned_116 (by decide) ?_
          refine zs_istore (n := 122) dX16_isDrowned_120 (by decide) rfl ?_
          refine zs_iinc (v := (nI (j + 1))) (n := 125) dX16_isDrowned_122 rfl (nI_1 _) (by decide) rfl ?_
          refine zs_goto (tgt := 6) dX16_isDrowned_125 (by decide) ?_
          refine zX.sub (L' := [(0, .ref (Λ 1001)), (1, .ref (Λ (1100 + i))), (2, .ref (Λ (1140 + a))), (3, .int (nI m)), (4, .int (zb (fDrM S A i a (nI m) (j + 1)))), (5, .int (nI (j + 1)))]) ⟨rfl, rfl, rfl, rfl, (show some (Value.int (1 : Int32)) = some (Value.int (zb (fDrM S A i a (nI m) (j + 1)))) from congrArg (fun z => some (Value.int z)) (by first | (rw [hst]; done) | (rw [hst]; rfl))), rfl, trivial⟩ ?_
          exact ih
        · refine zs_iload (n := 105) dX16_isDrowned_103 rfl rfl ?_
          refine zs_bipush (v := 10) (n := 107) dX16_isDrowned_105 (by decide) rfl ?_
          refine zs_aload_n (n := 108) dX16_isDrowned_107 rfl rfl ?_
          refine zs_getv (x := (sV S (1140 + a) 545)) (n := 111) dX16_isDrowned_108 gf_X16_238 (hR.kA' ha) (hR.iv (lvA' ha) (by decide) (by decide)) rfl ?_
          refine zs_imul (n := 112) dX16_isDrowned_111 rfl ?_
          refine zs_icmp_le (tgt := 119) (n := 115) dX16_isDrowned_112 (by decide) rfl (fun h112 => ?_) (fun h112 => ?_)
          · have hst : fDrM S A i a (nI m) (j + 1) = false := hpos.trans ((congrArg (fun b => b || _) (zb0.mp h100)).trans ((Bool.false_or _).trans (decide_eq_false (Int32.not_lt.mpr h112))))
            refine zs_iconst (v := 0) (n := 120) dX16_isDrowned_119 (by decide) rfl ?_
            refine zs_istore (n := 122) dX16_isDrowned_120 (by decide) rfl ?_
            refine zs_iinc (v := (nI (j + 1))) (n := 125) dX16_isDrowned_122 rfl (nI_1 _) (by decide) rfl ?_
            refine zs_goto (tgt := 6) dX16_isDrowned_125 (by decide) ?_
            refine zX.sub (L' := [(0, .ref (Λ 1001)), (1, .ref (Λ (1100 + i))), (2, .ref (Λ (1140 + a))), (3, .int (nI m)), (4, .int (zb (fDrM S A i a (nI m) (j + 1)))), (5, .int (nI (j + 1)))]) ⟨rfl, rfl, rfl, rfl, (show some (Value.int (0 : Int32)) = some (Value.int (zb (fDrM S A i a (nI m) (j + 1)))) from congrArg (fun z => some (Value.int z)) (by first | (rw [hst]; done) | (rw [hst]; rfl))), rfl, trivial⟩ ?_
            exact ih
          · have hst : fDrM S A i a (nI m) (j + 1) = true := by
              first
              | exact hpos.trans ((congrArg (fun b => b || _) (zb1.mp h100)).trans (Bool.true_or _))
              | exact hpos.trans ((congrArg (fun b => _ || b) (decide_eq_true (Int32.not_le.mp h112))).trans (Bool.or_true _))
            refine zs_iconst (v := 1) (n := 116) dX16_isDrowned_115 (by decide) rfl ?_
            refine zs_goto (tgt := 120) dX16_isDrowned_116 (by decide) ?_
            refine zs_istore (n := 122) dX16_isDrowned_120 (by decide) rfl ?_
            refine zs_iinc (v := (nI (j + 1))) (n := 125) dX16_isDrowned_122 rfl (nI_1 _) (by decide) rfl ?_
            refine zs_goto (tgt := 6) dX16_isDrowned_125 (by decide) ?_
            refine zX.sub (L' := [(0, .ref (Λ 1001)), (1, .ref (Λ (1100 + i))), (2, .ref (Λ (1140 + a))), (3, .int (nI m)), (4, .int (zb (fDrM S A i a (nI m) (j + 1)))), (5, .int (nI (j + 1)))]) ⟨rfl, rfl, rfl, rfl, (show some (Value.int (1 : Int32)) = some (Value.int (zb (fDrM S A i a (nI m) (j + 1)))) from congrArg (fun z => some (Value.int z)) (by first | (rw [hst]; done) | (rw [hst]; rfl))), rfl, trivial⟩ ?_
            exact ih
      · refine zc_V (n := 48) (As := [.int (nI m)]) (ci := 18) (mc := 0) (ms := 0) (d' := 3) dX16_isDrowned_45 ok_X13_at ⟨ml_X16_226, im_X13_at, sl_X13_at⟩ rfl (hR.kP' hj) rfl (Nat.le_of_ble_eq_true rfl) (by simp) (by omega) (Nat.le_refl _) (Nat.le_refl _) rfl rfl (k_at_no hR h4 hj hat45) ?_
        have hst : fDrM S A i a (nI m) (j + 1) = fDrM S A i a (nI m) j := if_neg (fun h => hat45 h.2)
        refine zs_astoreN (n := 50) dX16_isDrowned_48 (by decide) rfl ?_
        refine zs_aloadN (n := 52) dX16_isDrowned_50 rfl rfl ?_
        refine zs_ifnullN (tgt := 122) dX16_isDrowned_52 (by decide) ?_
        refine zs_iinc (v := (nI (j + 1))) (n := 125) dX16_isDrowned_122 rfl (nI_1 _) (by decide) rfl ?_
        refine zs_goto (tgt := 6) dX16_isDrowned_125 (by decide) ?_
        refine zX.sub (L' := [(0, .ref (Λ 1001)), (1, .ref (Λ (1100 + i))), (2, .ref (Λ (1140 + a))), (3, .int (nI m)), (4, .int (zb (fDrM S A i a (nI m) (j + 1)))), (5, .int (nI (j + 1)))]) ⟨rfl, rfl, rfl, rfl, (show some (Value.int (zb (fDrM S A i a (nI m) j))) = some (Value.int (zb (fDrM S A i a (nI m) (j + 1)))) from congrArg (fun z => some (Value.int z)) (by first | (rw [hst]; done) | (rw [hst]; rfl))), rfl, trivial⟩ ?_
        exact ih
    · have hki : j = i := by have := (hR.eq (lvP' hj) (lvP' hi)).mp h35; omega
      have hst : fDrM S A i a (nI m) (j + 1) = fDrM S A i a (nI m) j := if_neg (fun h => h.1 hki)
      refine zs_null (n := 39) dX16_isDrowned_38 rfl ?_
      refine zs_goto (tgt := 48) dX16_isDrowned_39 (by decide) ?_
      refine zs_astoreN (n := 50) dX16_isDrowned_48 (by decide) rfl ?_
      refine zs_aloadN (n := 52) dX16_isDrowned_50 rfl rfl ?_
      refine zs_ifnullN (tgt := 122) dX16_isDrowned_52 (by decide) ?_
      refine zs_iinc (v := (nI (j + 1))) (n := 125) dX16_isDrowned_122 rfl (nI_1 _) (by decide) rfl ?_
      refine zs_goto (tgt := 6) dX16_isDrowned_125 (by decide) ?_
      refine zX.sub (L' := [(0, .ref (Λ 1001)), (1, .ref (Λ (1100 + i))), (2, .ref (Λ (1140 + a))), (3, .int (nI m)), (4, .int (zb (fDrM S A i a (nI m) (j + 1)))), (5, .int (nI (j + 1)))]) ⟨rfl, rfl, rfl, rfl, (show some (Value.int (zb (fDrM S A i a (nI m) j))) = some (Value.int (zb (fDrM S A i a (nI m) (j + 1)))) from congrArg (fun z => some (Value.int z)) (by first | (rw [hst]; done) | (rw [hst]; rfl))), rfl, trivial⟩ ?_
      exact ih
  · have hb6 : sc S 1000 ≤ 6 := hR.bnd.2.1.1
    refine zs_iload (n := 8) dX16_isDrowned_6 rfl rfl ?_
    refine zs_aload_n (n := 9) dX16_isDrowned_8 rfl rfl ?_
    refine zs_getr (b := (Λ 1015)) (n := 12) dX16_isDrowned_9 gf_X16_10 (hR.kd (lvM h4 (by omega))) (hR.pt (lvM h4 (by omega)) rfl (by decide)) rfl ?_
    refine zc_size (c := sc S 1000) (n := 15) dX16_isDrowned_12 ml_X16_46 (hR.lP' h4) (by simp) (by omega) rfl ?_
    refine zs_icmp_ge (tgt := 128) (n := 18) dX16_isDrowned_15 (by decide) rfl (fun _ => ?_) (fun h => absurd (nI_le (Nat.le_refl _) (by omega)) h)
    refine zs_iload (n := 130) dX16_isDrowned_128 rfl rfl ?_
    refine zs_ireturn dX16_isDrowned_130 ⟨_, rfl, (znb _)⟩ ?_
    exact hQ
end ZMOD11
